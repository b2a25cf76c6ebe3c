set_option maxRecDepth 20000 in
theorem ggL_eventKind_X8_eventKind : GoodIn wsL_eventKind wsX8_eventKind := goodIn_ca (goodIn_r _ [6, 7, 8, 9, 10, 11, 12, 13, 14, 15, 16, 17, 18, 19, 20, 21, 22, 23, 24, 25, 26, 27, 28, 29, 30, 31, 32, 33, 34, 35, 36, 37, 38, 39, 40, 41, 42, 43, 44, 45, 46, 47, 48, 49, 50, 51] (by decide +kernel) (by decide +kernel)) (goodIn_sub (fun _ h => List.mem_cons_of_mem _ (List.mem_append_right _ h)) (by decide +kernel))
set_option maxRecDepth 20000 in
theorem gL_eventKind_X8_eventKind : GoodIn wsL_eventKind (wsV RL 7 RX8 yX8_eventKind wsX8_eventKind) := goodIn_app (goodIn_of _ (by decide +kernel)) ggL_eventKind_X8_eventKind
theorem dL_eventKind_0 : decode cL_eventKind 0 = .ok (.aload_n 2, 1) := by decide +kernel
theorem dL_eventKind_1 : decode cL_eventKind 1 = .ok (.iconst 0, 1) := by decide +kernel
theorem dL_eventKind_2 : decode cL_eventKind 2 = .ok (.aload_n 0, 1) := by decide +kernel
theorem dL_eventKind_3 : decode cL_eventKind 3 = .ok (.iload_n 1, 1) := by decide +kernel
theorem dL_eventKind_4 : decode cL_eventKind 4 = .ok (.invokevirtual 7, 3) := by decide +kernel
theorem dL_eventKind_7 : decode cL_eventKind 7 = .ok (.i2l, 1) := by decide +kernel
theorem dL_eventKind_8 : decode cL_eventKind 8 = .ok (.lastore, 1) := by decide +kernel
theorem dL_eventKind_9 : decode cL_eventKind 9 = .ok (.goto 6, 3) := by decide +kernel
theorem dL_eventKind_12 : decode cL_eventKind 12 = .ok (.astore_n 3, 1) := by decide +kernel
theorem dL_eventKind_13 : decode cL_eventKind 13 = .ok (.iconst 1, 1) := by decide +kernel
theorem dL_eventKind_14 : decode cL_eventKind 14 = .ok (.ireturn, 1) := by decide +kernel
theorem dL_eventKind_15 : decode cL_eventKind 15 = .ok (.iconst 0, 1) := by decide +kernel
theorem dL_eventKind_16 : decode cL_eventKind 16 = .ok (.ireturn, 1) := by decide +kernel
set_option maxRecDepth 20000 in
theorem ggL_eventNumber_X8_eventNumber : GoodIn wsL_eventNumber wsX8_eventNumber := goodIn_ca (goodIn_r _ [6, 7, 8, 9, 10, 11, 12, 13, 14, 15, 16, 17, 18, 19, 20, 21, 22, 23, 24, 25, 26, 27, 28, 29, 30, 31, 32, 33, 34, 35, 36, 37, 38, 39, 40, 41, 42, 43, 44, 45, 46, 47, 48, 49, 50, 51] (by decide +kernel) (by decide +kernel)) (goodIn_sub (fun _ h => List.mem_cons_of_mem _ (List.mem_append_right _ h)) (by decide +kernel))
set_option maxRecDepth 20000 in
theorem gL_eventNumber_X8_eventNumber : GoodIn wsL_eventNumber (wsV RL 15 RX8 yX8_eventNumber wsX8_eventNumber) := goodIn_app (goodIn_of _ (by decide +kernel)) ggL_eventNumber_X8_eventNumber
theorem dL_eventNumber_0 : decode cL_eventNumber 0 = .ok (.aload_n 2, 1) := by decide +kernel
theorem dL_eventNumber_1 : decode cL_eventNumber 1 = .ok (.iconst 0, 1) := by decide +kernel
theorem dL_eventNumber_2 : decode cL_eventNumber 2 = .ok (.aload_n 0, 1) := by decide +kernel
theorem dL_eventNumber_3 : decode cL_eventNumber 3 = .ok (.iload_n 1, 1) := by decide +kernel
theorem dL_eventNumber_4 : decode cL_eventNumber 4 = .ok (.invokevirtual 15, 3) := by decide +kernel
theorem dL_eventNumber_7 : decode cL_eventNumber 7 = .ok (.i2l, 1) := by decide +kernel
theorem dL_eventNumber_8 : decode cL_eventNumber 8 = .ok (.lastore, 1) := by decide +kernel
theorem dL_eventNumber_9 : decode cL_eventNumber 9 = .ok (.goto 6, 3) := by decide +kernel
theorem dL_eventNumber_12 : decode cL_eventNumber 12 = .ok (.astore_n 3, 1) := by decide +kernel
theorem dL_eventNumber_13 : decode cL_eventNumber 13 = .ok (.iconst 1, 1) := by decide +kernel
theorem dL_eventNumber_14 : decode cL_eventNumber 14 = .ok (.ireturn, 1) := by decide +kernel
theorem dL_eventNumber_15 : decode cL_eventNumber 15 = .ok (.iconst 0, 1) := by decide +kernel
theorem dL_eventNumber_16 : decode cL_eventNumber 16 = .ok (.ireturn, 1) := by decide +kernel
set_option maxRecDepth 20000 in
theorem ggL_eventDay_X8_eventDay : GoodIn wsL_eventDay wsX8_eventDay := goodIn_ca (goodIn_r _ [6, 7, 8, 9, 10, 11, 12, 13, 14, 15, 16, 17, 18, 19, 20, 21, 22, 23, 24, 25, 26, 27, 28, 29, 30, 31, 32, 33, 34, 35, 36, 37, 38, 39, 40, 41, 42, 43, 44, 45, 46, 47, 48, 49, 50, 51] (by decide +kernel) (by decide +kernel)) (goodIn_sub (fun _ h => List.mem_cons_of_mem _ (List.mem_append_right _ h)) (by decide +kernel))
set_option maxRecDepth 20000 in
theorem gL_eventDay_X8_eventDay : GoodIn wsL_eventDay (wsV RL 18 RX8 yX8_eventDay wsX8_eventDay) := goodIn_app (goodIn_of _ (by decide +kernel)) ggL_eventDay_X8_eventDay
theorem dL_eventDay_0 : decode cL_eventDay 0 = .ok (.aload_n 2, 1) := by decide +kernel
theorem dL_eventDay_1 : decode cL_eventDay 1 = .ok (.iconst 0, 1) := by decide +kernel
theorem dL_eventDay_2 : decode cL_eventDay 2 = .ok (.aload_n 0, 1) := by decide +kernel
theorem dL_eventDay_3 : decode cL_eventDay 3 = .ok (.iload_n 1, 1) := by decide +kernel
theorem dL_eventDay_4 : decode cL_eventDay 4 = .ok (.invokevirtual 18, 3) := by decide +kernel
theorem dL_eventDay_7 : decode cL_eventDay 7 = .ok (.i2l, 1) := by decide +kernel
theorem dL_eventDay_8 : decode cL_eventDay 8 = .ok (.lastore, 1) := by decide +kernel
theorem dL_eventDay_9 : decode cL_eventDay 9 = .ok (.goto 6, 3) := by decide +kernel
theorem dL_eventDay_12 : decode cL_eventDay 12 = .ok (.astore_n 3, 1) := by decide +kernel
theorem dL_eventDay_13 : decode cL_eventDay 13 = .ok (.iconst 1, 1) := by decide +kernel
theorem dL_eventDay_14 : decode cL_eventDay 14 = .ok (.ireturn, 1) := by decide +kernel
theorem dL_eventDay_15 : decode cL_eventDay 15 = .ok (.iconst 0, 1) := by decide +kernel
theorem dL_eventDay_16 : decode cL_eventDay 16 = .ok (.ireturn, 1) := by decide +kernel
set_option maxRecDepth 20000 in
theorem ggL_law_X8_init : GoodIn wsL_law wsX8_init := goodIn_r _ [9, 10, 11, 12, 13, 14, 15, 16, 17, 18, 19, 20, 21, 22, 23, 24, 25, 26, 27, 28, 29, 30, 31, 32, 33, 34, 35, 36, 37, 38, 39, 40, 41, 42, 43, 44, 45, 46, 47, 48, 49, 50, 51, 6, 52, 53, 54, 55, 56, 57, 58, 59, 60, 61, 62, 63, 64, 65, 66, 67, 68, 69, 70, 71, 72, 73, 74, 75, 76, 77, 78, 79, 80, 81, 82, 83, 84, 85, 86, 87, 88, 89, 90, 91, 92, 93, 94, 95, 96, 97, 98, 99, 100, 101, 102, 103, 104, 105, 106, 107, 108, 109, 110, 111, 112, 113, 114, 115, 116, 117, 118, 119, 120, 121, 122, 123, 124, 125, 126, 127, 128, 129, 130, 131, 1270, 1271, 1272, 1273, 1274, 1275, 1276, 1277, 1278, 1279, 1280, 1281, 1282, 1283, 1284, 1330, 1331, 1332, 1333, 1334, 1335, 1336, 1337, 1338, 1339, 1340, 1341, 1342, 1343, 1344, 1345, 1346, 1347, 1348, 1349, 1350, 1351, 1352, 1353, 1354, 1355, 1356, 1357, 1358, 1359, 1360, 1361, 1362, 1363, 1364, 1365, 1366, 1367, 1368, 1369, 1370, 1371, 1372, 1373, 1374, 1375, 1376, 1377, 1378, 1379, 1380, 1381, 1382, 1383, 1384, 1385, 1386, 1387, 1388, 1389] (by decide +kernel) (by decide +kernel)
set_option maxRecDepth 20000 in
theorem gL_law_X8_init : GoodIn wsL_law (wsX8_init) := ggL_law_X8_init
set_option maxRecDepth 20000 in
theorem ggL_law_X9_init : GoodIn wsL_law wsX9_init := goodIn_r _ [134, 135, 11, 12, 59, 136, 137, 138, 139, 140, 141, 142, 143, 144, 145, 146, 147, 148, 149, 150, 151, 152, 153, 154, 13, 155, 156, 6, 157, 158, 159, 160, 161, 162, 163, 37, 164, 165, 166, 167, 168, 169, 5, 170, 171, 172, 1285, 1286, 1287, 1288, 1289, 1290, 1291, 1292, 1293, 1294, 1295, 1296, 1297, 1298, 1299, 1300, 1301, 1302, 1303, 1304, 1305, 1306, 1307, 1308, 1309, 1310, 1311, 1312, 1313, 1314, 1315, 1316, 1317, 1318, 1319, 1320, 1321, 1322, 1323, 1324, 1325, 1326, 1327, 1328, 1329] (by decide +kernel) (by decide +kernel)
set_option maxRecDepth 20000 in
theorem gL_law_X9_init : GoodIn wsL_law (wsX9_init) := ggL_law_X9_init
set_option maxRecDepth 20000 in
theorem ggL_law_X8_append : GoodIn wsL_law wsX8_append := goodIn_r _ [176, 177, 178, 179, 180, 2, 181, 14, 1270, 1271, 1272, 1273, 1274, 1275, 1276, 1277, 1278, 1279, 1280, 1281, 1282, 1283, 1284] (by decide +kernel) (by decide +kernel)
set_option maxRecDepth 20000 in
theorem gL_law_X8_append : GoodIn wsL_law (wsV RL 25 RX8 yX8_append wsX8_append) := goodIn_app (goodIn_of _ (by decide +kernel)) ggL_law_X8_append
set_option maxRecDepth 20000 in
theorem ggL_law_X9_append : GoodIn wsL_law wsX9_append := goodIn_r _ [185, 186, 187, 188, 189, 190, 5, 191, 155, 1285, 1286, 1287, 1288, 1289, 1290, 1291, 1292, 1293, 1294, 1295, 1296, 1297, 1298, 1299, 1300, 1301, 1302, 1303, 1304, 1305, 1306, 1307, 1308, 1309, 1310, 1311, 1312, 1313, 1314, 1315, 1316, 1317, 1318, 1319, 1320, 1321, 1322, 1323, 1324, 1325, 1326, 1327, 1328, 1329] (by decide +kernel) (by decide +kernel)
set_option maxRecDepth 20000 in
theorem gL_law_X9_append : GoodIn wsL_law (wsV RL 29 RX9 yX9_append wsX9_append) := goodIn_app (goodIn_of _ (by decide +kernel)) ggL_law_X9_append
set_option maxRecDepth 20000 in
theorem ggL_law_X8_parse : GoodIn wsL_law wsX8_parse := goodIn_r _ [195, 177, 18, 14, 44, 196, 39, 197, 198, 199, 17, 200, 48, 201, 202, 203, 204, 205, 206, 207, 208, 209, 210, 211, 212, 213, 214, 42, 215, 93, 216, 217, 218, 101, 219, 102, 220, 221, 222, 92, 223, 224, 225, 226, 227, 228, 229, 230, 231, 232, 233, 234, 235, 236, 237, 238, 239, 240, 241, 242, 243, 244, 245, 246, 247, 248, 249, 250, 251, 252, 253, 254, 255, 256, 257, 258, 259, 260, 261, 262, 263, 264, 265, 266, 267, 268, 269, 270, 271, 272, 273, 274, 275, 276, 277, 278, 279, 280, 281, 282, 283, 284, 285, 286, 287, 288, 289, 290, 291, 292, 293, 294, 295, 296, 297, 298, 299, 300, 301, 302, 303, 304, 305, 306, 307, 308, 309, 310, 311, 312, 313, 314, 315, 316, 317, 318, 94, 95, 96, 319, 320, 321, 322, 323, 324, 325, 326, 327, 108, 109, 110, 328, 329, 330, 331, 332, 333, 334, 335, 336, 337, 338, 339, 111, 340, 341, 342, 343, 344, 345, 346, 347, 348, 349, 350, 351, 352, 353, 354, 355, 356, 106, 107, 357, 358, 359, 360, 361, 362, 363, 364, 365, 97, 98, 366, 367, 368, 369, 370, 371, 372, 373, 374, 99, 100, 375, 376, 377, 378, 379, 380, 381, 382, 383, 384, 385, 386, 387, 388, 389, 390, 391, 392, 393, 394, 395, 396, 2, 397, 43, 34, 26, 398, 38, 112, 113, 114, 33, 115, 71, 116, 72, 73, 74, 75, 117, 76, 78, 79, 118, 119, 120, 121, 122, 77, 123, 124, 125, 126, 127, 128, 129, 130, 131, 399, 400, 401, 25, 402, 403, 1270, 1271, 1272, 1273, 1274, 1275, 1276, 1277, 1278, 1279, 1280, 1281, 1282, 1283, 1284, 1330, 1331, 1332, 1333, 1334, 1335, 1336, 1337, 1338, 1339, 1364, 1365, 1366, 1367, 1368, 1369, 1370, 1371, 1372, 1373, 1374, 1375, 1376, 1377, 1382, 1383, 1384, 1385, 1386, 1387, 1388, 1389, 1349, 1350, 1351, 1352, 1353, 1354, 1355, 1356, 1357, 1358, 1359, 1360, 1361, 1362, 1363, 1378, 1379, 1380, 1381, 1342, 1343, 1344, 1345, 1346, 1347] (by decide +kernel) (by decide +kernel)
set_option maxRecDepth 20000 in
theorem gL_law_X8_parse : GoodIn wsL_law (wsV RL 30 RX8 yX8_parse wsX8_parse) := goodIn_app (goodIn_of _ (by decide +kernel)) ggL_law_X8_parse
set_option maxRecDepth 20000 in
theorem ggL_law_X9_parse : GoodIn wsL_law wsX9_parse := goodIn_r _ [407, 186, 187, 408, 409, 410, 156, 137, 141, 145, 149, 152, 411, 412, 413, 414, 415, 416, 5, 417, 418, 419, 420, 421, 422, 423, 424, 425, 426, 427, 155, 428, 429, 430, 431, 432, 433, 434, 435, 436, 254, 255, 256, 257, 258, 259, 260, 261, 262, 263, 264, 437, 266, 267, 268, 269, 270, 271, 272, 273, 274, 275, 276, 277, 278, 279, 280, 281, 282, 283, 284, 285, 286, 287, 288, 289, 290, 291, 292, 293, 294, 295, 296, 297, 298, 299, 300, 301, 438, 439, 440, 441, 138, 442, 139, 140, 443, 444, 445, 446, 447, 448, 449, 450, 451, 452, 453, 454, 455, 456, 457, 458, 143, 144, 142, 459, 460, 461, 462, 463, 464, 465, 146, 147, 148, 466, 467, 468, 469, 150, 151, 470, 471, 472, 473, 153, 154, 474, 475, 476, 477, 478, 479, 480, 481, 482, 483, 484, 485, 165, 171, 166, 486, 487, 488, 489, 490, 491, 167, 168, 169, 170, 136, 172, 164, 1285, 1286, 1287, 1288, 1289, 1290, 1291, 1292, 1293, 1294, 1295, 1296, 1297, 1298, 1299, 1300, 1301, 1302, 1303, 1304, 1305, 1306, 1307, 1308, 1309, 1310, 1311, 1312, 1313, 1314, 1315, 1316, 1317, 1318, 1319, 1320, 1321, 1322, 1323, 1324, 1325, 1326, 1327, 1328, 1329] (by decide +kernel) (by decide +kernel)
set_option maxRecDepth 20000 in
theorem gL_law_X9_parse : GoodIn wsL_law (wsV RL 33 RX9 yX9_parse wsX9_parse) := goodIn_app (goodIn_of _ (by decide +kernel)) ggL_law_X9_parse
set_option maxRecDepth 20000 in
theorem ggL_law_X8_errorPosition : GoodIn wsL_law wsX8_errorPosition := goodIn_r _ [495, 39, 1270, 1271, 1272, 1273, 1274, 1275, 1276, 1277, 1278, 1279, 1280, 1281, 1282, 1283, 1284] (by decide +kernel) (by decide +kernel)
set_option maxRecDepth 20000 in
theorem gL_law_X8_errorPosition : GoodIn wsL_law (wsV RL 34 RX8 yX8_errorPosition wsX8_errorPosition) := goodIn_app (goodIn_of _ (by decide +kernel)) ggL_law_X8_errorPosition
set_option maxRecDepth 20000 in
theorem ggL_law_X9_errorPosition : GoodIn wsL_law wsX9_errorPosition := goodIn_r _ [499, 186, 156, 1285, 1286, 1287, 1288, 1289, 1290, 1291, 1292, 1293, 1294, 1295, 1296, 1297, 1298, 1299, 1300, 1301, 1302, 1303, 1304, 1305, 1306, 1307, 1308, 1309, 1310, 1311, 1312, 1313, 1314, 1315, 1316, 1317, 1318, 1319, 1320, 1321, 1322, 1323, 1324, 1325, 1326, 1327, 1328, 1329] (by decide +kernel) (by decide +kernel)
set_option maxRecDepth 20000 in
theorem gL_law_X9_errorPosition : GoodIn wsL_law (wsV RL 38 RX9 yX9_errorPosition wsX9_errorPosition) := goodIn_app (goodIn_of _ (by decide +kernel)) ggL_law_X9_errorPosition
set_option maxRecDepth 20000 in
theorem ggL_law_X8_regionCount : GoodIn wsL_law wsX8_regionCount := goodIn_r _ [503, 43, 504, 1270, 1271, 1272, 1273, 1274, 1275, 1276, 1277, 1278, 1279, 1280, 1281, 1282, 1283, 1284, 1364, 1365, 1366, 1367, 1368, 1369, 1370, 1371, 1372, 1373, 1374, 1375, 1376, 1377] (by decide +kernel) (by decide +kernel)
set_option maxRecDepth 20000 in
theorem gL_law_X8_regionCount : GoodIn wsL_law (wsV RL 39 RX8 yX8_regionCount wsX8_regionCount) := goodIn_app (goodIn_of _ (by decide +kernel)) ggL_law_X8_regionCount
set_option maxRecDepth 20000 in
theorem ggL_law_X9_regionCount : GoodIn wsL_law wsX9_regionCount := goodIn_r _ [508, 186, 137, 1285, 1286, 1287, 1288, 1289, 1290, 1291, 1292, 1293, 1294, 1295, 1296, 1297, 1298, 1299, 1300, 1301, 1302, 1303, 1304, 1305, 1306, 1307, 1308, 1309, 1310, 1311, 1312, 1313, 1314, 1315, 1316, 1317, 1318, 1319, 1320, 1321, 1322, 1323, 1324, 1325, 1326, 1327, 1328, 1329] (by decide +kernel) (by decide +kernel)
set_option maxRecDepth 20000 in
theorem gL_law_X9_regionCount : GoodIn wsL_law (wsV RL 42 RX9 yX9_regionCount wsX9_regionCount) := goodIn_app (goodIn_of _ (by decide +kernel)) ggL_law_X9_regionCount
set_option maxRecDepth 20000 in
theorem ggL_law_X8_windCount : GoodIn wsL_law wsX8_windCount := goodIn_r _ [512, 43, 513, 514, 1270, 1271, 1272, 1273, 1274, 1275, 1276, 1277, 1278, 1279, 1280, 1281, 1282, 1283, 1284, 1364, 1365, 1366, 1367, 1368, 1369, 1370, 1371, 1372, 1373, 1374, 1375, 1376, 1377, 1382, 1383, 1384, 1385, 1386, 1387, 1388, 1389] (by decide +kernel) (by decide +kernel)
set_option maxRecDepth 20000 in
theorem gL_law_X8_windCount : GoodIn wsL_law (wsV RL 43 RX8 yX8_windCount wsX8_windCount) := goodIn_app (goodIn_of _ (by decide +kernel)) ggL_law_X8_windCount
set_option maxRecDepth 20000 in
theorem ggL_law_X9_windCount : GoodIn wsL_law wsX9_windCount := goodIn_r _ [518, 186, 141, 1285, 1286, 1287, 1288, 1289, 1290, 1291, 1292, 1293, 1294, 1295, 1296, 1297, 1298, 1299, 1300, 1301, 1302, 1303, 1304, 1305, 1306, 1307, 1308, 1309, 1310, 1311, 1312, 1313, 1314, 1315, 1316, 1317, 1318, 1319, 1320, 1321, 1322, 1323, 1324, 1325, 1326, 1327, 1328, 1329] (by decide +kernel) (by decide +kernel)
set_option maxRecDepth 20000 in
theorem gL_law_X9_windCount : GoodIn wsL_law (wsV RL 46 RX9 yX9_windCount wsX9_windCount) := goodIn_app (goodIn_of _ (by decide +kernel)) ggL_law_X9_windCount
set_option maxRecDepth 20000 in
theorem ggL_law_X8_balloonCount : GoodIn wsL_law wsX8_balloonCount := goodIn_r _ [522, 43, 523, 1270, 1271, 1272, 1273, 1274, 1275, 1276, 1277, 1278, 1279, 1280, 1281, 1282, 1283, 1284, 1364, 1365, 1366, 1367, 1368, 1369, 1370, 1371, 1372, 1373, 1374, 1375, 1376, 1377] (by decide +kernel) (by decide +kernel)
set_option maxRecDepth 20000 in
theorem gL_law_X8_balloonCount : GoodIn wsL_law (wsV RL 47 RX8 yX8_balloonCount wsX8_balloonCount) := goodIn_app (goodIn_of _ (by decide +kernel)) ggL_law_X8_balloonCount
set_option maxRecDepth 20000 in
theorem ggL_law_X9_balloonCount : GoodIn wsL_law wsX9_balloonCount := goodIn_r _ [527, 186, 149, 1285, 1286, 1287, 1288, 1289, 1290, 1291, 1292, 1293, 1294, 1295, 1296, 1297, 1298, 1299, 1300, 1301, 1302, 1303, 1304, 1305, 1306, 1307, 1308, 1309, 1310, 1311, 1312, 1313, 1314, 1315, 1316, 1317, 1318, 1319, 1320, 1321, 1322, 1323, 1324, 1325, 1326, 1327, 1328, 1329] (by decide +kernel) (by decide +kernel)
set_option maxRecDepth 20000 in
theorem gL_law_X9_balloonCount : GoodIn wsL_law (wsV RL 50 RX9 yX9_balloonCount wsX9_balloonCount) := goodIn_app (goodIn_of _ (by decide +kernel)) ggL_law_X9_balloonCount
set_option maxRecDepth 20000 in
theorem ggL_law_X8_letterCount : GoodIn wsL_law wsX8_letterCount := goodIn_r _ [531, 43, 532, 1270, 1271, 1272, 1273, 1274, 1275, 1276, 1277, 1278, 1279, 1280, 1281, 1282, 1283, 1284, 1364, 1365, 1366, 1367, 1368, 1369, 1370, 1371, 1372, 1373, 1374, 1375, 1376, 1377] (by decide +kernel) (by decide +kernel)
set_option maxRecDepth 20000 in
theorem gL_law_X8_letterCount : GoodIn wsL_law (wsV RL 51 RX8 yX8_letterCount wsX8_letterCount) := goodIn_app (goodIn_of _ (by decide +kernel)) ggL_law_X8_letterCount
set_option maxRecDepth 20000 in
theorem ggL_law_X9_letterCount : GoodIn wsL_law wsX9_letterCount := goodIn_r _ [536, 186, 152, 1285, 1286, 1287, 1288, 1289, 1290, 1291, 1292, 1293, 1294, 1295, 1296, 1297, 1298, 1299, 1300, 1301, 1302, 1303, 1304, 1305, 1306, 1307, 1308, 1309, 1310, 1311, 1312, 1313, 1314, 1315, 1316, 1317, 1318, 1319, 1320, 1321, 1322, 1323, 1324, 1325, 1326, 1327, 1328, 1329] (by decide +kernel) (by decide +kernel)
set_option maxRecDepth 20000 in
theorem gL_law_X9_letterCount : GoodIn wsL_law (wsV RL 54 RX9 yX9_letterCount wsX9_letterCount) := goodIn_app (goodIn_of _ (by decide +kernel)) ggL_law_X9_letterCount
set_option maxRecDepth 20000 in
theorem ggL_law_X8_capacity : GoodIn wsL_law wsX8_capacity := goodIn_r _ [540, 43, 541, 542, 543, 544, 42, 545, 217, 1270, 1271, 1272, 1273, 1274, 1275, 1276, 1277, 1278, 1279, 1280, 1281, 1282, 1283, 1284, 1364, 1365, 1366, 1367, 1368, 1369, 1370, 1371, 1372, 1373, 1374, 1375, 1376, 1377] (by decide +kernel) (by decide +kernel)
set_option maxRecDepth 20000 in
theorem gL_law_X8_capacity : GoodIn wsL_law (wsV RL 55 RX8 yX8_capacity wsX8_capacity) := goodIn_app (goodIn_of _ (by decide +kernel)) ggL_law_X8_capacity
set_option maxRecDepth 20000 in
theorem ggL_law_X9_capacity : GoodIn wsL_law wsX9_capacity := goodIn_r _ [549, 186, 150, 550, 551, 552, 5, 553, 149, 415, 416, 417, 1285, 1286, 1287, 1288, 1289, 1290, 1291, 1292, 1293, 1294, 1295, 1296, 1297, 1298, 1299, 1300, 1301, 1302, 1303, 1304, 1305, 1306, 1307, 1308, 1309, 1310, 1311, 1312, 1313, 1314, 1315, 1316, 1317, 1318, 1319, 1320, 1321, 1322, 1323, 1324, 1325, 1326, 1327, 1328, 1329] (by decide +kernel) (by decide +kernel)
set_option maxRecDepth 20000 in
theorem gL_law_X9_capacity : GoodIn wsL_law (wsV RL 58 RX9 yX9_capacity wsX9_capacity) := goodIn_app (goodIn_of _ (by decide +kernel)) ggL_law_X9_capacity
set_option maxRecDepth 20000 in
theorem ggL_law_X8_letterWeight : GoodIn wsL_law wsX8_letterWeight := goodIn_r _ [557, 43, 558, 559, 560, 561, 42, 562, 218, 1270, 1271, 1272, 1273, 1274, 1275, 1276, 1277, 1278, 1279, 1280, 1281, 1282, 1283, 1284, 1364, 1365, 1366, 1367, 1368, 1369, 1370, 1371, 1372, 1373, 1374, 1375, 1376, 1377] (by decide +kernel) (by decide +kernel)
set_option maxRecDepth 20000 in
theorem gL_law_X8_letterWeight : GoodIn wsL_law (wsV RL 59 RX8 yX8_letterWeight wsX8_letterWeight) := goodIn_app (goodIn_of _ (by decide +kernel)) ggL_law_X8_letterWeight
set_option maxRecDepth 20000 in
theorem ggL_law_X9_letterWeight : GoodIn wsL_law wsX9_letterWeight := goodIn_r _ [566, 186, 153, 567, 568, 569, 5, 570, 152, 415, 416, 417, 1285, 1286, 1287, 1288, 1289, 1290, 1291, 1292, 1293, 1294, 1295, 1296, 1297, 1298, 1299, 1300, 1301, 1302, 1303, 1304, 1305, 1306, 1307, 1308, 1309, 1310, 1311, 1312, 1313, 1314, 1315, 1316, 1317, 1318, 1319, 1320, 1321, 1322, 1323, 1324, 1325, 1326, 1327, 1328, 1329] (by decide +kernel) (by decide +kernel)
set_option maxRecDepth 20000 in
theorem gL_law_X9_letterWeight : GoodIn wsL_law (wsV RL 62 RX9 yX9_letterWeight wsX9_letterWeight) := goodIn_app (goodIn_of _ (by decide +kernel)) ggL_law_X9_letterWeight
set_option maxRecDepth 20000 in
theorem ggL_law_X8_windChance : GoodIn wsL_law wsX8_windChance := goodIn_r _ [574, 43, 513, 575, 22, 34, 576, 577, 341, 342, 92, 343, 224, 578, 579, 2, 580, 581, 582, 583, 21, 584, 585, 586, 587, 588, 52, 589, 590, 591, 592, 593, 594, 595, 596, 53, 597, 598, 599, 600, 601, 602, 350, 351, 352, 108, 603, 604, 605, 606, 1270, 1271, 1272, 1273, 1274, 1275, 1276, 1277, 1278, 1279, 1280, 1281, 1282, 1283, 1284, 1364, 1365, 1366, 1367, 1368, 1369, 1370, 1371, 1372, 1373, 1374, 1375, 1376, 1377, 1349, 1350, 1351, 1352, 1353, 1354, 1355, 1356, 1357, 1358, 1359, 1360, 1361, 1362, 1363, 1382, 1383, 1384, 1385, 1386, 1387, 1388, 1389, 1340, 1341] (by decide +kernel) (by decide +kernel)
set_option maxRecDepth 20000 in
theorem gL_law_X8_windChance : GoodIn wsL_law (wsV RL 63 RX8 yX8_windChance wsX8_windChance) := goodIn_app (goodIn_of _ (by decide +kernel)) ggL_law_X8_windChance
set_option maxRecDepth 20000 in
theorem ggL_law_X9_windChance : GoodIn wsL_law wsX9_windChance := goodIn_r _ [610, 186, 611, 157, 612, 613, 614, 5, 615, 141, 415, 416, 417, 616, 617, 618, 619, 620, 621, 622, 136, 158, 145, 147, 146, 148, 623, 624, 625, 626, 1285, 1286, 1287, 1288, 1289, 1290, 1291, 1292, 1293, 1294, 1295, 1296, 1297, 1298, 1299, 1300, 1301, 1302, 1303, 1304, 1305, 1306, 1307, 1308, 1309, 1310, 1311, 1312, 1313, 1314, 1315, 1316, 1317, 1318, 1319, 1320, 1321, 1322, 1323, 1324, 1325, 1326, 1327, 1328, 1329] (by decide +kernel) (by decide +kernel)
set_option maxRecDepth 20000 in
theorem gL_law_X9_windChance : GoodIn wsL_law (wsV RL 67 RX9 yX9_windChance wsX9_windChance) := goodIn_app (goodIn_of _ (by decide +kernel)) ggL_law_X9_windChance
set_option maxRecDepth 20000 in
theorem ggL_law_X8_avoidChance : GoodIn wsL_law wsX8_avoidChance := goodIn_r _ [630, 43, 513, 575, 22, 34, 576, 577, 341, 342, 92, 343, 224, 578, 579, 2, 580, 581, 582, 583, 21, 584, 585, 586, 587, 588, 52, 589, 590, 591, 592, 593, 594, 595, 596, 53, 597, 598, 599, 600, 601, 602, 350, 351, 352, 108, 631, 632, 633, 634, 1270, 1271, 1272, 1273, 1274, 1275, 1276, 1277, 1278, 1279, 1280, 1281, 1282, 1283, 1284, 1364, 1365, 1366, 1367, 1368, 1369, 1370, 1371, 1372, 1373, 1374, 1375, 1376, 1377, 1349, 1350, 1351, 1352, 1353, 1354, 1355, 1356, 1357, 1358, 1359, 1360, 1361, 1362, 1363, 1382, 1383, 1384, 1385, 1386, 1387, 1388, 1389, 1340, 1341] (by decide +kernel) (by decide +kernel)
set_option maxRecDepth 20000 in
theorem gL_law_X8_avoidChance : GoodIn wsL_law (wsV RL 68 RX8 yX8_avoidChance wsX8_avoidChance) := goodIn_app (goodIn_of _ (by decide +kernel)) ggL_law_X8_avoidChance
set_option maxRecDepth 20000 in
theorem ggL_law_X9_avoidChance : GoodIn wsL_law wsX9_avoidChance := goodIn_r _ [638, 186, 611, 157, 612, 613, 614, 5, 615, 141, 415, 416, 417, 616, 617, 618, 619, 620, 621, 622, 136, 158, 145, 147, 146, 148, 623, 624, 625, 626, 1285, 1286, 1287, 1288, 1289, 1290, 1291, 1292, 1293, 1294, 1295, 1296, 1297, 1298, 1299, 1300, 1301, 1302, 1303, 1304, 1305, 1306, 1307, 1308, 1309, 1310, 1311, 1312, 1313, 1314, 1315, 1316, 1317, 1318, 1319, 1320, 1321, 1322, 1323, 1324, 1325, 1326, 1327, 1328, 1329] (by decide +kernel) (by decide +kernel)
set_option maxRecDepth 20000 in
theorem gL_law_X9_avoidChance : GoodIn wsL_law (wsV RL 71 RX9 yX9_avoidChance wsX9_avoidChance) := goodIn_app (goodIn_of _ (by decide +kernel)) ggL_law_X9_avoidChance
set_option maxRecDepth 20000 in
theorem ggL_law_X8_landingChance : GoodIn wsL_law wsX8_landingChance := goodIn_r _ [642, 43, 575, 22, 513, 34, 576, 643, 644, 645, 42, 646, 216, 647, 648, 649, 2, 650, 514, 578, 579, 580, 581, 582, 583, 21, 584, 585, 586, 587, 588, 52, 589, 590, 591, 592, 593, 594, 595, 596, 53, 597, 598, 599, 600, 601, 602, 350, 351, 92, 352, 224, 108, 651, 652, 653, 654, 655, 333, 334, 335, 109, 1270, 1271, 1272, 1273, 1274, 1275, 1276, 1277, 1278, 1279, 1280, 1281, 1282, 1283, 1284, 1364, 1365, 1366, 1367, 1368, 1369, 1370, 1371, 1372, 1373, 1374, 1375, 1376, 1377, 1349, 1350, 1351, 1352, 1353, 1354, 1355, 1356, 1357, 1358, 1359, 1360, 1361, 1362, 1363, 1382, 1383, 1384, 1385, 1386, 1387, 1388, 1389, 1340, 1341] (by decide +kernel) (by decide +kernel)
set_option maxRecDepth 20000 in
theorem gL_law_X8_landingChance : GoodIn wsL_law (wsV RL 72 RX8 yX8_landingChance wsX8_landingChance) := goodIn_app (goodIn_of _ (by decide +kernel)) ggL_law_X8_landingChance
set_option maxRecDepth 20000 in
theorem ggL_law_X9_landingChance : GoodIn wsL_law wsX9_landingChance := goodIn_r _ [659, 186, 137, 141, 611, 157, 415, 416, 5, 417, 616, 617, 618, 619, 620, 621, 622, 136, 158, 145, 147, 146, 148, 623, 624, 625, 626, 660, 661, 662, 663, 142, 144, 143, 1285, 1286, 1287, 1288, 1289, 1290, 1291, 1292, 1293, 1294, 1295, 1296, 1297, 1298, 1299, 1300, 1301, 1302, 1303, 1304, 1305, 1306, 1307, 1308, 1309, 1310, 1311, 1312, 1313, 1314, 1315, 1316, 1317, 1318, 1319, 1320, 1321, 1322, 1323, 1324, 1325, 1326, 1327, 1328, 1329] (by decide +kernel) (by decide +kernel)
set_option maxRecDepth 20000 in
theorem gL_law_X9_landingChance : GoodIn wsL_law (wsV RL 75 RX9 yX9_landingChance wsX9_landingChance) := goodIn_app (goodIn_of _ (by decide +kernel)) ggL_law_X9_landingChance
set_option maxRecDepth 20000 in
theorem ggL_law_X8_deliveryChance : GoodIn wsL_law wsX8_deliveryChance := goodIn_r _ [667, 575, 22, 43, 513, 34, 576, 647, 648, 649, 2, 650, 514, 578, 579, 580, 581, 582, 583, 21, 584, 585, 586, 587, 588, 52, 589, 590, 591, 592, 593, 594, 595, 596, 53, 597, 598, 599, 600, 601, 602, 350, 351, 92, 352, 224, 108, 668, 669, 670, 671, 672, 673, 674, 675, 676, 677, 678, 679, 644, 645, 42, 646, 216, 680, 652, 653, 654, 655, 333, 334, 335, 109, 1270, 1271, 1272, 1273, 1274, 1275, 1276, 1277, 1278, 1279, 1280, 1281, 1282, 1283, 1284, 1364, 1365, 1366, 1367, 1368, 1369, 1370, 1371, 1372, 1373, 1374, 1375, 1376, 1377, 1349, 1350, 1351, 1352, 1353, 1354, 1355, 1356, 1357, 1358, 1359, 1360, 1361, 1362, 1363, 1382, 1383, 1384, 1385, 1386, 1387, 1388, 1389, 1340, 1341] (by decide +kernel) (by decide +kernel)
set_option maxRecDepth 20000 in
theorem gL_law_X8_deliveryChance : GoodIn wsL_law (wsV RL 76 RX8 yX8_deliveryChance wsX8_deliveryChance) := goodIn_app (goodIn_of _ (by decide +kernel)) ggL_law_X8_deliveryChance
set_option maxRecDepth 20000 in
theorem ggL_law_X9_deliveryChance : GoodIn wsL_law wsX9_deliveryChance := goodIn_r _ [684, 186, 141, 611, 616, 617, 5, 618, 415, 416, 417, 685, 686, 687, 688, 137, 140, 157, 138, 619, 620, 621, 622, 136, 158, 145, 147, 146, 148, 623, 624, 625, 626, 689, 690, 691, 660, 661, 662, 663, 142, 144, 143, 1285, 1286, 1287, 1288, 1289, 1290, 1291, 1292, 1293, 1294, 1295, 1296, 1297, 1298, 1299, 1300, 1301, 1302, 1303, 1304, 1305, 1306, 1307, 1308, 1309, 1310, 1311, 1312, 1313, 1314, 1315, 1316, 1317, 1318, 1319, 1320, 1321, 1322, 1323, 1324, 1325, 1326, 1327, 1328, 1329] (by decide +kernel) (by decide +kernel)
set_option maxRecDepth 20000 in
theorem gL_law_X9_deliveryChance : GoodIn wsL_law (wsV RL 80 RX9 yX9_deliveryChance wsX9_deliveryChance) := goodIn_app (goodIn_of _ (by decide +kernel)) ggL_law_X9_deliveryChance
set_option maxRecDepth 20000 in
theorem ggL_law_X8_answerChance : GoodIn wsL_law wsX8_answerChance := goodIn_r _ [695, 575, 22, 43, 513, 34, 576, 696, 697, 2, 698, 647, 648, 649, 650, 514, 578, 579, 580, 581, 582, 583, 21, 584, 585, 586, 587, 588, 52, 589, 590, 591, 592, 593, 594, 595, 596, 53, 597, 598, 599, 600, 601, 602, 350, 351, 92, 352, 224, 108, 699, 700, 701, 702, 672, 703, 704, 705, 673, 674, 675, 676, 677, 678, 679, 644, 645, 42, 646, 216, 680, 652, 653, 654, 655, 333, 334, 335, 109, 1270, 1271, 1272, 1273, 1274, 1275, 1276, 1277, 1278, 1279, 1280, 1281, 1282, 1283, 1284, 1364, 1365, 1366, 1367, 1368, 1369, 1370, 1371, 1372, 1373, 1374, 1375, 1376, 1377, 1349, 1350, 1351, 1352, 1353, 1354, 1355, 1356, 1357, 1358, 1359, 1360, 1361, 1362, 1363, 1382, 1383, 1384, 1385, 1386, 1387, 1388, 1389, 1340, 1341] (by decide +kernel) (by decide +kernel)
set_option maxRecDepth 20000 in
theorem gL_law_X8_answerChance : GoodIn wsL_law (wsV RL 81 RX8 yX8_answerChance wsX8_answerChance) := goodIn_app (goodIn_of _ (by decide +kernel)) ggL_law_X8_answerChance
set_option maxRecDepth 20000 in
theorem ggL_law_X9_answerChance : GoodIn wsL_law wsX9_answerChance := goodIn_r _ [709, 186, 611, 710, 711, 712, 5, 713, 141, 415, 416, 417, 616, 617, 618, 685, 686, 687, 688, 137, 140, 157, 138, 619, 620, 621, 622, 136, 158, 145, 147, 146, 148, 623, 624, 625, 626, 689, 690, 691, 660, 661, 662, 663, 142, 144, 143, 1285, 1286, 1287, 1288, 1289, 1290, 1291, 1292, 1293, 1294, 1295, 1296, 1297, 1298, 1299, 1300, 1301, 1302, 1303, 1304, 1305, 1306, 1307, 1308, 1309, 1310, 1311, 1312, 1313, 1314, 1315, 1316, 1317, 1318, 1319, 1320, 1321, 1322, 1323, 1324, 1325, 1326, 1327, 1328, 1329] (by decide +kernel) (by decide +kernel)
set_option maxRecDepth 20000 in
theorem gL_law_X9_answerChance : GoodIn wsL_law (wsV RL 84 RX9 yX9_answerChance wsX9_answerChance) := goodIn_app (goodIn_of _ (by decide +kernel)) ggL_law_X9_answerChance
set_option maxRecDepth 20000 in
theorem ggL_law_X8_answerPermille : GoodIn wsL_law wsX8_answerPermille := goodIn_r _ [717, 22, 43, 513, 34, 576, 718, 719, 696, 697, 2, 698, 647, 648, 649, 650, 514, 578, 579, 580, 581, 582, 583, 21, 584, 585, 586, 587, 588, 52, 589, 590, 591, 592, 593, 594, 595, 596, 53, 597, 598, 599, 600, 601, 602, 350, 351, 92, 352, 224, 108, 699, 700, 701, 702, 672, 703, 704, 705, 673, 674, 675, 676, 677, 678, 679, 644, 645, 42, 646, 216, 680, 652, 653, 654, 655, 333, 334, 335, 109, 1270, 1271, 1272, 1273, 1274, 1275, 1276, 1277, 1278, 1279, 1280, 1281, 1282, 1283, 1284, 1364, 1365, 1366, 1367, 1368, 1369, 1370, 1371, 1372, 1373, 1374, 1375, 1376, 1377, 1349, 1350, 1351, 1352, 1353, 1354, 1355, 1356, 1357, 1358, 1359, 1360, 1361, 1362, 1363, 1382, 1383, 1384, 1385, 1386, 1387, 1388, 1389, 1340, 1341] (by decide +kernel) (by decide +kernel)
set_option maxRecDepth 20000 in
theorem gL_law_X8_answerPermille : GoodIn wsL_law (wsV RL 85 RX8 yX8_answerPermille wsX8_answerPermille) := goodIn_app (goodIn_of _ (by decide +kernel)) ggL_law_X8_answerPermille
set_option maxRecDepth 20000 in
theorem ggL_law_X9_answerPermille : GoodIn wsL_law wsX9_answerPermille := goodIn_r _ [723, 186, 724, 710, 711, 712, 5, 713, 141, 415, 416, 417, 616, 617, 618, 685, 686, 687, 688, 137, 140, 157, 138, 619, 620, 621, 622, 136, 158, 145, 147, 146, 148, 623, 624, 625, 626, 689, 690, 691, 660, 661, 662, 663, 142, 144, 143, 1285, 1286, 1287, 1288, 1289, 1290, 1291, 1292, 1293, 1294, 1295, 1296, 1297, 1298, 1299, 1300, 1301, 1302, 1303, 1304, 1305, 1306, 1307, 1308, 1309, 1310, 1311, 1312, 1313, 1314, 1315, 1316, 1317, 1318, 1319, 1320, 1321, 1322, 1323, 1324, 1325, 1326, 1327, 1328, 1329] (by decide +kernel) (by decide +kernel)
set_option maxRecDepth 20000 in
theorem gL_law_X9_answerPermille : GoodIn wsL_law (wsV RL 89 RX9 yX9_answerPermille wsX9_answerPermille) := goodIn_app (goodIn_of _ (by decide +kernel)) ggL_law_X9_answerPermille
set_option maxRecDepth 20000 in
theorem ggL_law_X8_bestDay : GoodIn wsL_law wsX8_bestDay := goodIn_r _ [728, 575, 22, 34, 576, 43, 513, 696, 697, 2, 698, 647, 648, 649, 650, 514, 578, 579, 580, 729, 586, 587, 21, 588, 52, 699, 700, 701, 702, 672, 703, 704, 705, 673, 674, 675, 676, 677, 678, 679, 644, 645, 42, 646, 216, 680, 652, 653, 654, 597, 655, 333, 334, 92, 335, 224, 109, 730, 731, 594, 595, 596, 53, 598, 599, 600, 601, 602, 350, 351, 352, 108, 1270, 1271, 1272, 1273, 1274, 1275, 1276, 1277, 1278, 1279, 1280, 1281, 1282, 1283, 1284, 1349, 1350, 1351, 1352, 1353, 1354, 1355, 1356, 1357, 1358, 1359, 1360, 1361, 1362, 1363, 1364, 1365, 1366, 1367, 1368, 1369, 1370, 1371, 1372, 1373, 1374, 1375, 1376, 1377, 1382, 1383, 1384, 1385, 1386, 1387, 1388, 1389, 1340, 1341] (by decide +kernel) (by decide +kernel)
set_option maxRecDepth 20000 in
theorem gL_law_X8_bestDay : GoodIn wsL_law (wsV RL 90 RX8 yX8_bestDay wsX8_bestDay) := goodIn_app (goodIn_of _ (by decide +kernel)) ggL_law_X8_bestDay
set_option maxRecDepth 20000 in
theorem ggL_law_X9_bestDay : GoodIn wsL_law wsX9_bestDay := goodIn_r _ [735, 186, 611, 710, 711, 712, 5, 713, 141, 415, 416, 417, 616, 617, 618, 736, 737, 738, 739, 685, 686, 687, 688, 137, 140, 157, 138, 619, 620, 621, 622, 136, 158, 145, 147, 146, 148, 623, 624, 625, 626, 689, 690, 691, 660, 661, 662, 663, 142, 144, 143, 1285, 1286, 1287, 1288, 1289, 1290, 1291, 1292, 1293, 1294, 1295, 1296, 1297, 1298, 1299, 1300, 1301, 1302, 1303, 1304, 1305, 1306, 1307, 1308, 1309, 1310, 1311, 1312, 1313, 1314, 1315, 1316, 1317, 1318, 1319, 1320, 1321, 1322, 1323, 1324, 1325, 1326, 1327, 1328, 1329] (by decide +kernel) (by decide +kernel)
set_option maxRecDepth 20000 in
theorem gL_law_X9_bestDay : GoodIn wsL_law (wsV RL 93 RX9 yX9_bestDay wsX9_bestDay) := goodIn_app (goodIn_of _ (by decide +kernel)) ggL_law_X9_bestDay
set_option maxRecDepth 20000 in
theorem ggL_law_X8_assignmentTotal : GoodIn wsL_law wsX8_assignmentTotal := goodIn_r _ [743, 43, 513, 514, 575, 26, 34, 576, 22, 744, 745, 746, 33, 747, 748, 72, 749, 750, 751, 25, 752, 403, 753, 754, 755, 756, 757, 758, 759, 760, 57, 761, 762, 763, 586, 587, 21, 588, 52, 704, 2, 705, 764, 700, 701, 702, 672, 703, 673, 674, 675, 676, 677, 678, 679, 644, 645, 42, 646, 216, 680, 652, 653, 654, 597, 655, 333, 334, 92, 335, 224, 109, 765, 594, 595, 596, 53, 598, 599, 600, 601, 602, 350, 351, 352, 108, 766, 767, 768, 769, 58, 770, 771, 772, 773, 774, 775, 776, 777, 778, 779, 780, 781, 782, 783, 784, 785, 203, 786, 787, 788, 789, 790, 791, 792, 793, 794, 60, 795, 796, 797, 798, 799, 800, 801, 802, 1270, 1271, 1272, 1273, 1274, 1275, 1276, 1277, 1278, 1279, 1280, 1281, 1282, 1283, 1284, 1364, 1365, 1366, 1367, 1368, 1369, 1370, 1371, 1372, 1373, 1374, 1375, 1376, 1377, 1382, 1383, 1384, 1385, 1386, 1387, 1388, 1389, 1349, 1350, 1351, 1352, 1353, 1354, 1355, 1356, 1357, 1358, 1359, 1360, 1361, 1362, 1363, 1342, 1343, 1344, 1345, 1346, 1347, 1340, 1341] (by decide +kernel) (by decide +kernel)
set_option maxRecDepth 20000 in
theorem gL_law_X8_assignmentTotal : GoodIn wsL_law (wsV RL 94 RX8 yX8_assignmentTotal wsX8_assignmentTotal) := goodIn_app (goodIn_of _ (by decide +kernel)) ggL_law_X8_assignmentTotal
set_option maxRecDepth 20000 in
theorem ggL_law_X9_assignmentTotal : GoodIn wsL_law wsX9_assignmentTotal := goodIn_r _ [806, 186, 141, 611, 159, 807, 808, 809, 5, 810, 149, 160, 150, 151, 736, 737, 738, 739, 685, 686, 687, 688, 137, 140, 157, 138, 619, 620, 621, 622, 136, 158, 145, 147, 146, 148, 623, 624, 625, 626, 689, 690, 691, 660, 661, 662, 663, 142, 144, 143, 811, 812, 813, 814, 459, 460, 461, 1285, 1286, 1287, 1288, 1289, 1290, 1291, 1292, 1293, 1294, 1295, 1296, 1297, 1298, 1299, 1300, 1301, 1302, 1303, 1304, 1305, 1306, 1307, 1308, 1309, 1310, 1311, 1312, 1313, 1314, 1315, 1316, 1317, 1318, 1319, 1320, 1321, 1322, 1323, 1324, 1325, 1326, 1327, 1328, 1329] (by decide +kernel) (by decide +kernel)
set_option maxRecDepth 20000 in
theorem gL_law_X9_assignmentTotal : GoodIn wsL_law (wsV RL 98 RX9 yX9_assignmentTotal wsX9_assignmentTotal) := goodIn_app (goodIn_of _ (by decide +kernel)) ggL_law_X9_assignmentTotal
set_option maxRecDepth 20000 in
theorem ggL_law_X8_assignedDay : GoodIn wsL_law wsX8_assignedDay := goodIn_r _ [818, 43, 513, 514, 26, 34, 576, 22, 542, 543, 544, 42, 545, 217, 744, 745, 746, 33, 747, 748, 72, 749, 750, 751, 25, 752, 403, 753, 754, 755, 756, 757, 758, 759, 760, 57, 761, 762, 763, 586, 587, 21, 588, 52, 704, 2, 705, 764, 700, 701, 702, 672, 703, 673, 674, 675, 676, 677, 678, 679, 644, 645, 646, 216, 680, 652, 653, 654, 597, 655, 333, 334, 92, 335, 224, 109, 765, 594, 595, 596, 53, 598, 599, 600, 601, 602, 350, 351, 352, 108, 766, 767, 768, 769, 58, 770, 771, 772, 773, 774, 775, 776, 777, 778, 779, 780, 781, 782, 783, 784, 785, 203, 786, 787, 788, 789, 790, 791, 792, 793, 794, 60, 795, 796, 797, 798, 819, 820, 821, 822, 1270, 1271, 1272, 1273, 1274, 1275, 1276, 1277, 1278, 1279, 1280, 1281, 1282, 1283, 1284, 1364, 1365, 1366, 1367, 1368, 1369, 1370, 1371, 1372, 1373, 1374, 1375, 1376, 1377, 1382, 1383, 1384, 1385, 1386, 1387, 1388, 1389, 1349, 1350, 1351, 1352, 1353, 1354, 1355, 1356, 1357, 1358, 1359, 1360, 1361, 1362, 1363, 1342, 1343, 1344, 1345, 1346, 1347, 1340, 1341] (by decide +kernel) (by decide +kernel)
set_option maxRecDepth 20000 in
theorem gL_law_X8_assignedDay : GoodIn wsL_law (wsV RL 99 RX8 yX8_assignedDay wsX8_assignedDay) := goodIn_app (goodIn_of _ (by decide +kernel)) ggL_law_X8_assignedDay
set_option maxRecDepth 20000 in
theorem ggL_law_X9_assignedDay : GoodIn wsL_law wsX9_assignedDay := goodIn_r _ [826, 186, 141, 550, 551, 552, 5, 553, 149, 415, 416, 417, 807, 808, 809, 810, 160, 150, 151, 159, 736, 737, 738, 739, 685, 686, 687, 688, 137, 140, 157, 138, 619, 620, 621, 622, 136, 158, 145, 147, 146, 148, 623, 624, 625, 626, 689, 690, 691, 660, 661, 662, 663, 142, 144, 143, 811, 812, 813, 814, 459, 460, 461, 827, 828, 829, 830, 1285, 1286, 1287, 1288, 1289, 1290, 1291, 1292, 1293, 1294, 1295, 1296, 1297, 1298, 1299, 1300, 1301, 1302, 1303, 1304, 1305, 1306, 1307, 1308, 1309, 1310, 1311, 1312, 1313, 1314, 1315, 1316, 1317, 1318, 1319, 1320, 1321, 1322, 1323, 1324, 1325, 1326, 1327, 1328, 1329] (by decide +kernel) (by decide +kernel)
set_option maxRecDepth 20000 in
theorem gL_law_X9_assignedDay : GoodIn wsL_law (wsV RL 102 RX9 yX9_assignedDay wsX9_assignedDay) := goodIn_app (goodIn_of _ (by decide +kernel)) ggL_law_X9_assignedDay
set_option maxRecDepth 20000 in
theorem ggL_law_X8_bestLoad : GoodIn wsL_law wsX8_bestLoad := goodIn_r _ [834, 43, 34, 835, 30, 836, 541, 542, 543, 544, 42, 545, 217, 837, 838, 839, 29, 840, 64, 841, 842, 843, 844, 845, 846, 847, 130, 848, 849, 850, 851, 852, 853, 854, 203, 855, 1270, 1271, 1272, 1273, 1274, 1275, 1276, 1277, 1278, 1279, 1280, 1281, 1282, 1283, 1284, 1349, 1350, 1351, 1352, 1353, 1354, 1355, 1356, 1357, 1358, 1359, 1360, 1361, 1362, 1363, 1364, 1365, 1366, 1367, 1368, 1369, 1370, 1371, 1372, 1373, 1374, 1375, 1376, 1377, 1348] (by decide +kernel) (by decide +kernel)
set_option maxRecDepth 20000 in
theorem gL_law_X8_bestLoad : GoodIn wsL_law (wsV RL 103 RX8 yX8_bestLoad wsX8_bestLoad) := goodIn_app (goodIn_of _ (by decide +kernel)) ggL_law_X8_bestLoad
set_option maxRecDepth 20000 in
theorem ggL_law_X9_bestLoad : GoodIn wsL_law wsX9_bestLoad := goodIn_r _ [859, 186, 136, 152, 161, 153, 154, 150, 550, 551, 552, 5, 553, 149, 415, 416, 417, 860, 861, 862, 863, 1285, 1286, 1287, 1288, 1289, 1290, 1291, 1292, 1293, 1294, 1295, 1296, 1297, 1298, 1299, 1300, 1301, 1302, 1303, 1304, 1305, 1306, 1307, 1308, 1309, 1310, 1311, 1312, 1313, 1314, 1315, 1316, 1317, 1318, 1319, 1320, 1321, 1322, 1323, 1324, 1325, 1326, 1327, 1328, 1329] (by decide +kernel) (by decide +kernel)
set_option maxRecDepth 20000 in
theorem gL_law_X9_bestLoad : GoodIn wsL_law (wsV RL 106 RX9 yX9_bestLoad wsX9_bestLoad) := goodIn_app (goodIn_of _ (by decide +kernel)) ggL_law_X9_bestLoad
set_option maxRecDepth 20000 in
theorem ggL_law_X8_weightOf : GoodIn wsL_law wsX8_weightOf := goodIn_r _ [867, 43, 558, 868, 869, 870, 42, 871, 218, 872, 873, 874, 875, 1270, 1271, 1272, 1273, 1274, 1275, 1276, 1277, 1278, 1279, 1280, 1281, 1282, 1283, 1284, 1364, 1365, 1366, 1367, 1368, 1369, 1370, 1371, 1372, 1373, 1374, 1375, 1376, 1377] (by decide +kernel) (by decide +kernel)
set_option maxRecDepth 20000 in
theorem gL_law_X8_weightOf : GoodIn wsL_law (wsV RL 107 RX8 yX8_weightOf wsX8_weightOf) := goodIn_app (goodIn_of _ (by decide +kernel)) ggL_law_X8_weightOf
set_option maxRecDepth 20000 in
theorem ggL_law_X9_weightOf : GoodIn wsL_law wsX9_weightOf := goodIn_r _ [879, 186, 153, 880, 881, 882, 5, 883, 152, 415, 416, 417, 884, 885, 886, 887, 459, 460, 461, 1285, 1286, 1287, 1288, 1289, 1290, 1291, 1292, 1293, 1294, 1295, 1296, 1297, 1298, 1299, 1300, 1301, 1302, 1303, 1304, 1305, 1306, 1307, 1308, 1309, 1310, 1311, 1312, 1313, 1314, 1315, 1316, 1317, 1318, 1319, 1320, 1321, 1322, 1323, 1324, 1325, 1326, 1327, 1328, 1329] (by decide +kernel) (by decide +kernel)
set_option maxRecDepth 20000 in
theorem gL_law_X9_weightOf : GoodIn wsL_law (wsV RL 110 RX9 yX9_weightOf wsX9_weightOf) := goodIn_app (goodIn_of _ (by decide +kernel)) ggL_law_X9_weightOf
set_option maxRecDepth 20000 in
theorem ggL_law_X8_priorityOf : GoodIn wsL_law wsX8_priorityOf := goodIn_r _ [891, 43, 892, 868, 869, 870, 42, 871, 218, 872, 873, 874, 875, 1270, 1271, 1272, 1273, 1274, 1275, 1276, 1277, 1278, 1279, 1280, 1281, 1282, 1283, 1284, 1364, 1365, 1366, 1367, 1368, 1369, 1370, 1371, 1372, 1373, 1374, 1375, 1376, 1377] (by decide +kernel) (by decide +kernel)
set_option maxRecDepth 20000 in
theorem gL_law_X8_priorityOf : GoodIn wsL_law (wsV RL 111 RX8 yX8_priorityOf wsX8_priorityOf) := goodIn_app (goodIn_of _ (by decide +kernel)) ggL_law_X8_priorityOf
set_option maxRecDepth 20000 in
theorem ggL_law_X9_priorityOf : GoodIn wsL_law wsX9_priorityOf := goodIn_r _ [896, 186, 154, 880, 881, 882, 5, 883, 152, 415, 416, 417, 884, 885, 886, 887, 459, 460, 461, 1285, 1286, 1287, 1288, 1289, 1290, 1291, 1292, 1293, 1294, 1295, 1296, 1297, 1298, 1299, 1300, 1301, 1302, 1303, 1304, 1305, 1306, 1307, 1308, 1309, 1310, 1311, 1312, 1313, 1314, 1315, 1316, 1317, 1318, 1319, 1320, 1321, 1322, 1323, 1324, 1325, 1326, 1327, 1328, 1329] (by decide +kernel) (by decide +kernel)
set_option maxRecDepth 20000 in
theorem gL_law_X9_priorityOf : GoodIn wsL_law (wsV RL 114 RX9 yX9_priorityOf wsX9_priorityOf) := goodIn_app (goodIn_of _ (by decide +kernel)) ggL_law_X9_priorityOf
set_option maxRecDepth 20000 in
theorem ggL_law_X8_lettersIn : GoodIn wsL_law wsX8_lettersIn := goodIn_r _ [900, 34, 836, 901, 902, 2, 903, 1270, 1271, 1272, 1273, 1274, 1275, 1276, 1277, 1278, 1279, 1280, 1281, 1282, 1283, 1284, 1349, 1350, 1351, 1352, 1353, 1354, 1355, 1356, 1357, 1358, 1359, 1360, 1361, 1362, 1363] (by decide +kernel) (by decide +kernel)
set_option maxRecDepth 20000 in
theorem gL_law_X8_lettersIn : GoodIn wsL_law (wsV RL 115 RX8 yX8_lettersIn wsX8_lettersIn) := goodIn_app (goodIn_of _ (by decide +kernel)) ggL_law_X8_lettersIn
set_option maxRecDepth 20000 in
theorem ggL_law_X9_lettersIn : GoodIn wsL_law wsX9_lettersIn := goodIn_r _ [907, 186, 415, 416, 5, 417, 908, 909, 910, 911, 152, 136, 1285, 1286, 1287, 1288, 1289, 1290, 1291, 1292, 1293, 1294, 1295, 1296, 1297, 1298, 1299, 1300, 1301, 1302, 1303, 1304, 1305, 1306, 1307, 1308, 1309, 1310, 1311, 1312, 1313, 1314, 1315, 1316, 1317, 1318, 1319, 1320, 1321, 1322, 1323, 1324, 1325, 1326, 1327, 1328, 1329] (by decide +kernel) (by decide +kernel)
set_option maxRecDepth 20000 in
theorem gL_law_X9_lettersIn : GoodIn wsL_law (wsV RL 118 RX9 yX9_lettersIn wsX9_lettersIn) := goodIn_app (goodIn_of _ (by decide +kernel)) ggL_law_X9_lettersIn
set_option maxRecDepth 20000 in
theorem ggL_law_X8_day : GoodIn wsL_law wsX8_day := goodIn_r _ [915, 34, 916, 1270, 1271, 1272, 1273, 1274, 1275, 1276, 1277, 1278, 1279, 1280, 1281, 1282, 1283, 1284, 1349, 1350, 1351, 1352, 1353, 1354, 1355, 1356, 1357, 1358, 1359, 1360, 1361, 1362, 1363] (by decide +kernel) (by decide +kernel)
set_option maxRecDepth 20000 in
theorem gL_law_X8_day : GoodIn wsL_law (wsV RL 119 RX8 yX8_day wsX8_day) := goodIn_app (goodIn_of _ (by decide +kernel)) ggL_law_X8_day
set_option maxRecDepth 20000 in
theorem ggL_law_X9_day : GoodIn wsL_law wsX9_day := goodIn_r _ [920, 186, 136, 1285, 1286, 1287, 1288, 1289, 1290, 1291, 1292, 1293, 1294, 1295, 1296, 1297, 1298, 1299, 1300, 1301, 1302, 1303, 1304, 1305, 1306, 1307, 1308, 1309, 1310, 1311, 1312, 1313, 1314, 1315, 1316, 1317, 1318, 1319, 1320, 1321, 1322, 1323, 1324, 1325, 1326, 1327, 1328, 1329] (by decide +kernel) (by decide +kernel)
set_option maxRecDepth 20000 in
theorem gL_law_X9_day : GoodIn wsL_law (wsV RL 122 RX9 yX9_day wsX9_day) := goodIn_app (goodIn_of _ (by decide +kernel)) ggL_law_X9_day
set_option maxRecDepth 20000 in
theorem ggL_law_X8_wind : GoodIn wsL_law wsX8_wind := goodIn_r _ [924, 34, 576, 1270, 1271, 1272, 1273, 1274, 1275, 1276, 1277, 1278, 1279, 1280, 1281, 1282, 1283, 1284, 1349, 1350, 1351, 1352, 1353, 1354, 1355, 1356, 1357, 1358, 1359, 1360, 1361, 1362, 1363] (by decide +kernel) (by decide +kernel)
set_option maxRecDepth 20000 in
theorem gL_law_X8_wind : GoodIn wsL_law (wsV RL 123 RX8 yX8_wind wsX8_wind) := goodIn_app (goodIn_of _ (by decide +kernel)) ggL_law_X8_wind
set_option maxRecDepth 20000 in
theorem ggL_law_X9_wind : GoodIn wsL_law wsX9_wind := goodIn_r _ [928, 186, 136, 1285, 1286, 1287, 1288, 1289, 1290, 1291, 1292, 1293, 1294, 1295, 1296, 1297, 1298, 1299, 1300, 1301, 1302, 1303, 1304, 1305, 1306, 1307, 1308, 1309, 1310, 1311, 1312, 1313, 1314, 1315, 1316, 1317, 1318, 1319, 1320, 1321, 1322, 1323, 1324, 1325, 1326, 1327, 1328, 1329] (by decide +kernel) (by decide +kernel)
set_option maxRecDepth 20000 in
theorem gL_law_X9_wind : GoodIn wsL_law (wsV RL 126 RX9 yX9_wind wsX9_wind) := goodIn_app (goodIn_of _ (by decide +kernel)) ggL_law_X9_wind
set_option maxRecDepth 20000 in
theorem ggL_law_X8_launch : GoodIn wsL_law wsX8_launch := goodIn_r _ [932, 43, 34, 836, 835, 513, 514, 558, 541, 933, 934, 542, 543, 544, 42, 545, 217, 868, 869, 870, 871, 218, 872, 873, 874, 875, 935, 936, 937, 2, 938, 939, 35, 398, 940, 941, 942, 33, 943, 71, 72, 944, 599, 600, 601, 73, 74, 75, 76, 78, 79, 80, 118, 119, 77, 124, 125, 127, 945, 946, 947, 70, 948, 84, 949, 85, 86, 950, 951, 952, 953, 954, 120, 955, 956, 957, 958, 959, 960, 961, 962, 963, 964, 965, 966, 967, 968, 92, 969, 110, 111, 340, 341, 342, 343, 224, 970, 333, 334, 335, 109, 971, 972, 973, 974, 975, 976, 644, 645, 646, 216, 977, 978, 979, 980, 981, 982, 983, 984, 985, 986, 987, 988, 989, 990, 1270, 1271, 1272, 1273, 1274, 1275, 1276, 1277, 1278, 1279, 1280, 1281, 1282, 1283, 1284, 1349, 1350, 1351, 1352, 1353, 1354, 1355, 1356, 1357, 1358, 1359, 1360, 1361, 1362, 1363, 1364, 1365, 1366, 1367, 1368, 1369, 1370, 1371, 1372, 1373, 1374, 1375, 1376, 1377, 1382, 1383, 1384, 1385, 1386, 1387, 1388, 1389, 1378, 1379, 1380, 1381] (by decide +kernel) (by decide +kernel)
set_option maxRecDepth 20000 in
theorem gL_law_X8_launch : GoodIn wsL_law (wsV RL 127 RX8 yX8_launch wsX8_launch) := goodIn_app (goodIn_of _ (by decide +kernel)) ggL_law_X8_launch
set_option maxRecDepth 20000 in
theorem ggL_law_X9_launch : GoodIn wsL_law wsX9_launch := goodIn_r _ [994, 186, 136, 141, 153, 150, 151, 138, 140, 139, 550, 551, 552, 5, 553, 149, 415, 416, 417, 880, 881, 882, 883, 152, 908, 909, 910, 911, 884, 885, 886, 887, 459, 460, 461, 995, 996, 997, 998, 172, 162, 489, 490, 491, 999, 1000, 1001, 1002, 142, 144, 143, 1003, 1004, 1005, 1006, 1007, 1008, 1009, 1010, 1011, 1012, 1013, 1014, 1015, 1016, 1017, 1018, 1019, 1285, 1286, 1287, 1288, 1289, 1290, 1291, 1292, 1293, 1294, 1295, 1296, 1297, 1298, 1299, 1300, 1301, 1302, 1303, 1304, 1305, 1306, 1307, 1308, 1309, 1310, 1311, 1312, 1313, 1314, 1315, 1316, 1317, 1318, 1319, 1320, 1321, 1322, 1323, 1324, 1325, 1326, 1327, 1328, 1329] (by decide +kernel) (by decide +kernel)
set_option maxRecDepth 20000 in
theorem gL_law_X9_launch : GoodIn wsL_law (wsV RL 130 RX9 yX9_launch wsX9_launch) := goodIn_app (goodIn_of _ (by decide +kernel)) ggL_law_X9_launch
set_option maxRecDepth 20000 in
theorem ggL_law_X8_nextDay : GoodIn wsL_law wsX8_nextDay := goodIn_r _ [1023, 34, 43, 576, 935, 936, 937, 2, 938, 939, 35, 398, 940, 941, 942, 33, 943, 71, 72, 944, 599, 600, 601, 73, 74, 75, 76, 78, 79, 80, 118, 119, 77, 124, 125, 127, 945, 946, 947, 70, 948, 84, 949, 85, 86, 950, 1024, 1025, 1026, 1027, 120, 121, 957, 958, 959, 960, 961, 962, 963, 964, 965, 1028, 1029, 1030, 92, 1031, 225, 106, 107, 1032, 350, 351, 352, 224, 108, 1033, 1034, 1035, 1036, 977, 978, 979, 980, 981, 982, 983, 984, 1037, 1038, 1039, 1040, 956, 543, 544, 42, 545, 217, 1041, 1042, 1043, 1044, 117, 1270, 1271, 1272, 1273, 1274, 1275, 1276, 1277, 1278, 1279, 1280, 1281, 1282, 1283, 1284, 1349, 1350, 1351, 1352, 1353, 1354, 1355, 1356, 1357, 1358, 1359, 1360, 1361, 1362, 1363, 1378, 1379, 1380, 1381, 1364, 1365, 1366, 1367, 1368, 1369, 1370, 1371, 1372, 1373, 1374, 1375, 1376, 1377, 1382, 1383, 1384, 1385, 1386, 1387, 1388, 1389] (by decide +kernel) (by decide +kernel)
set_option maxRecDepth 20000 in
theorem gL_law_X8_nextDay : GoodIn wsL_law (wsV RL 131 RX8 yX8_nextDay wsX8_nextDay) := goodIn_app (goodIn_of _ (by decide +kernel)) ggL_law_X8_nextDay
set_option maxRecDepth 20000 in
theorem ggL_law_X9_nextDay : GoodIn wsL_law wsX9_nextDay := goodIn_r _ [1048, 186, 136, 141, 145, 146, 148, 147, 995, 996, 997, 5, 998, 172, 162, 489, 490, 491, 1003, 1004, 1005, 1006, 1007, 1008, 1009, 1010, 1011, 1016, 1017, 1018, 1019, 1049, 1050, 1051, 1052, 1053, 1054, 1055, 1056, 152, 459, 460, 461, 1285, 1286, 1287, 1288, 1289, 1290, 1291, 1292, 1293, 1294, 1295, 1296, 1297, 1298, 1299, 1300, 1301, 1302, 1303, 1304, 1305, 1306, 1307, 1308, 1309, 1310, 1311, 1312, 1313, 1314, 1315, 1316, 1317, 1318, 1319, 1320, 1321, 1322, 1323, 1324, 1325, 1326, 1327, 1328, 1329] (by decide +kernel) (by decide +kernel)
set_option maxRecDepth 20000 in
theorem gL_law_X9_nextDay : GoodIn wsL_law (wsV RL 134 RX9 yX9_nextDay wsX9_nextDay) := goodIn_app (goodIn_of _ (by decide +kernel)) ggL_law_X9_nextDay
set_option maxRecDepth 20000 in
theorem ggL_law_X8_balloonState : GoodIn wsL_law wsX8_balloonState := goodIn_r _ [1060, 43, 34, 835, 542, 543, 544, 42, 545, 217, 1270, 1271, 1272, 1273, 1274, 1275, 1276, 1277, 1278, 1279, 1280, 1281, 1282, 1283, 1284, 1349, 1350, 1351, 1352, 1353, 1354, 1355, 1356, 1357, 1358, 1359, 1360, 1361, 1362, 1363, 1364, 1365, 1366, 1367, 1368, 1369, 1370, 1371, 1372, 1373, 1374, 1375, 1376, 1377] (by decide +kernel) (by decide +kernel)
set_option maxRecDepth 20000 in
theorem gL_law_X8_balloonState : GoodIn wsL_law (wsV RL 135 RX8 yX8_balloonState wsX8_balloonState) := goodIn_app (goodIn_of _ (by decide +kernel)) ggL_law_X8_balloonState
set_option maxRecDepth 20000 in
theorem ggL_law_X9_balloonState : GoodIn wsL_law wsX9_balloonState := goodIn_r _ [1064, 186, 136, 550, 551, 552, 5, 553, 149, 415, 416, 417, 1285, 1286, 1287, 1288, 1289, 1290, 1291, 1292, 1293, 1294, 1295, 1296, 1297, 1298, 1299, 1300, 1301, 1302, 1303, 1304, 1305, 1306, 1307, 1308, 1309, 1310, 1311, 1312, 1313, 1314, 1315, 1316, 1317, 1318, 1319, 1320, 1321, 1322, 1323, 1324, 1325, 1326, 1327, 1328, 1329] (by decide +kernel) (by decide +kernel)
set_option maxRecDepth 20000 in
theorem gL_law_X9_balloonState : GoodIn wsL_law (wsV RL 138 RX9 yX9_balloonState wsX9_balloonState) := goodIn_app (goodIn_of _ (by decide +kernel)) ggL_law_X9_balloonState
set_option maxRecDepth 20000 in
theorem ggL_law_X8_balloonRegion : GoodIn wsL_law wsX8_balloonRegion := goodIn_r _ [1068, 43, 34, 1069, 542, 543, 544, 42, 545, 217, 1270, 1271, 1272, 1273, 1274, 1275, 1276, 1277, 1278, 1279, 1280, 1281, 1282, 1283, 1284, 1349, 1350, 1351, 1352, 1353, 1354, 1355, 1356, 1357, 1358, 1359, 1360, 1361, 1362, 1363, 1364, 1365, 1366, 1367, 1368, 1369, 1370, 1371, 1372, 1373, 1374, 1375, 1376, 1377] (by decide +kernel) (by decide +kernel)
set_option maxRecDepth 20000 in
theorem gL_law_X8_balloonRegion : GoodIn wsL_law (wsV RL 139 RX8 yX8_balloonRegion wsX8_balloonRegion) := goodIn_app (goodIn_of _ (by decide +kernel)) ggL_law_X8_balloonRegion
set_option maxRecDepth 20000 in
theorem ggL_law_X9_balloonRegion : GoodIn wsL_law wsX9_balloonRegion := goodIn_r _ [1073, 186, 136, 550, 551, 552, 5, 553, 149, 415, 416, 417, 1285, 1286, 1287, 1288, 1289, 1290, 1291, 1292, 1293, 1294, 1295, 1296, 1297, 1298, 1299, 1300, 1301, 1302, 1303, 1304, 1305, 1306, 1307, 1308, 1309, 1310, 1311, 1312, 1313, 1314, 1315, 1316, 1317, 1318, 1319, 1320, 1321, 1322, 1323, 1324, 1325, 1326, 1327, 1328, 1329] (by decide +kernel) (by decide +kernel)
set_option maxRecDepth 20000 in
theorem gL_law_X9_balloonRegion : GoodIn wsL_law (wsV RL 142 RX9 yX9_balloonRegion wsX9_balloonRegion) := goodIn_app (goodIn_of _ (by decide +kernel)) ggL_law_X9_balloonRegion
set_option maxRecDepth 20000 in
theorem ggL_law_X8_cargo : GoodIn wsL_law wsX8_cargo := goodIn_r _ [1077, 43, 34, 1078, 542, 543, 544, 42, 545, 217, 1270, 1271, 1272, 1273, 1274, 1275, 1276, 1277, 1278, 1279, 1280, 1281, 1282, 1283, 1284, 1349, 1350, 1351, 1352, 1353, 1354, 1355, 1356, 1357, 1358, 1359, 1360, 1361, 1362, 1363, 1364, 1365, 1366, 1367, 1368, 1369, 1370, 1371, 1372, 1373, 1374, 1375, 1376, 1377] (by decide +kernel) (by decide +kernel)
set_option maxRecDepth 20000 in
theorem gL_law_X8_cargo : GoodIn wsL_law (wsV RL 143 RX8 yX8_cargo wsX8_cargo) := goodIn_app (goodIn_of _ (by decide +kernel)) ggL_law_X8_cargo
set_option maxRecDepth 20000 in
theorem ggL_law_X9_cargo : GoodIn wsL_law wsX9_cargo := goodIn_r _ [1082, 186, 136, 550, 551, 552, 5, 553, 149, 415, 416, 417, 1285, 1286, 1287, 1288, 1289, 1290, 1291, 1292, 1293, 1294, 1295, 1296, 1297, 1298, 1299, 1300, 1301, 1302, 1303, 1304, 1305, 1306, 1307, 1308, 1309, 1310, 1311, 1312, 1313, 1314, 1315, 1316, 1317, 1318, 1319, 1320, 1321, 1322, 1323, 1324, 1325, 1326, 1327, 1328, 1329] (by decide +kernel) (by decide +kernel)
set_option maxRecDepth 20000 in
theorem gL_law_X9_cargo : GoodIn wsL_law (wsV RL 146 RX9 yX9_cargo wsX9_cargo) := goodIn_app (goodIn_of _ (by decide +kernel)) ggL_law_X9_cargo
set_option maxRecDepth 20000 in
theorem ggL_law_X8_letterState : GoodIn wsL_law wsX8_letterState := goodIn_r _ [1086, 43, 34, 559, 560, 561, 42, 562, 218, 1087, 1088, 1089, 33, 1090, 75, 1270, 1271, 1272, 1273, 1274, 1275, 1276, 1277, 1278, 1279, 1280, 1281, 1282, 1283, 1284, 1364, 1365, 1366, 1367, 1368, 1369, 1370, 1371, 1372, 1373, 1374, 1375, 1376, 1377, 1349, 1350, 1351, 1352, 1353, 1354, 1355, 1356, 1357, 1358, 1359, 1360, 1361, 1362, 1363] (by decide +kernel) (by decide +kernel)
set_option maxRecDepth 20000 in
theorem gL_law_X8_letterState : GoodIn wsL_law (wsV RL 147 RX8 yX8_letterState wsX8_letterState) := goodIn_app (goodIn_of _ (by decide +kernel)) ggL_law_X8_letterState
set_option maxRecDepth 20000 in
theorem ggL_law_X9_letterState : GoodIn wsL_law wsX9_letterState := goodIn_r _ [1094, 186, 136, 567, 568, 569, 5, 570, 152, 415, 416, 417, 1285, 1286, 1287, 1288, 1289, 1290, 1291, 1292, 1293, 1294, 1295, 1296, 1297, 1298, 1299, 1300, 1301, 1302, 1303, 1304, 1305, 1306, 1307, 1308, 1309, 1310, 1311, 1312, 1313, 1314, 1315, 1316, 1317, 1318, 1319, 1320, 1321, 1322, 1323, 1324, 1325, 1326, 1327, 1328, 1329] (by decide +kernel) (by decide +kernel)
set_option maxRecDepth 20000 in
theorem gL_law_X9_letterState : GoodIn wsL_law (wsV RL 150 RX9 yX9_letterState wsX9_letterState) := goodIn_app (goodIn_of _ (by decide +kernel)) ggL_law_X9_letterState
set_option maxRecDepth 20000 in
theorem ggL_law_X8_answerDay : GoodIn wsL_law wsX8_answerDay := goodIn_r _ [1098, 43, 34, 1099, 559, 560, 561, 42, 562, 218, 1270, 1271, 1272, 1273, 1274, 1275, 1276, 1277, 1278, 1279, 1280, 1281, 1282, 1283, 1284, 1349, 1350, 1351, 1352, 1353, 1354, 1355, 1356, 1357, 1358, 1359, 1360, 1361, 1362, 1363, 1364, 1365, 1366, 1367, 1368, 1369, 1370, 1371, 1372, 1373, 1374, 1375, 1376, 1377] (by decide +kernel) (by decide +kernel)
set_option maxRecDepth 20000 in
theorem gL_law_X8_answerDay : GoodIn wsL_law (wsV RL 151 RX8 yX8_answerDay wsX8_answerDay) := goodIn_app (goodIn_of _ (by decide +kernel)) ggL_law_X8_answerDay
set_option maxRecDepth 20000 in
theorem ggL_law_X9_answerDay : GoodIn wsL_law wsX9_answerDay := goodIn_r _ [1103, 186, 136, 567, 568, 569, 5, 570, 152, 415, 416, 417, 1285, 1286, 1287, 1288, 1289, 1290, 1291, 1292, 1293, 1294, 1295, 1296, 1297, 1298, 1299, 1300, 1301, 1302, 1303, 1304, 1305, 1306, 1307, 1308, 1309, 1310, 1311, 1312, 1313, 1314, 1315, 1316, 1317, 1318, 1319, 1320, 1321, 1322, 1323, 1324, 1325, 1326, 1327, 1328, 1329] (by decide +kernel) (by decide +kernel)
set_option maxRecDepth 20000 in
theorem gL_law_X9_answerDay : GoodIn wsL_law (wsV RL 154 RX9 yX9_answerDay wsX9_answerDay) := goodIn_app (goodIn_of _ (by decide +kernel)) ggL_law_X9_answerDay
set_option maxRecDepth 20000 in
theorem ggL_law_X8_pigeonsInLoft : GoodIn wsL_law wsX8_pigeonsInLoft := goodIn_r _ [1107, 34, 933, 1270, 1271, 1272, 1273, 1274, 1275, 1276, 1277, 1278, 1279, 1280, 1281, 1282, 1283, 1284, 1349, 1350, 1351, 1352, 1353, 1354, 1355, 1356, 1357, 1358, 1359, 1360, 1361, 1362, 1363] (by decide +kernel) (by decide +kernel)
set_option maxRecDepth 20000 in
theorem gL_law_X8_pigeonsInLoft : GoodIn wsL_law (wsV RL 155 RX8 yX8_pigeonsInLoft wsX8_pigeonsInLoft) := goodIn_app (goodIn_of _ (by decide +kernel)) ggL_law_X8_pigeonsInLoft
set_option maxRecDepth 20000 in
theorem ggL_law_X9_pigeonsInLoft : GoodIn wsL_law wsX9_pigeonsInLoft := goodIn_r _ [1111, 186, 136, 1285, 1286, 1287, 1288, 1289, 1290, 1291, 1292, 1293, 1294, 1295, 1296, 1297, 1298, 1299, 1300, 1301, 1302, 1303, 1304, 1305, 1306, 1307, 1308, 1309, 1310, 1311, 1312, 1313, 1314, 1315, 1316, 1317, 1318, 1319, 1320, 1321, 1322, 1323, 1324, 1325, 1326, 1327, 1328, 1329] (by decide +kernel) (by decide +kernel)
set_option maxRecDepth 20000 in
theorem gL_law_X9_pigeonsInLoft : GoodIn wsL_law (wsV RL 158 RX9 yX9_pigeonsInLoft wsX9_pigeonsInLoft) := goodIn_app (goodIn_of _ (by decide +kernel)) ggL_law_X9_pigeonsInLoft
set_option maxRecDepth 20000 in
theorem ggL_law_X8_pigeonsOnTheWay : GoodIn wsL_law wsX8_pigeonsOnTheWay := goodIn_r _ [1115, 34, 43, 1116, 1117, 1118, 33, 1119, 748, 78, 1270, 1271, 1272, 1273, 1274, 1275, 1276, 1277, 1278, 1279, 1280, 1281, 1282, 1283, 1284, 1364, 1365, 1366, 1367, 1368, 1369, 1370, 1371, 1372, 1373, 1374, 1375, 1376, 1377, 1349, 1350, 1351, 1352, 1353, 1354, 1355, 1356, 1357, 1358, 1359, 1360, 1361, 1362, 1363] (by decide +kernel) (by decide +kernel)
set_option maxRecDepth 20000 in
theorem gL_law_X8_pigeonsOnTheWay : GoodIn wsL_law (wsV RL 159 RX8 yX8_pigeonsOnTheWay wsX8_pigeonsOnTheWay) := goodIn_app (goodIn_of _ (by decide +kernel)) ggL_law_X8_pigeonsOnTheWay
set_option maxRecDepth 20000 in
theorem ggL_law_X9_pigeonsOnTheWay : GoodIn wsL_law wsX9_pigeonsOnTheWay := goodIn_r _ [1123, 186, 136, 1285, 1286, 1287, 1288, 1289, 1290, 1291, 1292, 1293, 1294, 1295, 1296, 1297, 1298, 1299, 1300, 1301, 1302, 1303, 1304, 1305, 1306, 1307, 1308, 1309, 1310, 1311, 1312, 1313, 1314, 1315, 1316, 1317, 1318, 1319, 1320, 1321, 1322, 1323, 1324, 1325, 1326, 1327, 1328, 1329] (by decide +kernel) (by decide +kernel)
set_option maxRecDepth 20000 in
theorem gL_law_X9_pigeonsOnTheWay : GoodIn wsL_law (wsV RL 162 RX9 yX9_pigeonsOnTheWay wsX9_pigeonsOnTheWay) := goodIn_app (goodIn_of _ (by decide +kernel)) ggL_law_X9_pigeonsOnTheWay
set_option maxRecDepth 20000 in
theorem ggL_law_X8_pigeonsLost : GoodIn wsL_law wsX8_pigeonsLost := goodIn_r _ [1127, 34, 1128, 1270, 1271, 1272, 1273, 1274, 1275, 1276, 1277, 1278, 1279, 1280, 1281, 1282, 1283, 1284, 1349, 1350, 1351, 1352, 1353, 1354, 1355, 1356, 1357, 1358, 1359, 1360, 1361, 1362, 1363] (by decide +kernel) (by decide +kernel)
set_option maxRecDepth 20000 in
theorem gL_law_X8_pigeonsLost : GoodIn wsL_law (wsV RL 163 RX8 yX8_pigeonsLost wsX8_pigeonsLost) := goodIn_app (goodIn_of _ (by decide +kernel)) ggL_law_X8_pigeonsLost
set_option maxRecDepth 20000 in
theorem ggL_law_X9_pigeonsLost : GoodIn wsL_law wsX9_pigeonsLost := goodIn_r _ [1132, 186, 136, 1285, 1286, 1287, 1288, 1289, 1290, 1291, 1292, 1293, 1294, 1295, 1296, 1297, 1298, 1299, 1300, 1301, 1302, 1303, 1304, 1305, 1306, 1307, 1308, 1309, 1310, 1311, 1312, 1313, 1314, 1315, 1316, 1317, 1318, 1319, 1320, 1321, 1322, 1323, 1324, 1325, 1326, 1327, 1328, 1329] (by decide +kernel) (by decide +kernel)
set_option maxRecDepth 20000 in
theorem gL_law_X9_pigeonsLost : GoodIn wsL_law (wsV RL 166 RX9 yX9_pigeonsLost wsX9_pigeonsLost) := goodIn_app (goodIn_of _ (by decide +kernel)) ggL_law_X9_pigeonsLost
set_option maxRecDepth 20000 in
theorem ggL_law_X8_nextReturn : GoodIn wsL_law wsX8_nextReturn := goodIn_r _ [1136, 34, 43, 1137, 1138, 1139, 33, 1140, 748, 79, 78, 1270, 1271, 1272, 1273, 1274, 1275, 1276, 1277, 1278, 1279, 1280, 1281, 1282, 1283, 1284, 1364, 1365, 1366, 1367, 1368, 1369, 1370, 1371, 1372, 1373, 1374, 1375, 1376, 1377, 1349, 1350, 1351, 1352, 1353, 1354, 1355, 1356, 1357, 1358, 1359, 1360, 1361, 1362, 1363] (by decide +kernel) (by decide +kernel)
set_option maxRecDepth 20000 in
theorem gL_law_X8_nextReturn : GoodIn wsL_law (wsV RL 167 RX8 yX8_nextReturn wsX8_nextReturn) := goodIn_app (goodIn_of _ (by decide +kernel)) ggL_law_X8_nextReturn
set_option maxRecDepth 20000 in
theorem ggL_law_X9_nextReturn : GoodIn wsL_law wsX9_nextReturn := goodIn_r _ [1144, 186, 136, 1285, 1286, 1287, 1288, 1289, 1290, 1291, 1292, 1293, 1294, 1295, 1296, 1297, 1298, 1299, 1300, 1301, 1302, 1303, 1304, 1305, 1306, 1307, 1308, 1309, 1310, 1311, 1312, 1313, 1314, 1315, 1316, 1317, 1318, 1319, 1320, 1321, 1322, 1323, 1324, 1325, 1326, 1327, 1328, 1329] (by decide +kernel) (by decide +kernel)
set_option maxRecDepth 20000 in
theorem gL_law_X9_nextReturn : GoodIn wsL_law (wsV RL 170 RX9 yX9_nextReturn wsX9_nextReturn) := goodIn_app (goodIn_of _ (by decide +kernel)) ggL_law_X9_nextReturn
set_option maxRecDepth 20000 in
theorem ggL_law_X8_weightIn : GoodIn wsL_law wsX8_weightIn := goodIn_r _ [1148, 43, 558, 34, 836, 901, 902, 2, 903, 872, 873, 874, 42, 875, 218, 1270, 1271, 1272, 1273, 1274, 1275, 1276, 1277, 1278, 1279, 1280, 1281, 1282, 1283, 1284, 1364, 1365, 1366, 1367, 1368, 1369, 1370, 1371, 1372, 1373, 1374, 1375, 1376, 1377, 1349, 1350, 1351, 1352, 1353, 1354, 1355, 1356, 1357, 1358, 1359, 1360, 1361, 1362, 1363] (by decide +kernel) (by decide +kernel)
set_option maxRecDepth 20000 in
theorem gL_law_X8_weightIn : GoodIn wsL_law (wsV RL 171 RX8 yX8_weightIn wsX8_weightIn) := goodIn_app (goodIn_of _ (by decide +kernel)) ggL_law_X8_weightIn
set_option maxRecDepth 20000 in
theorem ggL_law_X9_weightIn : GoodIn wsL_law wsX9_weightIn := goodIn_r _ [1152, 186, 153, 415, 416, 5, 417, 908, 909, 910, 911, 152, 136, 884, 885, 886, 887, 459, 460, 461, 1285, 1286, 1287, 1288, 1289, 1290, 1291, 1292, 1293, 1294, 1295, 1296, 1297, 1298, 1299, 1300, 1301, 1302, 1303, 1304, 1305, 1306, 1307, 1308, 1309, 1310, 1311, 1312, 1313, 1314, 1315, 1316, 1317, 1318, 1319, 1320, 1321, 1322, 1323, 1324, 1325, 1326, 1327, 1328, 1329] (by decide +kernel) (by decide +kernel)
set_option maxRecDepth 20000 in
theorem gL_law_X9_weightIn : GoodIn wsL_law (wsV RL 174 RX9 yX9_weightIn wsX9_weightIn) := goodIn_app (goodIn_of _ (by decide +kernel)) ggL_law_X9_weightIn
set_option maxRecDepth 20000 in
theorem ggL_law_X8_answeredPriority : GoodIn wsL_law wsX8_answeredPriority := goodIn_r _ [1156, 43, 892, 34, 836, 872, 873, 874, 42, 875, 218, 1270, 1271, 1272, 1273, 1274, 1275, 1276, 1277, 1278, 1279, 1280, 1281, 1282, 1283, 1284, 1364, 1365, 1366, 1367, 1368, 1369, 1370, 1371, 1372, 1373, 1374, 1375, 1376, 1377, 1349, 1350, 1351, 1352, 1353, 1354, 1355, 1356, 1357, 1358, 1359, 1360, 1361, 1362, 1363] (by decide +kernel) (by decide +kernel)
set_option maxRecDepth 20000 in
theorem gL_law_X8_answeredPriority : GoodIn wsL_law (wsV RL 175 RX8 yX8_answeredPriority wsX8_answeredPriority) := goodIn_app (goodIn_of _ (by decide +kernel)) ggL_law_X8_answeredPriority
set_option maxRecDepth 20000 in
theorem ggL_law_X9_answeredPriority : GoodIn wsL_law wsX9_answeredPriority := goodIn_r _ [1160, 186, 154, 908, 909, 910, 5, 911, 152, 136, 884, 885, 886, 887, 459, 460, 461, 1285, 1286, 1287, 1288, 1289, 1290, 1291, 1292, 1293, 1294, 1295, 1296, 1297, 1298, 1299, 1300, 1301, 1302, 1303, 1304, 1305, 1306, 1307, 1308, 1309, 1310, 1311, 1312, 1313, 1314, 1315, 1316, 1317, 1318, 1319, 1320, 1321, 1322, 1323, 1324, 1325, 1326, 1327, 1328, 1329] (by decide +kernel) (by decide +kernel)
set_option maxRecDepth 20000 in
theorem gL_law_X9_answeredPriority : GoodIn wsL_law (wsV RL 178 RX9 yX9_answeredPriority wsX9_answeredPriority) := goodIn_app (goodIn_of _ (by decide +kernel)) ggL_law_X9_answeredPriority
set_option maxRecDepth 20000 in
theorem ggL_law_X8_balloonsIn : GoodIn wsL_law wsX8_balloonsIn := goodIn_r _ [1164, 43, 34, 643, 644, 645, 42, 646, 216, 1165, 1166, 1167, 33, 1168, 748, 73, 1270, 1271, 1272, 1273, 1274, 1275, 1276, 1277, 1278, 1279, 1280, 1281, 1282, 1283, 1284, 1364, 1365, 1366, 1367, 1368, 1369, 1370, 1371, 1372, 1373, 1374, 1375, 1376, 1377, 1349, 1350, 1351, 1352, 1353, 1354, 1355, 1356, 1357, 1358, 1359, 1360, 1361, 1362, 1363] (by decide +kernel) (by decide +kernel)
set_option maxRecDepth 20000 in
theorem gL_law_X8_balloonsIn : GoodIn wsL_law (wsV RL 179 RX8 yX8_balloonsIn wsX8_balloonsIn) := goodIn_app (goodIn_of _ (by decide +kernel)) ggL_law_X8_balloonsIn
set_option maxRecDepth 20000 in
theorem ggL_law_X9_balloonsIn : GoodIn wsL_law wsX9_balloonsIn := goodIn_r _ [1172, 186, 137, 149, 136, 415, 416, 5, 417, 1285, 1286, 1287, 1288, 1289, 1290, 1291, 1292, 1293, 1294, 1295, 1296, 1297, 1298, 1299, 1300, 1301, 1302, 1303, 1304, 1305, 1306, 1307, 1308, 1309, 1310, 1311, 1312, 1313, 1314, 1315, 1316, 1317, 1318, 1319, 1320, 1321, 1322, 1323, 1324, 1325, 1326, 1327, 1328, 1329] (by decide +kernel) (by decide +kernel)
set_option maxRecDepth 20000 in
theorem gL_law_X9_balloonsIn : GoodIn wsL_law (wsV RL 182 RX9 yX9_balloonsIn wsX9_balloonsIn) := goodIn_app (goodIn_of _ (by decide +kernel)) ggL_law_X9_balloonsIn
set_option maxRecDepth 20000 in
theorem ggL_law_X8_eventCount : GoodIn wsL_law wsX8_eventCount := goodIn_r _ [1176, 34, 1177, 1178, 1270, 1271, 1272, 1273, 1274, 1275, 1276, 1277, 1278, 1279, 1280, 1281, 1282, 1283, 1284, 1349, 1350, 1351, 1352, 1353, 1354, 1355, 1356, 1357, 1358, 1359, 1360, 1361, 1362, 1363, 1378, 1379, 1380, 1381] (by decide +kernel) (by decide +kernel)
set_option maxRecDepth 20000 in
theorem gL_law_X8_eventCount : GoodIn wsL_law (wsV RL 183 RX8 yX8_eventCount wsX8_eventCount) := goodIn_app (goodIn_of _ (by decide +kernel)) ggL_law_X8_eventCount
set_option maxRecDepth 20000 in
theorem ggL_law_X9_eventCount : GoodIn wsL_law wsX9_eventCount := goodIn_r _ [1182, 186, 136, 1285, 1286, 1287, 1288, 1289, 1290, 1291, 1292, 1293, 1294, 1295, 1296, 1297, 1298, 1299, 1300, 1301, 1302, 1303, 1304, 1305, 1306, 1307, 1308, 1309, 1310, 1311, 1312, 1313, 1314, 1315, 1316, 1317, 1318, 1319, 1320, 1321, 1322, 1323, 1324, 1325, 1326, 1327, 1328, 1329] (by decide +kernel) (by decide +kernel)
set_option maxRecDepth 20000 in
theorem gL_law_X9_eventCount : GoodIn wsL_law (wsV RL 186 RX9 yX9_eventCount wsX9_eventCount) := goodIn_app (goodIn_of _ (by decide +kernel)) ggL_law_X9_eventCount
set_option maxRecDepth 20000 in
theorem ggL_law_L_eventKind : GoodIn wsL_law wsL_eventKind := goodIn_ca (goodIn_r _ [1186, 1187, 1188, 1189, 1190, 2, 1191, 1192, 1193, 34, 1177, 1194, 1195, 1196, 1197, 70, 1198, 950, 1270, 1271, 1272, 1273, 1274, 1275, 1276, 1277, 1278, 1279, 1280, 1281, 1282, 1283, 1284, 1349, 1350, 1351, 1352, 1353, 1354, 1355, 1356, 1357, 1358, 1359, 1360, 1361, 1362, 1363, 1378, 1379, 1380, 1381] (by decide +kernel) (by decide +kernel)) (goodIn_sub (fun _ h => List.mem_append_right _ h) (by decide +kernel))
set_option maxRecDepth 20000 in
theorem gL_law_L_eventKind : GoodIn wsL_law (va_wsS RL 187 yL_eventKind wsL_eventKind) := goodIn_app (goodIn_of _ (by decide +kernel)) ggL_law_L_eventKind
set_option maxRecDepth 20000 in
theorem ggL_law_X9_eventKind : GoodIn wsL_law wsX9_eventKind := goodIn_r _ [1202, 1203, 1204, 1205, 5, 1206, 136, 186, 415, 416, 417, 1285, 1286, 1287, 1288, 1289, 1290, 1291, 1292, 1293, 1294, 1295, 1296, 1297, 1298, 1299, 1300, 1301, 1302, 1303, 1304, 1305, 1306, 1307, 1308, 1309, 1310, 1311, 1312, 1313, 1314, 1315, 1316, 1317, 1318, 1319, 1320, 1321, 1322, 1323, 1324, 1325, 1326, 1327, 1328, 1329] (by decide +kernel) (by decide +kernel)
set_option maxRecDepth 20000 in
theorem gL_law_X9_eventKind : GoodIn wsL_law (wsV RL 192 RX9 yX9_eventKind wsX9_eventKind) := goodIn_app (goodIn_of _ (by decide +kernel)) ggL_law_X9_eventKind
set_option maxRecDepth 20000 in
theorem ggL_law_X9_thrown : GoodIn wsL_law wsX9_thrown := goodIn_r _ [1210, 186, 1285, 1286, 1287, 1288, 1289, 1290, 1291, 1292, 1293, 1294, 1295, 1296, 1297, 1298, 1299, 1300, 1301, 1302, 1303, 1304, 1305, 1306, 1307, 1308, 1309, 1310, 1311, 1312, 1313, 1314, 1315, 1316, 1317, 1318, 1319, 1320, 1321, 1322, 1323, 1324, 1325, 1326, 1327, 1328, 1329] (by decide +kernel) (by decide +kernel)
set_option maxRecDepth 20000 in
theorem gL_law_X9_thrown : GoodIn wsL_law (wsV RL 193 RX9 yX9_thrown wsX9_thrown) := goodIn_app (goodIn_of _ (by decide +kernel)) ggL_law_X9_thrown
set_option maxRecDepth 20000 in
theorem ggL_law_L_eventNumber : GoodIn wsL_law wsL_eventNumber := goodIn_ca (goodIn_r _ [1213, 1187, 1214, 1215, 1216, 2, 1217, 1192, 1193, 34, 1177, 1218, 1195, 1196, 1197, 70, 1198, 950, 1270, 1271, 1272, 1273, 1274, 1275, 1276, 1277, 1278, 1279, 1280, 1281, 1282, 1283, 1284, 1349, 1350, 1351, 1352, 1353, 1354, 1355, 1356, 1357, 1358, 1359, 1360, 1361, 1362, 1363, 1378, 1379, 1380, 1381] (by decide +kernel) (by decide +kernel)) (goodIn_sub (fun _ h => List.mem_append_right _ h) (by decide +kernel))
set_option maxRecDepth 20000 in
theorem gL_law_L_eventNumber : GoodIn wsL_law (va_wsS RL 196 yL_eventNumber wsL_eventNumber) := goodIn_app (goodIn_of _ (by decide +kernel)) ggL_law_L_eventNumber
set_option maxRecDepth 20000 in
theorem ggL_law_X9_eventNumber : GoodIn wsL_law wsX9_eventNumber := goodIn_r _ [1222, 1203, 1204, 1205, 5, 1206, 136, 186, 415, 416, 417, 1285, 1286, 1287, 1288, 1289, 1290, 1291, 1292, 1293, 1294, 1295, 1296, 1297, 1298, 1299, 1300, 1301, 1302, 1303, 1304, 1305, 1306, 1307, 1308, 1309, 1310, 1311, 1312, 1313, 1314, 1315, 1316, 1317, 1318, 1319, 1320, 1321, 1322, 1323, 1324, 1325, 1326, 1327, 1328, 1329] (by decide +kernel) (by decide +kernel)
set_option maxRecDepth 20000 in
theorem gL_law_X9_eventNumber : GoodIn wsL_law (wsV RL 198 RX9 yX9_eventNumber wsX9_eventNumber) := goodIn_app (goodIn_of _ (by decide +kernel)) ggL_law_X9_eventNumber
set_option maxRecDepth 20000 in
theorem ggL_law_L_eventDay : GoodIn wsL_law wsL_eventDay := goodIn_ca (goodIn_r _ [1225, 1187, 1226, 1227, 1228, 2, 1229, 1192, 1193, 34, 1177, 1230, 1195, 1196, 1197, 70, 1198, 950, 1270, 1271, 1272, 1273, 1274, 1275, 1276, 1277, 1278, 1279, 1280, 1281, 1282, 1283, 1284, 1349, 1350, 1351, 1352, 1353, 1354, 1355, 1356, 1357, 1358, 1359, 1360, 1361, 1362, 1363, 1378, 1379, 1380, 1381] (by decide +kernel) (by decide +kernel)) (goodIn_sub (fun _ h => List.mem_append_right _ h) (by decide +kernel))
set_option maxRecDepth 20000 in
theorem gL_law_L_eventDay : GoodIn wsL_law (va_wsS RL 199 yL_eventDay wsL_eventDay) := goodIn_app (goodIn_of _ (by decide +kernel)) ggL_law_L_eventDay
set_option maxRecDepth 20000 in
theorem ggL_law_X9_eventDay : GoodIn wsL_law wsX9_eventDay := goodIn_r _ [1234, 1203, 1204, 1205, 5, 1206, 136, 186, 415, 416, 417, 1285, 1286, 1287, 1288, 1289, 1290, 1291, 1292, 1293, 1294, 1295, 1296, 1297, 1298, 1299, 1300, 1301, 1302, 1303, 1304, 1305, 1306, 1307, 1308, 1309, 1310, 1311, 1312, 1313, 1314, 1315, 1316, 1317, 1318, 1319, 1320, 1321, 1322, 1323, 1324, 1325, 1326, 1327, 1328, 1329] (by decide +kernel) (by decide +kernel)
set_option maxRecDepth 20000 in
theorem gL_law_X9_eventDay : GoodIn wsL_law (wsV RL 201 RX9 yX9_eventDay wsX9_eventDay) := goodIn_app (goodIn_of _ (by decide +kernel)) ggL_law_X9_eventDay
set_option maxRecDepth 20000 in
theorem ggL_law_X8_undo : GoodIn wsL_law wsX8_undo := goodIn_r _ [1238, 398, 34, 35, 939, 940, 941, 942, 33, 943, 71, 72, 944, 599, 600, 601, 73, 74, 75, 76, 78, 79, 80, 118, 119, 77, 124, 125, 127, 945, 946, 947, 70, 948, 84, 949, 85, 86, 950, 1270, 1271, 1272, 1273, 1274, 1275, 1276, 1277, 1278, 1279, 1280, 1281, 1282, 1283, 1284, 1349, 1350, 1351, 1352, 1353, 1354, 1355, 1356, 1357, 1358, 1359, 1360, 1361, 1362, 1363, 1378, 1379, 1380, 1381] (by decide +kernel) (by decide +kernel)
set_option maxRecDepth 20000 in
theorem gL_law_X8_undo : GoodIn wsL_law (wsV RL 202 RX8 yX8_undo wsX8_undo) := goodIn_app (goodIn_of _ (by decide +kernel)) ggL_law_X8_undo
set_option maxRecDepth 20000 in
theorem ggL_law_X9_undo : GoodIn wsL_law wsX9_undo := goodIn_r _ [1242, 186, 172, 162, 136, 489, 490, 5, 491, 1285, 1286, 1287, 1288, 1289, 1290, 1291, 1292, 1293, 1294, 1295, 1296, 1297, 1298, 1299, 1300, 1301, 1302, 1303, 1304, 1305, 1306, 1307, 1308, 1309, 1310, 1311, 1312, 1313, 1314, 1315, 1316, 1317, 1318, 1319, 1320, 1321, 1322, 1323, 1324, 1325, 1326, 1327, 1328, 1329] (by decide +kernel) (by decide +kernel)
set_option maxRecDepth 20000 in
theorem gL_law_X9_undo : GoodIn wsL_law (wsV RL 206 RX9 yX9_undo wsX9_undo) := goodIn_app (goodIn_of _ (by decide +kernel)) ggL_law_X9_undo
set_option maxRecDepth 20000 in
theorem ggL_law_X8_undoDepth : GoodIn wsL_law wsX8_undoDepth := goodIn_r _ [1246, 398, 1270, 1271, 1272, 1273, 1274, 1275, 1276, 1277, 1278, 1279, 1280, 1281, 1282, 1283, 1284] (by decide +kernel) (by decide +kernel)
set_option maxRecDepth 20000 in
theorem gL_law_X8_undoDepth : GoodIn wsL_law (wsV RL 207 RX8 yX8_undoDepth wsX8_undoDepth) := goodIn_app (goodIn_of _ (by decide +kernel)) ggL_law_X8_undoDepth
set_option maxRecDepth 20000 in
theorem ggL_law_X9_undoDepth : GoodIn wsL_law wsX9_undoDepth := goodIn_r _ [1250, 186, 172, 1285, 1286, 1287, 1288, 1289, 1290, 1291, 1292, 1293, 1294, 1295, 1296, 1297, 1298, 1299, 1300, 1301, 1302, 1303, 1304, 1305, 1306, 1307, 1308, 1309, 1310, 1311, 1312, 1313, 1314, 1315, 1316, 1317, 1318, 1319, 1320, 1321, 1322, 1323, 1324, 1325, 1326, 1327, 1328, 1329] (by decide +kernel) (by decide +kernel)
set_option maxRecDepth 20000 in
theorem gL_law_X9_undoDepth : GoodIn wsL_law (wsV RL 210 RX9 yX9_undoDepth wsX9_undoDepth) := goodIn_app (goodIn_of _ (by decide +kernel)) ggL_law_X9_undoDepth
set_option maxRecDepth 20000 in
theorem ggL_law_X8_saveSnapshot : GoodIn wsL_law wsX8_saveSnapshot := goodIn_r _ [1254, 36, 34, 38, 1255, 1256, 2, 1257, 940, 941, 942, 33, 943, 71, 72, 944, 599, 600, 601, 73, 74, 75, 76, 78, 79, 80, 118, 119, 77, 124, 125, 127, 945, 946, 947, 70, 948, 84, 949, 85, 86, 950, 1270, 1271, 1272, 1273, 1274, 1275, 1276, 1277, 1278, 1279, 1280, 1281, 1282, 1283, 1284, 1349, 1350, 1351, 1352, 1353, 1354, 1355, 1356, 1357, 1358, 1359, 1360, 1361, 1362, 1363, 1378, 1379, 1380, 1381] (by decide +kernel) (by decide +kernel)
set_option maxRecDepth 20000 in
theorem gL_law_X8_saveSnapshot : GoodIn wsL_law (wsV RL 211 RX8 yX8_saveSnapshot wsX8_saveSnapshot) := goodIn_app (goodIn_of _ (by decide +kernel)) ggL_law_X8_saveSnapshot
set_option maxRecDepth 20000 in
theorem ggL_law_X9_saveSnapshot : GoodIn wsL_law wsX9_saveSnapshot := goodIn_r _ [1261, 186, 136, 163, 164, 415, 416, 5, 417, 489, 490, 491, 1285, 1286, 1287, 1288, 1289, 1290, 1291, 1292, 1293, 1294, 1295, 1296, 1297, 1298, 1299, 1300, 1301, 1302, 1303, 1304, 1305, 1306, 1307, 1308, 1309, 1310, 1311, 1312, 1313, 1314, 1315, 1316, 1317, 1318, 1319, 1320, 1321, 1322, 1323, 1324, 1325, 1326, 1327, 1328, 1329] (by decide +kernel) (by decide +kernel)
set_option maxRecDepth 20000 in
theorem gL_law_X9_saveSnapshot : GoodIn wsL_law (wsV RL 215 RX9 yX9_saveSnapshot wsX9_saveSnapshot) := goodIn_app (goodIn_of _ (by decide +kernel)) ggL_law_X9_saveSnapshot
set_option maxRecDepth 20000 in
theorem ggL_law_X8_restoreSnapshot : GoodIn wsL_law wsX8_restoreSnapshot := goodIn_r _ [1265, 38, 34, 36, 398, 1255, 1256, 2, 1257, 940, 941, 942, 33, 943, 71, 72, 944, 599, 600, 601, 73, 74, 75, 76, 78, 79, 80, 118, 119, 77, 124, 125, 127, 945, 946, 947, 70, 948, 84, 949, 85, 86, 950, 1270, 1271, 1272, 1273, 1274, 1275, 1276, 1277, 1278, 1279, 1280, 1281, 1282, 1283, 1284, 1349, 1350, 1351, 1352, 1353, 1354, 1355, 1356, 1357, 1358, 1359, 1360, 1361, 1362, 1363, 1378, 1379, 1380, 1381] (by decide +kernel) (by decide +kernel)
set_option maxRecDepth 20000 in
theorem gL_law_X8_restoreSnapshot : GoodIn wsL_law (wsV RL 216 RX8 yX8_restoreSnapshot wsX8_restoreSnapshot) := goodIn_app (goodIn_of _ (by decide +kernel)) ggL_law_X8_restoreSnapshot
set_option maxRecDepth 20000 in
theorem ggL_law_X9_restoreSnapshot : GoodIn wsL_law wsX9_restoreSnapshot := goodIn_r _ [1269, 186, 164, 163, 136, 172, 415, 416, 5, 417, 489, 490, 491, 1285, 1286, 1287, 1288, 1289, 1290, 1291, 1292, 1293, 1294, 1295, 1296, 1297, 1298, 1299, 1300, 1301, 1302, 1303, 1304, 1305, 1306, 1307, 1308, 1309, 1310, 1311, 1312, 1313, 1314, 1315, 1316, 1317, 1318, 1319, 1320, 1321, 1322, 1323, 1324, 1325, 1326, 1327, 1328, 1329] (by decide +kernel) (by decide +kernel)
set_option maxRecDepth 20000 in
theorem gL_law_X9_restoreSnapshot : GoodIn wsL_law (wsV RL 219 RX9 yX9_restoreSnapshot wsX9_restoreSnapshot) := goodIn_app (goodIn_of _ (by decide +kernel)) ggL_law_X9_restoreSnapshot
theorem dL_law_0 : decode cL_law 0 = .ok (.new 8, 3) := by decide +kernel
theorem dL_law_3 : decode cL_law 3 = .ok (.dup, 1) := by decide +kernel
theorem dL_law_4 : decode cL_law 4 = .ok (.invokespecial 21, 3) := by decide +kernel
theorem dL_law_7 : decode cL_law 7 = .ok (.astore_n 1, 1) := by decide +kernel
theorem dL_law_8 : decode cL_law 8 = .ok (.new 22, 3) := by decide +kernel
theorem dL_law_11 : decode cL_law 11 = .ok (.dup, 1) := by decide +kernel
theorem dL_law_12 : decode cL_law 12 = .ok (.invokespecial 24, 3) := by decide +kernel
theorem dL_law_15 : decode cL_law 15 = .ok (.astore_n 2, 1) := by decide +kernel
theorem dL_law_16 : decode cL_law 16 = .ok (.iconst 1, 1) := by decide +kernel
theorem dL_law_17 : decode cL_law 17 = .ok (.newarray .long, 2) := by decide +kernel
theorem dL_law_19 : decode cL_law 19 = .ok (.astore_n 3, 1) := by decide +kernel
theorem dL_law_20 : decode cL_law 20 = .ok (.iconst 0, 1) := by decide +kernel
theorem dL_law_21 : decode cL_law 21 = .ok (.istore 4, 2) := by decide +kernel
theorem dL_law_23 : decode cL_law 23 = .ok (.iload 4, 2) := by decide +kernel
theorem dL_law_25 : decode cL_law 25 = .ok (.aload_n 0, 1) := by decide +kernel
theorem dL_law_26 : decode cL_law 26 = .ok (.arraylength, 1) := by decide +kernel
theorem dL_law_27 : decode cL_law 27 = .ok (.bipush 6, 2) := by decide +kernel
theorem dL_law_29 : decode cL_law 29 = .ok (.isub, 1) := by decide +kernel
theorem dL_law_30 : decode cL_law 30 = .ok (.if_icmp .gt 1381, 3) := by decide +kernel
theorem dL_law_33 : decode cL_law 33 = .ok (.aload_n 0, 1) := by decide +kernel
theorem dL_law_34 : decode cL_law 34 = .ok (.iload 4, 2) := by decide +kernel
theorem dL_law_36 : decode cL_law 36 = .ok (.iaload, 1) := by decide +kernel
theorem dL_law_37 : decode cL_law 37 = .ok (.bipush 63, 2) := by decide +kernel
theorem dL_law_39 : decode cL_law 39 = .ok (.iand, 1) := by decide +kernel
theorem dL_law_40 : decode cL_law 40 = .ok (.tableswitch 1365 0 45 #[200, 273, 298, 311, 324, 337, 350, 363, 388, 413, 451, 489, 527, 553, 591, 628, 653, 667, 692, 717, 742, 767, 792, 805, 818, 855, 868, 893, 918, 943, 968, 993, 1006, 1019, 1032, 1045, 1070, 1083, 1108, 1121, 1177, 1233, 1289, 1302, 1315, 1340], 200) := by decide +kernel
theorem dL_law_240 : decode cL_law 240 = .ok (.aload_n 1, 1) := by decide +kernel
theorem dL_law_241 : decode cL_law 241 = .ok (.aload_n 0, 1) := by decide +kernel
theorem dL_law_242 : decode cL_law 242 = .ok (.iload 4, 2) := by decide +kernel
theorem dL_law_244 : decode cL_law 244 = .ok (.iconst 1, 1) := by decide +kernel
theorem dL_law_245 : decode cL_law 245 = .ok (.iadd, 1) := by decide +kernel
theorem dL_law_246 : decode cL_law 246 = .ok (.iaload, 1) := by decide +kernel
theorem dL_law_247 : decode cL_law 247 = .ok (.aload_n 0, 1) := by decide +kernel
theorem dL_law_248 : decode cL_law 248 = .ok (.iload 4, 2) := by decide +kernel
theorem dL_law_250 : decode cL_law 250 = .ok (.iconst 2, 1) := by decide +kernel
theorem dL_law_251 : decode cL_law 251 = .ok (.iadd, 1) := by decide +kernel
theorem dL_law_252 : decode cL_law 252 = .ok (.iaload, 1) := by decide +kernel
theorem dL_law_253 : decode cL_law 253 = .ok (.aload_n 0, 1) := by decide +kernel
theorem dL_law_254 : decode cL_law 254 = .ok (.iload 4, 2) := by decide +kernel
theorem dL_law_256 : decode cL_law 256 = .ok (.iconst 3, 1) := by decide +kernel
theorem dL_law_257 : decode cL_law 257 = .ok (.iadd, 1) := by decide +kernel
theorem dL_law_258 : decode cL_law 258 = .ok (.iaload, 1) := by decide +kernel
theorem dL_law_259 : decode cL_law 259 = .ok (.aload_n 0, 1) := by decide +kernel
theorem dL_law_260 : decode cL_law 260 = .ok (.iload 4, 2) := by decide +kernel
theorem dL_law_262 : decode cL_law 262 = .ok (.iconst 4, 1) := by decide +kernel
theorem dL_law_263 : decode cL_law 263 = .ok (.iadd, 1) := by decide +kernel
theorem dL_law_264 : decode cL_law 264 = .ok (.iaload, 1) := by decide +kernel
theorem dL_law_265 : decode cL_law 265 = .ok (.aload_n 0, 1) := by decide +kernel
theorem dL_law_266 : decode cL_law 266 = .ok (.iload 4, 2) := by decide +kernel
theorem dL_law_268 : decode cL_law 268 = .ok (.iconst 5, 1) := by decide +kernel
theorem dL_law_269 : decode cL_law 269 = .ok (.iadd, 1) := by decide +kernel
theorem dL_law_270 : decode cL_law 270 = .ok (.iaload, 1) := by decide +kernel
theorem dL_law_271 : decode cL_law 271 = .ok (.invokevirtual 25, 3) := by decide +kernel
theorem dL_law_274 : decode cL_law 274 = .ok (.aload_n 2, 1) := by decide +kernel
theorem dL_law_275 : decode cL_law 275 = .ok (.aload_n 0, 1) := by decide +kernel
theorem dL_law_276 : decode cL_law 276 = .ok (.iload 4, 2) := by decide +kernel
theorem dL_law_278 : decode cL_law 278 = .ok (.iconst 1, 1) := by decide +kernel
theorem dL_law_279 : decode cL_law 279 = .ok (.iadd, 1) := by decide +kernel
theorem dL_law_280 : decode cL_law 280 = .ok (.iaload, 1) := by decide +kernel
theorem dL_law_281 : decode cL_law 281 = .ok (.aload_n 0, 1) := by decide +kernel
theorem dL_law_282 : decode cL_law 282 = .ok (.iload 4, 2) := by decide +kernel
theorem dL_law_284 : decode cL_law 284 = .ok (.iconst 2, 1) := by decide +kernel
theorem dL_law_285 : decode cL_law 285 = .ok (.iadd, 1) := by decide +kernel
theorem dL_law_286 : decode cL_law 286 = .ok (.iaload, 1) := by decide +kernel
theorem dL_law_287 : decode cL_law 287 = .ok (.aload_n 0, 1) := by decide +kernel
theorem dL_law_288 : decode cL_law 288 = .ok (.iload 4, 2) := by decide +kernel
theorem dL_law_290 : decode cL_law 290 = .ok (.iconst 3, 1) := by decide +kernel
theorem dL_law_291 : decode cL_law 291 = .ok (.iadd, 1) := by decide +kernel
theorem dL_law_292 : decode cL_law 292 = .ok (.iaload, 1) := by decide +kernel
theorem dL_law_293 : decode cL_law 293 = .ok (.aload_n 0, 1) := by decide +kernel
theorem dL_law_294 : decode cL_law 294 = .ok (.iload 4, 2) := by decide +kernel
theorem dL_law_296 : decode cL_law 296 = .ok (.iconst 4, 1) := by decide +kernel
theorem dL_law_297 : decode cL_law 297 = .ok (.iadd, 1) := by decide +kernel
theorem dL_law_298 : decode cL_law 298 = .ok (.iaload, 1) := by decide +kernel
theorem dL_law_299 : decode cL_law 299 = .ok (.aload_n 0, 1) := by decide +kernel
theorem dL_law_300 : decode cL_law 300 = .ok (.iload 4, 2) := by decide +kernel
theorem dL_law_302 : decode cL_law 302 = .ok (.iconst 5, 1) := by decide +kernel
theorem dL_law_303 : decode cL_law 303 = .ok (.iadd, 1) := by decide +kernel
theorem dL_law_304 : decode cL_law 304 = .ok (.iaload, 1) := by decide +kernel
theorem dL_law_305 : decode cL_law 305 = .ok (.invokevirtual 29, 3) := by decide +kernel
theorem dL_law_308 : decode cL_law 308 = .ok (.if_icmp .eq 1097, 3) := by decide +kernel
theorem dL_law_311 : decode cL_law 311 = .ok (.iconst 0, 1) := by decide +kernel
theorem dL_law_312 : decode cL_law 312 = .ok (.ireturn, 1) := by decide +kernel
theorem dL_law_313 : decode cL_law 313 = .ok (.aload_n 1, 1) := by decide +kernel
theorem dL_law_314 : decode cL_law 314 = .ok (.aload_n 0, 1) := by decide +kernel
theorem dL_law_315 : decode cL_law 315 = .ok (.iload 4, 2) := by decide +kernel
theorem dL_law_317 : decode cL_law 317 = .ok (.iconst 1, 1) := by decide +kernel
theorem dL_law_318 : decode cL_law 318 = .ok (.iadd, 1) := by decide +kernel
theorem dL_law_319 : decode cL_law 319 = .ok (.iaload, 1) := by decide +kernel
theorem dL_law_320 : decode cL_law 320 = .ok (.invokevirtual 30, 3) := by decide +kernel
theorem dL_law_323 : decode cL_law 323 = .ok (.aload_n 2, 1) := by decide +kernel
theorem dL_law_324 : decode cL_law 324 = .ok (.aload_n 0, 1) := by decide +kernel
theorem dL_law_325 : decode cL_law 325 = .ok (.iload 4, 2) := by decide +kernel
theorem dL_law_327 : decode cL_law 327 = .ok (.iconst 1, 1) := by decide +kernel
theorem dL_law_328 : decode cL_law 328 = .ok (.iadd, 1) := by decide +kernel
theorem dL_law_329 : decode cL_law 329 = .ok (.iaload, 1) := by decide +kernel
theorem dL_law_330 : decode cL_law 330 = .ok (.invokevirtual 33, 3) := by decide +kernel
theorem dL_law_333 : decode cL_law 333 = .ok (.if_icmp .eq 1072, 3) := by decide +kernel
theorem dL_law_336 : decode cL_law 336 = .ok (.iconst 0, 1) := by decide +kernel
theorem dL_law_337 : decode cL_law 337 = .ok (.ireturn, 1) := by decide +kernel
theorem dL_law_338 : decode cL_law 338 = .ok (.aload_n 1, 1) := by decide +kernel
theorem dL_law_339 : decode cL_law 339 = .ok (.invokevirtual 34, 3) := by decide +kernel
theorem dL_law_342 : decode cL_law 342 = .ok (.aload_n 2, 1) := by decide +kernel
theorem dL_law_343 : decode cL_law 343 = .ok (.invokevirtual 38, 3) := by decide +kernel
theorem dL_law_346 : decode cL_law 346 = .ok (.if_icmp .eq 1059, 3) := by decide +kernel
theorem dL_law_349 : decode cL_law 349 = .ok (.iconst 0, 1) := by decide +kernel
theorem dL_law_350 : decode cL_law 350 = .ok (.ireturn, 1) := by decide +kernel
theorem dL_law_351 : decode cL_law 351 = .ok (.aload_n 1, 1) := by decide +kernel
theorem dL_law_352 : decode cL_law 352 = .ok (.invokevirtual 39, 3) := by decide +kernel
theorem dL_law_355 : decode cL_law 355 = .ok (.aload_n 2, 1) := by decide +kernel
theorem dL_law_356 : decode cL_law 356 = .ok (.invokevirtual 42, 3) := by decide +kernel
theorem dL_law_359 : decode cL_law 359 = .ok (.if_icmp .eq 1046, 3) := by decide +kernel
