set_option maxRecDepth 20000 in
theorem ggL_law_L_openings : GoodIn wsL_law wsL_openings := goodIn_ca (goodIn_r _ [525, 106, 526, 527, 528, 2, 529, 17, 530, 531, 532, 533, 130, 131, 534, 124, 125, 1223, 1224, 1225, 1226, 1227, 1228, 1229, 1230, 1231, 1232, 1233, 1234, 1256, 1257, 1258, 1259, 1260, 1261, 1262, 1263, 1264] (by decide +kernel) (by decide +kernel)) (goodIn_sub (fun _ h => List.mem_append_left _ (List.mem_append_left _ (List.mem_append_left _ (List.mem_append_left _ (List.mem_append_right _ h))))) (by decide +kernel))
set_option maxRecDepth 20000 in
theorem gL_law_L_openings : GoodIn wsL_law (va_wsS RL 198 yL_openings wsL_openings) := goodIn_app (goodIn_of _ (by decide +kernel)) ggL_law_L_openings
set_option maxRecDepth 20000 in
theorem ggL_law_X7_openings : GoodIn wsL_law wsX7_openings := goodIn_r _ [538, 539, 540, 541, 5, 542, 167, 168, 169, 170, 171, 172, 173, 174, 175, 543, 544, 545, 546, 180, 181, 182, 183, 184, 164, 165, 166, 176, 177, 178, 179, 87, 99, 100, 101, 1235, 1236, 1237, 1238, 1239, 1240, 1241, 1242, 1243, 1244, 1245, 1246, 1247, 1248, 1249, 1250, 1251, 1252, 1253, 1254, 1255] (by decide +kernel) (by decide +kernel)
set_option maxRecDepth 20000 in
theorem gL_law_X7_openings : GoodIn wsL_law (wsV RL 200 RX7 yX7_openings wsX7_openings) := goodIn_app (goodIn_of _ (by decide +kernel)) ggL_law_X7_openings
set_option maxRecDepth 20000 in
theorem ggL_law_L_isPinned : GoodIn wsL_law wsL_isPinned := goodIn_ca (goodIn_r _ [549, 106, 550, 551, 552, 2, 553, 17, 531, 532, 533, 130, 131, 534, 124, 125, 554, 211, 212, 16, 213, 49, 1223, 1224, 1225, 1226, 1227, 1228, 1229, 1230, 1231, 1232, 1233, 1234, 1256, 1257, 1258, 1259, 1260, 1261, 1262, 1263, 1264] (by decide +kernel) (by decide +kernel)) (goodIn_sub (fun _ h => List.mem_append_left _ (List.mem_append_left _ (List.mem_append_left _ (List.mem_append_left _ (List.mem_append_right _ h))))) (by decide +kernel))
set_option maxRecDepth 20000 in
theorem gL_law_L_isPinned : GoodIn wsL_law (va_wsS RL 201 yL_isPinned wsL_isPinned) := goodIn_app (goodIn_of _ (by decide +kernel)) ggL_law_L_isPinned
set_option maxRecDepth 20000 in
theorem ggL_law_X7_isPinned : GoodIn wsL_law wsX7_isPinned := goodIn_r _ [558, 539, 540, 541, 5, 542, 167, 168, 169, 170, 171, 172, 173, 174, 175, 543, 544, 545, 546, 180, 181, 182, 183, 184, 164, 165, 166, 176, 177, 178, 179, 87, 99, 100, 101, 1235, 1236, 1237, 1238, 1239, 1240, 1241, 1242, 1243, 1244, 1245, 1246, 1247, 1248, 1249, 1250, 1251, 1252, 1253, 1254, 1255] (by decide +kernel) (by decide +kernel)
set_option maxRecDepth 20000 in
theorem gL_law_X7_isPinned : GoodIn wsL_law (wsV RL 203 RX7 yX7_isPinned wsX7_isPinned) := goodIn_app (goodIn_of _ (by decide +kernel)) ggL_law_X7_isPinned
set_option maxRecDepth 20000 in
theorem ggL_law_L_canShiftRow : GoodIn wsL_law wsL_canShiftRow := goodIn_ca (goodIn_r _ [561, 106, 562, 563, 564, 2, 565, 17, 566, 567, 568, 130, 131, 534, 124, 125, 569, 283, 284, 16, 285, 210, 211, 212, 213, 49, 1223, 1224, 1225, 1226, 1227, 1228, 1229, 1230, 1231, 1232, 1233, 1234, 1256, 1257, 1258, 1259, 1260, 1261, 1262, 1263, 1264] (by decide +kernel) (by decide +kernel)) (goodIn_sub (fun _ h => List.mem_append_left _ (List.mem_append_left _ (List.mem_append_left _ (List.mem_append_left _ (List.mem_append_right _ h))))) (by decide +kernel))
set_option maxRecDepth 20000 in
theorem gL_law_L_canShiftRow : GoodIn wsL_law (va_wsS RL 204 yL_canShiftRow wsL_canShiftRow) := goodIn_app (goodIn_of _ (by decide +kernel)) ggL_law_L_canShiftRow
set_option maxRecDepth 20000 in
theorem ggL_law_X7_canShiftRow : GoodIn wsL_law wsX7_canShiftRow := goodIn_r _ [573, 170, 171, 5, 172, 173, 174, 175, 543, 544, 545, 546, 180, 181, 182, 183, 184, 313, 314, 315, 316, 317, 318, 319, 176, 177, 178, 179, 87, 99, 100, 101, 1235, 1236, 1237, 1238, 1239, 1240, 1241, 1242, 1243, 1244, 1245, 1246, 1247, 1248, 1249, 1250, 1251, 1252, 1253, 1254, 1255] (by decide +kernel) (by decide +kernel)
set_option maxRecDepth 20000 in
theorem gL_law_X7_canShiftRow : GoodIn wsL_law (wsV RL 207 RX7 yX7_canShiftRow wsX7_canShiftRow) := goodIn_app (goodIn_of _ (by decide +kernel)) ggL_law_X7_canShiftRow
set_option maxRecDepth 20000 in
theorem ggL_law_L_canShiftColumn : GoodIn wsL_law wsL_canShiftColumn := goodIn_ca (goodIn_r _ [576, 106, 577, 578, 579, 2, 580, 17, 566, 567, 568, 130, 131, 534, 124, 125, 569, 283, 284, 16, 285, 210, 211, 212, 213, 49, 1223, 1224, 1225, 1226, 1227, 1228, 1229, 1230, 1231, 1232, 1233, 1234, 1256, 1257, 1258, 1259, 1260, 1261, 1262, 1263, 1264] (by decide +kernel) (by decide +kernel)) (goodIn_sub (fun _ h => List.mem_append_left _ (List.mem_append_left _ (List.mem_append_left _ (List.mem_append_left _ (List.mem_append_right _ h))))) (by decide +kernel))
set_option maxRecDepth 20000 in
theorem gL_law_L_canShiftColumn : GoodIn wsL_law (va_wsS RL 208 yL_canShiftColumn wsL_canShiftColumn) := goodIn_app (goodIn_of _ (by decide +kernel)) ggL_law_L_canShiftColumn
set_option maxRecDepth 20000 in
theorem ggL_law_X7_canShiftColumn : GoodIn wsL_law wsX7_canShiftColumn := goodIn_r _ [584, 170, 171, 5, 172, 173, 174, 175, 543, 544, 545, 546, 180, 181, 182, 183, 184, 313, 314, 315, 316, 317, 318, 319, 176, 177, 178, 179, 87, 99, 100, 101, 1235, 1236, 1237, 1238, 1239, 1240, 1241, 1242, 1243, 1244, 1245, 1246, 1247, 1248, 1249, 1250, 1251, 1252, 1253, 1254, 1255] (by decide +kernel) (by decide +kernel)
set_option maxRecDepth 20000 in
theorem gL_law_X7_canShiftColumn : GoodIn wsL_law (wsV RL 210 RX7 yX7_canShiftColumn wsX7_canShiftColumn) := goodIn_app (goodIn_of _ (by decide +kernel)) ggL_law_X7_canShiftColumn
set_option maxRecDepth 20000 in
theorem ggL_law_L_hasLock : GoodIn wsL_law wsL_hasLock := goodIn_ca (goodIn_r _ [587, 106, 588, 589, 590, 2, 591, 17, 592, 531, 532, 533, 130, 131, 534, 124, 125, 1223, 1224, 1225, 1226, 1227, 1228, 1229, 1230, 1231, 1232, 1233, 1234, 1256, 1257, 1258, 1259, 1260, 1261, 1262, 1263, 1264] (by decide +kernel) (by decide +kernel)) (goodIn_sub (fun _ h => List.mem_append_left _ (List.mem_append_left _ (List.mem_append_left _ (List.mem_append_left _ (List.mem_append_right _ h))))) (by decide +kernel))
set_option maxRecDepth 20000 in
theorem gL_law_L_hasLock : GoodIn wsL_law (va_wsS RL 211 yL_hasLock wsL_hasLock) := goodIn_app (goodIn_of _ (by decide +kernel)) ggL_law_L_hasLock
set_option maxRecDepth 20000 in
theorem ggL_law_X7_hasLock : GoodIn wsL_law wsX7_hasLock := goodIn_r _ [596, 167, 168, 5, 169, 170, 171, 172, 173, 174, 175, 543, 544, 545, 546, 180, 181, 182, 183, 184, 164, 165, 166, 176, 177, 178, 179, 87, 99, 100, 101, 1235, 1236, 1237, 1238, 1239, 1240, 1241, 1242, 1243, 1244, 1245, 1246, 1247, 1248, 1249, 1250, 1251, 1252, 1253, 1254, 1255] (by decide +kernel) (by decide +kernel)
set_option maxRecDepth 20000 in
theorem gL_law_X7_hasLock : GoodIn wsL_law (wsV RL 213 RX7 yX7_hasLock wsX7_hasLock) := goodIn_app (goodIn_of _ (by decide +kernel)) ggL_law_X7_hasLock
set_option maxRecDepth 20000 in
theorem ggL_law_L_lockAt : GoodIn wsL_law wsL_lockAt := goodIn_ca (goodIn_ca (goodIn_r _ [599, 106, 404, 600, 601, 602, 2, 603, 138, 139, 17, 592, 531, 532, 533, 130, 131, 534, 124, 125, 604, 413, 414, 1223, 1224, 1225, 1226, 1227, 1228, 1229, 1230, 1231, 1232, 1233, 1234, 1256, 1257, 1258, 1259, 1260, 1261, 1262, 1263, 1264] (by decide +kernel) (by decide +kernel)) (goodIn_sub (fun _ h => List.mem_append_right _ h) (by decide +kernel))) (goodIn_sub (fun _ h => List.mem_append_left _ (List.mem_append_left _ (List.mem_append_left _ (List.mem_append_left _ (List.mem_append_right _ h))))) (by decide +kernel))
set_option maxRecDepth 20000 in
theorem gL_law_L_lockAt : GoodIn wsL_law (va_wsS RL 214 yL_lockAt wsL_lockAt) := goodIn_app (goodIn_of _ (by decide +kernel)) ggL_law_L_lockAt
set_option maxRecDepth 20000 in
theorem ggL_law_X7_lockAt : GoodIn wsL_law wsX7_lockAt := goodIn_r _ [608, 164, 165, 5, 166, 167, 168, 169, 170, 171, 172, 173, 174, 175, 176, 177, 178, 179, 87, 99, 100, 101, 180, 181, 182, 183, 184, 1235, 1236, 1237, 1238, 1239, 1240, 1241, 1242, 1243, 1244, 1245, 1246, 1247, 1248, 1249, 1250, 1251, 1252, 1253, 1254, 1255] (by decide +kernel) (by decide +kernel)
set_option maxRecDepth 20000 in
theorem gL_law_X7_lockAt : GoodIn wsL_law (wsV RL 216 RX7 yX7_lockAt wsX7_lockAt) := goodIn_app (goodIn_of _ (by decide +kernel)) ggL_law_X7_lockAt
set_option maxRecDepth 20000 in
theorem ggL_law_L_keysAt : GoodIn wsL_law wsL_keysAt := goodIn_ca (goodIn_r _ [611, 106, 612, 613, 614, 2, 615, 17, 531, 532, 533, 130, 131, 534, 124, 125, 616, 356, 357, 16, 358, 46, 1223, 1224, 1225, 1226, 1227, 1228, 1229, 1230, 1231, 1232, 1233, 1234, 1256, 1257, 1258, 1259, 1260, 1261, 1262, 1263, 1264] (by decide +kernel) (by decide +kernel)) (goodIn_sub (fun _ h => List.mem_append_left _ (List.mem_append_left _ (List.mem_append_left _ (List.mem_append_left _ (List.mem_append_right _ h))))) (by decide +kernel))
set_option maxRecDepth 20000 in
theorem gL_law_L_keysAt : GoodIn wsL_law (va_wsS RL 217 yL_keysAt wsL_keysAt) := goodIn_app (goodIn_of _ (by decide +kernel)) ggL_law_L_keysAt
set_option maxRecDepth 20000 in
theorem ggL_law_X7_keysAt : GoodIn wsL_law wsX7_keysAt := goodIn_r _ [620, 167, 168, 5, 169, 170, 171, 172, 173, 174, 175, 543, 544, 545, 546, 180, 181, 182, 183, 184, 164, 165, 166, 374, 375, 376, 377, 87, 1235, 1236, 1237, 1238, 1239, 1240, 1241, 1242, 1243, 1244, 1245, 1246, 1247, 1248, 1249, 1250, 1251, 1252, 1253, 1254, 1255] (by decide +kernel) (by decide +kernel)
set_option maxRecDepth 20000 in
theorem gL_law_X7_keysAt : GoodIn wsL_law (wsV RL 219 RX7 yX7_keysAt wsX7_keysAt) := goodIn_app (goodIn_of _ (by decide +kernel)) ggL_law_X7_keysAt
set_option maxRecDepth 20000 in
theorem ggL_law_L_isConnected : GoodIn wsL_law wsL_isConnected := goodIn_ca (goodIn_ca (goodIn_r _ [623, 106, 107, 624, 625, 626, 2, 627, 132, 133, 17, 531, 532, 533, 130, 131, 534, 124, 125, 628, 474, 475, 16, 476, 44, 477, 478, 479, 1223, 1224, 1225, 1226, 1227, 1228, 1229, 1230, 1231, 1232, 1233, 1234, 1256, 1257, 1258, 1259, 1260, 1261, 1262, 1263, 1264] (by decide +kernel) (by decide +kernel)) (goodIn_sub (fun _ h => List.mem_append_left _ (List.mem_append_left _ (List.mem_append_left _ (List.mem_append_right _ h)))) (by decide +kernel))) (goodIn_sub (fun _ h => List.mem_append_left _ (List.mem_append_left _ (List.mem_append_left _ (List.mem_append_left _ (List.mem_append_right _ h))))) (by decide +kernel))
set_option maxRecDepth 20000 in
theorem gL_law_L_isConnected : GoodIn wsL_law (va_wsS RL 220 yL_isConnected wsL_isConnected) := goodIn_app (goodIn_of _ (by decide +kernel)) ggL_law_L_isConnected
set_option maxRecDepth 20000 in
theorem ggL_law_X7_isConnected : GoodIn wsL_law wsX7_isConnected := goodIn_r _ [632, 167, 168, 5, 169, 170, 171, 172, 173, 174, 175, 180, 181, 182, 183, 184, 164, 165, 166, 515, 516, 517, 518, 512, 513, 514, 176, 177, 178, 179, 87, 99, 100, 101, 1235, 1236, 1237, 1238, 1239, 1240, 1241, 1242, 1243, 1244, 1245, 1246, 1247, 1248, 1249, 1250, 1251, 1252, 1253, 1254, 1255] (by decide +kernel) (by decide +kernel)
set_option maxRecDepth 20000 in
theorem gL_law_X7_isConnected : GoodIn wsL_law (wsV RL 222 RX7 yX7_isConnected wsX7_isConnected) := goodIn_app (goodIn_of _ (by decide +kernel)) ggL_law_X7_isConnected
set_option maxRecDepth 20000 in
theorem ggL_law_X6_regionCount : GoodIn wsL_law wsX6_regionCount := goodIn_r _ [636, 29, 17, 637, 638, 639, 28, 640, 73, 472, 54, 55, 56, 641, 642, 643, 644, 72, 473, 474, 475, 16, 476, 44, 477, 478, 479, 1223, 1224, 1225, 1226, 1227, 1228, 1229, 1230, 1231, 1232, 1233, 1234, 1268, 1269, 1270, 1271, 1272, 1256, 1257, 1258, 1259, 1260, 1261, 1262, 1263, 1264] (by decide +kernel) (by decide +kernel)
set_option maxRecDepth 20000 in
theorem gL_law_X6_regionCount : GoodIn wsL_law (wsV RL 223 RX6 yX6_regionCount wsX6_regionCount) := goodIn_app (goodIn_of _ (by decide +kernel)) ggL_law_X6_regionCount
set_option maxRecDepth 20000 in
theorem ggL_law_X7_regionCount : GoodIn wsL_law wsX7_regionCount := goodIn_r _ [648, 649, 650, 651, 5, 652, 184, 95, 653, 654, 655, 656, 657, 145, 146, 147, 515, 516, 517, 518, 512, 513, 514, 167, 168, 169, 170, 171, 172, 173, 174, 175, 176, 177, 178, 179, 87, 99, 100, 101, 1235, 1236, 1237, 1238, 1239, 1240, 1241, 1242, 1243, 1244, 1245, 1246, 1247, 1248, 1249, 1250, 1251, 1252, 1253, 1254, 1255] (by decide +kernel) (by decide +kernel)
set_option maxRecDepth 20000 in
theorem gL_law_X7_regionCount : GoodIn wsL_law (wsV RL 226 RX7 yX7_regionCount wsX7_regionCount) := goodIn_app (goodIn_of _ (by decide +kernel)) ggL_law_X7_regionCount
set_option maxRecDepth 20000 in
theorem ggL_law_X6_regionCountByMerging : GoodIn wsL_law wsX6_regionCountByMerging := goodIn_r _ [661, 29, 17, 662, 663, 664, 28, 665, 73, 473, 474, 475, 16, 476, 44, 477, 478, 479, 666, 667, 668, 669, 1223, 1224, 1225, 1226, 1227, 1228, 1229, 1230, 1231, 1232, 1233, 1234, 1268, 1269, 1270, 1271, 1272, 1256, 1257, 1258, 1259, 1260, 1261, 1262, 1263, 1264] (by decide +kernel) (by decide +kernel)
set_option maxRecDepth 20000 in
theorem gL_law_X6_regionCountByMerging : GoodIn wsL_law (wsV RL 227 RX6 yX6_regionCountByMerging wsX6_regionCountByMerging) := goodIn_app (goodIn_of _ (by decide +kernel)) ggL_law_X6_regionCountByMerging
set_option maxRecDepth 20000 in
theorem ggL_law_X7_regionCountByMerging : GoodIn wsL_law wsX7_regionCountByMerging := goodIn_r _ [673, 649, 650, 651, 5, 652, 184, 95, 653, 654, 655, 656, 657, 145, 146, 147, 515, 516, 517, 518, 512, 513, 514, 167, 168, 169, 170, 171, 172, 173, 174, 175, 176, 177, 178, 179, 87, 99, 100, 101, 1235, 1236, 1237, 1238, 1239, 1240, 1241, 1242, 1243, 1244, 1245, 1246, 1247, 1248, 1249, 1250, 1251, 1252, 1253, 1254, 1255] (by decide +kernel) (by decide +kernel)
set_option maxRecDepth 20000 in
theorem gL_law_X7_regionCountByMerging : GoodIn wsL_law (wsV RL 230 RX7 yX7_regionCountByMerging wsX7_regionCountByMerging) := goodIn_app (goodIn_of _ (by decide +kernel)) ggL_law_X7_regionCountByMerging
set_option maxRecDepth 20000 in
theorem ggL_law_L_keyRow : GoodIn wsL_law wsL_keyRow := goodIn_ca (goodIn_ca (goodIn_r _ [676, 107, 404, 677, 678, 679, 2, 680, 681, 682, 683, 684, 138, 139, 17, 685, 686, 687, 688, 132, 133, 689, 353, 354, 690, 691, 692, 1223, 1224, 1225, 1226, 1227, 1228, 1229, 1230, 1231, 1232, 1233, 1234, 1256, 1257, 1258, 1259, 1260, 1261, 1262, 1263, 1264] (by decide +kernel) (by decide +kernel)) (goodIn_sub (fun _ h => List.mem_append_right _ h) (by decide +kernel))) (goodIn_sub (fun _ h => List.mem_append_left _ (List.mem_append_left _ (List.mem_append_left _ (List.mem_append_right _ h)))) (by decide +kernel))
set_option maxRecDepth 20000 in
theorem gL_law_L_keyRow : GoodIn wsL_law (va_wsS RL 231 yL_keyRow wsL_keyRow) := goodIn_app (goodIn_of _ (by decide +kernel)) ggL_law_L_keyRow
set_option maxRecDepth 20000 in
theorem ggL_law_X7_keyRow : GoodIn wsL_law wsX7_keyRow := goodIn_r _ [696, 697, 698, 699, 5, 700, 370, 371, 372, 373, 87, 367, 368, 369, 173, 174, 175, 180, 181, 182, 183, 184, 1235, 1236, 1237, 1238, 1239, 1240, 1241, 1242, 1243, 1244, 1245, 1246, 1247, 1248, 1249, 1250, 1251, 1252, 1253, 1254, 1255] (by decide +kernel) (by decide +kernel)
set_option maxRecDepth 20000 in
theorem gL_law_X7_keyRow : GoodIn wsL_law (wsV RL 234 RX7 yX7_keyRow wsX7_keyRow) := goodIn_app (goodIn_of _ (by decide +kernel)) ggL_law_X7_keyRow
set_option maxRecDepth 20000 in
theorem ggL_law_L_keyColumn : GoodIn wsL_law wsL_keyColumn := goodIn_ca (goodIn_ca (goodIn_r _ [703, 107, 404, 704, 705, 706, 2, 707, 681, 682, 683, 684, 138, 139, 17, 685, 686, 687, 688, 132, 133, 689, 353, 354, 690, 691, 692, 1223, 1224, 1225, 1226, 1227, 1228, 1229, 1230, 1231, 1232, 1233, 1234, 1256, 1257, 1258, 1259, 1260, 1261, 1262, 1263, 1264] (by decide +kernel) (by decide +kernel)) (goodIn_sub (fun _ h => List.mem_append_right _ h) (by decide +kernel))) (goodIn_sub (fun _ h => List.mem_append_left _ (List.mem_append_left _ (List.mem_append_left _ (List.mem_append_right _ h)))) (by decide +kernel))
set_option maxRecDepth 20000 in
theorem gL_law_L_keyColumn : GoodIn wsL_law (va_wsS RL 235 yL_keyColumn wsL_keyColumn) := goodIn_app (goodIn_of _ (by decide +kernel)) ggL_law_L_keyColumn
set_option maxRecDepth 20000 in
theorem ggL_law_X7_keyColumn : GoodIn wsL_law wsX7_keyColumn := goodIn_r _ [711, 697, 698, 699, 5, 700, 370, 371, 372, 373, 87, 367, 368, 369, 173, 174, 175, 180, 181, 182, 183, 184, 1235, 1236, 1237, 1238, 1239, 1240, 1241, 1242, 1243, 1244, 1245, 1246, 1247, 1248, 1249, 1250, 1251, 1252, 1253, 1254, 1255] (by decide +kernel) (by decide +kernel)
set_option maxRecDepth 20000 in
theorem gL_law_X7_keyColumn : GoodIn wsL_law (wsV RL 237 RX7 yX7_keyColumn wsX7_keyColumn) := goodIn_app (goodIn_of _ (by decide +kernel)) ggL_law_X7_keyColumn
set_option maxRecDepth 20000 in
theorem ggL_law_L_carrierOf : GoodIn wsL_law wsL_carrierOf := goodIn_ca (goodIn_ca (goodIn_r _ [714, 107, 404, 715, 716, 717, 2, 718, 138, 139, 17, 685, 686, 687, 688, 132, 133, 689, 353, 354, 1223, 1224, 1225, 1226, 1227, 1228, 1229, 1230, 1231, 1232, 1233, 1234, 1256, 1257, 1258, 1259, 1260, 1261, 1262, 1263, 1264] (by decide +kernel) (by decide +kernel)) (goodIn_sub (fun _ h => List.mem_append_right _ h) (by decide +kernel))) (goodIn_sub (fun _ h => List.mem_append_left _ (List.mem_append_left _ (List.mem_append_left _ (List.mem_append_right _ h)))) (by decide +kernel))
set_option maxRecDepth 20000 in
theorem gL_law_L_carrierOf : GoodIn wsL_law (va_wsS RL 238 yL_carrierOf wsL_carrierOf) := goodIn_app (goodIn_of _ (by decide +kernel)) ggL_law_L_carrierOf
