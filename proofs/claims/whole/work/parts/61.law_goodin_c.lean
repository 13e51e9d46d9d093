set_option maxRecDepth 20000 in
theorem ggL_law_X7_carrierOf : GoodIn wsL_law wsX7_carrierOf := goodIn_r _ [722, 370, 371, 372, 5, 373, 87, 367, 368, 369, 173, 174, 175, 180, 181, 182, 183, 184, 1235, 1236, 1237, 1238, 1239, 1240, 1241, 1242, 1243, 1244, 1245, 1246, 1247, 1248, 1249, 1250, 1251, 1252, 1253, 1254, 1255] (by decide +kernel) (by decide +kernel)
set_option maxRecDepth 20000 in
theorem gL_law_X7_carrierOf : GoodIn wsL_law (wsV RL 240 RX7 yX7_carrierOf wsX7_carrierOf) := goodIn_app (goodIn_of _ (by decide +kernel)) ggL_law_X7_carrierOf
set_option maxRecDepth 20000 in
theorem ggL_law_X6_walkerCount : GoodIn wsL_law wsX6_walkerCount := goodIn_r _ [726, 17, 727, 1223, 1224, 1225, 1226, 1227, 1228, 1229, 1230, 1231, 1232, 1233, 1234, 1256, 1257, 1258, 1259, 1260, 1261, 1262, 1263, 1264] (by decide +kernel) (by decide +kernel)
set_option maxRecDepth 20000 in
theorem gL_law_X6_walkerCount : GoodIn wsL_law (wsV RL 241 RX6 yX6_walkerCount wsX6_walkerCount) := goodIn_app (goodIn_of _ (by decide +kernel)) ggL_law_X6_walkerCount
set_option maxRecDepth 20000 in
theorem ggL_law_X7_walkerCount : GoodIn wsL_law wsX7_walkerCount := goodIn_r _ [731, 184, 87, 1235, 1236, 1237, 1238, 1239, 1240, 1241, 1242, 1243, 1244, 1245, 1246, 1247, 1248, 1249, 1250, 1251, 1252, 1253, 1254, 1255] (by decide +kernel) (by decide +kernel)
set_option maxRecDepth 20000 in
theorem gL_law_X7_walkerCount : GoodIn wsL_law (wsV RL 244 RX7 yX7_walkerCount wsX7_walkerCount) := goodIn_app (goodIn_of _ (by decide +kernel)) ggL_law_X7_walkerCount
set_option maxRecDepth 20000 in
theorem ggL_law_L_walkerRow : GoodIn wsL_law wsL_walkerRow := goodIn_ca (goodIn_r _ [734, 106, 735, 736, 737, 2, 738, 17, 739, 740, 741, 742, 743, 130, 131, 744, 464, 465, 16, 466, 50, 1223, 1224, 1225, 1226, 1227, 1228, 1229, 1230, 1231, 1232, 1233, 1234, 1256, 1257, 1258, 1259, 1260, 1261, 1262, 1263, 1264] (by decide +kernel) (by decide +kernel)) (goodIn_sub (fun _ h => List.mem_append_left _ (List.mem_append_left _ (List.mem_append_left _ (List.mem_append_left _ (List.mem_append_right _ h))))) (by decide +kernel))
set_option maxRecDepth 20000 in
theorem gL_law_L_walkerRow : GoodIn wsL_law (va_wsS RL 245 yL_walkerRow wsL_walkerRow) := goodIn_app (goodIn_of _ (by decide +kernel)) ggL_law_L_walkerRow
set_option maxRecDepth 20000 in
theorem ggL_law_X7_walkerRow : GoodIn wsL_law wsX7_walkerRow := goodIn_r _ [748, 492, 493, 494, 5, 495, 87, 173, 174, 175, 543, 544, 545, 546, 180, 181, 182, 183, 184, 500, 501, 502, 503, 1235, 1236, 1237, 1238, 1239, 1240, 1241, 1242, 1243, 1244, 1245, 1246, 1247, 1248, 1249, 1250, 1251, 1252, 1253, 1254, 1255] (by decide +kernel) (by decide +kernel)
set_option maxRecDepth 20000 in
theorem gL_law_X7_walkerRow : GoodIn wsL_law (wsV RL 247 RX7 yX7_walkerRow wsX7_walkerRow) := goodIn_app (goodIn_of _ (by decide +kernel)) ggL_law_X7_walkerRow
set_option maxRecDepth 20000 in
theorem ggL_law_L_walkerColumn : GoodIn wsL_law wsL_walkerColumn := goodIn_ca (goodIn_r _ [751, 106, 752, 753, 754, 2, 755, 17, 739, 740, 741, 742, 743, 130, 131, 744, 464, 465, 16, 466, 50, 1223, 1224, 1225, 1226, 1227, 1228, 1229, 1230, 1231, 1232, 1233, 1234, 1256, 1257, 1258, 1259, 1260, 1261, 1262, 1263, 1264] (by decide +kernel) (by decide +kernel)) (goodIn_sub (fun _ h => List.mem_append_left _ (List.mem_append_left _ (List.mem_append_left _ (List.mem_append_left _ (List.mem_append_right _ h))))) (by decide +kernel))
set_option maxRecDepth 20000 in
theorem gL_law_L_walkerColumn : GoodIn wsL_law (va_wsS RL 248 yL_walkerColumn wsL_walkerColumn) := goodIn_app (goodIn_of _ (by decide +kernel)) ggL_law_L_walkerColumn
set_option maxRecDepth 20000 in
theorem ggL_law_X7_walkerColumn : GoodIn wsL_law wsX7_walkerColumn := goodIn_r _ [759, 492, 493, 494, 5, 495, 87, 173, 174, 175, 543, 544, 545, 546, 180, 181, 182, 183, 184, 500, 501, 502, 503, 1235, 1236, 1237, 1238, 1239, 1240, 1241, 1242, 1243, 1244, 1245, 1246, 1247, 1248, 1249, 1250, 1251, 1252, 1253, 1254, 1255] (by decide +kernel) (by decide +kernel)
set_option maxRecDepth 20000 in
theorem gL_law_X7_walkerColumn : GoodIn wsL_law (wsV RL 250 RX7 yX7_walkerColumn wsX7_walkerColumn) := goodIn_app (goodIn_of _ (by decide +kernel)) ggL_law_X7_walkerColumn
set_option maxRecDepth 20000 in
theorem ggL_law_L_keysOf : GoodIn wsL_law wsL_keysOf := goodIn_ca (goodIn_r _ [762, 106, 763, 764, 765, 2, 766, 17, 740, 741, 742, 743, 130, 131, 744, 464, 465, 16, 466, 50, 616, 356, 357, 358, 46, 1223, 1224, 1225, 1226, 1227, 1228, 1229, 1230, 1231, 1232, 1233, 1234, 1256, 1257, 1258, 1259, 1260, 1261, 1262, 1263, 1264] (by decide +kernel) (by decide +kernel)) (goodIn_sub (fun _ h => List.mem_append_left _ (List.mem_append_left _ (List.mem_append_left _ (List.mem_append_left _ (List.mem_append_right _ h))))) (by decide +kernel))
set_option maxRecDepth 20000 in
theorem gL_law_L_keysOf : GoodIn wsL_law (va_wsS RL 251 yL_keysOf wsL_keysOf) := goodIn_app (goodIn_of _ (by decide +kernel)) ggL_law_L_keysOf
set_option maxRecDepth 20000 in
theorem ggL_law_X7_keysOf : GoodIn wsL_law wsX7_keysOf := goodIn_r _ [770, 492, 493, 494, 5, 495, 87, 173, 174, 175, 543, 544, 545, 546, 180, 181, 182, 183, 184, 374, 375, 376, 377, 1235, 1236, 1237, 1238, 1239, 1240, 1241, 1242, 1243, 1244, 1245, 1246, 1247, 1248, 1249, 1250, 1251, 1252, 1253, 1254, 1255] (by decide +kernel) (by decide +kernel)
set_option maxRecDepth 20000 in
theorem gL_law_X7_keysOf : GoodIn wsL_law (wsV RL 253 RX7 yX7_keysOf wsX7_keysOf) := goodIn_app (goodIn_of _ (by decide +kernel)) ggL_law_X7_keysOf
set_option maxRecDepth 20000 in
theorem ggL_law_L_pathLength : GoodIn wsL_law wsL_pathLength := goodIn_ca (goodIn_ca (goodIn_r _ [773, 106, 404, 774, 775, 776, 2, 777, 29, 17, 778, 740, 741, 742, 743, 130, 131, 744, 464, 465, 16, 466, 50, 531, 532, 533, 534, 124, 125, 779, 468, 469, 28, 470, 471, 69, 72, 71, 472, 54, 55, 56, 473, 474, 475, 476, 44, 477, 478, 479, 480, 481, 482, 483, 45, 46, 780, 781, 782, 138, 139, 1223, 1224, 1225, 1226, 1227, 1228, 1229, 1230, 1231, 1232, 1233, 1234, 1268, 1269, 1270, 1271, 1272, 1256, 1257, 1258, 1259, 1260, 1261, 1262, 1263, 1264] (by decide +kernel) (by decide +kernel)) (goodIn_sub (fun _ h => List.mem_append_left _ (List.mem_append_left _ (List.mem_append_left _ (List.mem_append_left _ (List.mem_append_right _ h))))) (by decide +kernel))) (goodIn_sub (fun _ h => List.mem_append_right _ h) (by decide +kernel))
set_option maxRecDepth 20000 in
theorem gL_law_L_pathLength : GoodIn wsL_law (va_wsS RL 254 yL_pathLength wsL_pathLength) := goodIn_app (goodIn_of _ (by decide +kernel)) ggL_law_L_pathLength
set_option maxRecDepth 20000 in
theorem ggL_law_X7_pathLength : GoodIn wsL_law wsX7_pathLength := goodIn_r _ [786, 787, 788, 789, 5, 790, 492, 493, 494, 495, 87, 173, 174, 175, 167, 168, 169, 170, 171, 172, 164, 165, 166, 496, 497, 498, 499, 95, 500, 501, 502, 503, 504, 505, 506, 507, 508, 509, 510, 511, 512, 513, 514, 515, 516, 517, 518, 176, 177, 178, 179, 99, 100, 101, 519, 520, 521, 522, 180, 181, 182, 183, 184, 1235, 1236, 1237, 1238, 1239, 1240, 1241, 1242, 1243, 1244, 1245, 1246, 1247, 1248, 1249, 1250, 1251, 1252, 1253, 1254, 1255] (by decide +kernel) (by decide +kernel)
set_option maxRecDepth 20000 in
theorem gL_law_X7_pathLength : GoodIn wsL_law (wsV RL 256 RX7 yX7_pathLength wsX7_pathLength) := goodIn_app (goodIn_of _ (by decide +kernel)) ggL_law_X7_pathLength
set_option maxRecDepth 20000 in
theorem ggL_law_L_pathLengthByRounds : GoodIn wsL_law wsL_pathLengthByRounds := goodIn_ca (goodIn_ca (goodIn_r _ [793, 106, 404, 794, 795, 796, 2, 797, 29, 17, 798, 740, 741, 742, 743, 130, 131, 744, 464, 465, 16, 466, 50, 531, 532, 533, 534, 124, 125, 799, 800, 801, 28, 802, 70, 471, 472, 54, 55, 56, 803, 804, 805, 806, 473, 474, 475, 476, 44, 477, 478, 479, 480, 481, 482, 483, 45, 46, 780, 781, 782, 138, 139, 1223, 1224, 1225, 1226, 1227, 1228, 1229, 1230, 1231, 1232, 1233, 1234, 1268, 1269, 1270, 1271, 1272, 1256, 1257, 1258, 1259, 1260, 1261, 1262, 1263, 1264] (by decide +kernel) (by decide +kernel)) (goodIn_sub (fun _ h => List.mem_append_left _ (List.mem_append_left _ (List.mem_append_left _ (List.mem_append_left _ (List.mem_append_right _ h))))) (by decide +kernel))) (goodIn_sub (fun _ h => List.mem_append_right _ h) (by decide +kernel))
set_option maxRecDepth 20000 in
theorem gL_law_L_pathLengthByRounds : GoodIn wsL_law (va_wsS RL 257 yL_pathLengthByRounds wsL_pathLengthByRounds) := goodIn_app (goodIn_of _ (by decide +kernel)) ggL_law_L_pathLengthByRounds
set_option maxRecDepth 20000 in
theorem ggL_law_X7_pathLengthByRounds : GoodIn wsL_law wsX7_pathLengthByRounds := goodIn_r _ [810, 787, 788, 789, 5, 790, 492, 493, 494, 495, 87, 173, 174, 175, 167, 168, 169, 170, 171, 172, 164, 165, 166, 496, 497, 498, 499, 95, 500, 501, 502, 503, 504, 505, 506, 507, 508, 509, 510, 511, 512, 513, 514, 515, 516, 517, 518, 176, 177, 178, 179, 99, 100, 101, 519, 520, 521, 522, 180, 181, 182, 183, 184, 1235, 1236, 1237, 1238, 1239, 1240, 1241, 1242, 1243, 1244, 1245, 1246, 1247, 1248, 1249, 1250, 1251, 1252, 1253, 1254, 1255] (by decide +kernel) (by decide +kernel)
set_option maxRecDepth 20000 in
theorem gL_law_X7_pathLengthByRounds : GoodIn wsL_law (wsV RL 259 RX7 yX7_pathLengthByRounds wsX7_pathLengthByRounds) := goodIn_app (goodIn_of _ (by decide +kernel)) ggL_law_X7_pathLengthByRounds
set_option maxRecDepth 20000 in
theorem ggL_law_L_firstStep : GoodIn wsL_law wsL_firstStep := goodIn_ca (goodIn_ca (goodIn_r _ [813, 106, 404, 814, 815, 816, 2, 817, 138, 139, 29, 17, 778, 818, 740, 741, 742, 743, 130, 131, 744, 464, 465, 16, 466, 50, 531, 532, 533, 534, 124, 125, 779, 468, 469, 28, 470, 471, 69, 72, 71, 472, 54, 55, 56, 473, 474, 475, 476, 44, 477, 478, 479, 480, 481, 482, 483, 45, 46, 780, 781, 782, 1223, 1224, 1225, 1226, 1227, 1228, 1229, 1230, 1231, 1232, 1233, 1234, 1268, 1269, 1270, 1271, 1272, 1256, 1257, 1258, 1259, 1260, 1261, 1262, 1263, 1264] (by decide +kernel) (by decide +kernel)) (goodIn_sub (fun _ h => List.mem_append_right _ h) (by decide +kernel))) (goodIn_sub (fun _ h => List.mem_append_left _ (List.mem_append_left _ (List.mem_append_left _ (List.mem_append_left _ (List.mem_append_right _ h))))) (by decide +kernel))
set_option maxRecDepth 20000 in
theorem gL_law_L_firstStep : GoodIn wsL_law (va_wsS RL 260 yL_firstStep wsL_firstStep) := goodIn_app (goodIn_of _ (by decide +kernel)) ggL_law_L_firstStep
set_option maxRecDepth 20000 in
theorem ggL_law_X7_firstStep : GoodIn wsL_law wsX7_firstStep := goodIn_r _ [822, 95, 164, 165, 5, 166, 167, 168, 169, 170, 171, 172, 173, 174, 175, 492, 493, 494, 495, 87, 496, 497, 498, 499, 500, 501, 502, 503, 504, 505, 506, 507, 508, 509, 510, 511, 512, 513, 514, 515, 516, 517, 518, 176, 177, 178, 179, 99, 100, 101, 519, 520, 521, 522, 180, 181, 182, 183, 184, 1235, 1236, 1237, 1238, 1239, 1240, 1241, 1242, 1243, 1244, 1245, 1246, 1247, 1248, 1249, 1250, 1251, 1252, 1253, 1254, 1255] (by decide +kernel) (by decide +kernel)
set_option maxRecDepth 20000 in
theorem gL_law_X7_firstStep : GoodIn wsL_law (wsV RL 262 RX7 yX7_firstStep wsX7_firstStep) := goodIn_app (goodIn_of _ (by decide +kernel)) ggL_law_X7_firstStep
set_option maxRecDepth 20000 in
theorem ggL_law_L_reachableCells : GoodIn wsL_law wsL_reachableCells := goodIn_ca (goodIn_r _ [825, 106, 826, 827, 828, 2, 829, 29, 17, 740, 741, 742, 743, 130, 131, 744, 464, 465, 16, 466, 50, 779, 468, 469, 28, 470, 471, 69, 72, 71, 472, 54, 55, 56, 473, 474, 475, 476, 44, 477, 478, 479, 480, 481, 482, 483, 45, 46, 830, 831, 832, 833, 1223, 1224, 1225, 1226, 1227, 1228, 1229, 1230, 1231, 1232, 1233, 1234, 1256, 1257, 1258, 1259, 1260, 1261, 1262, 1263, 1264, 1268, 1269, 1270, 1271, 1272] (by decide +kernel) (by decide +kernel)) (goodIn_sub (fun _ h => List.mem_append_left _ (List.mem_append_left _ (List.mem_append_left _ (List.mem_append_left _ (List.mem_append_right _ h))))) (by decide +kernel))
set_option maxRecDepth 20000 in
theorem gL_law_L_reachableCells : GoodIn wsL_law (va_wsS RL 263 yL_reachableCells wsL_reachableCells) := goodIn_app (goodIn_of _ (by decide +kernel)) ggL_law_L_reachableCells
set_option maxRecDepth 20000 in
theorem ggL_law_X7_reachableCells : GoodIn wsL_law wsX7_reachableCells := goodIn_r _ [837, 492, 493, 494, 5, 495, 87, 173, 174, 175, 543, 544, 545, 546, 180, 181, 182, 183, 184, 838, 839, 840, 841, 95, 500, 501, 502, 503, 504, 505, 506, 507, 508, 509, 510, 511, 512, 513, 514, 167, 168, 169, 170, 171, 172, 515, 516, 517, 518, 176, 177, 178, 179, 99, 100, 101, 519, 520, 521, 522, 1235, 1236, 1237, 1238, 1239, 1240, 1241, 1242, 1243, 1244, 1245, 1246, 1247, 1248, 1249, 1250, 1251, 1252, 1253, 1254, 1255] (by decide +kernel) (by decide +kernel)
set_option maxRecDepth 20000 in
theorem gL_law_X7_reachableCells : GoodIn wsL_law (wsV RL 265 RX7 yX7_reachableCells wsX7_reachableCells) := goodIn_app (goodIn_of _ (by decide +kernel)) ggL_law_X7_reachableCells
set_option maxRecDepth 20000 in
theorem ggL_law_L_nearestKey : GoodIn wsL_law wsL_nearestKey := goodIn_ca (goodIn_ca (goodIn_r _ [844, 106, 404, 845, 846, 847, 2, 848, 138, 139, 29, 17, 685, 778, 740, 741, 742, 743, 130, 131, 744, 464, 465, 16, 466, 50, 779, 468, 469, 28, 470, 471, 69, 72, 71, 472, 54, 55, 56, 473, 474, 475, 476, 44, 477, 478, 479, 480, 481, 482, 483, 45, 46, 690, 691, 692, 604, 413, 414, 1223, 1224, 1225, 1226, 1227, 1228, 1229, 1230, 1231, 1232, 1233, 1234, 1256, 1257, 1258, 1259, 1260, 1261, 1262, 1263, 1264, 1268, 1269, 1270, 1271, 1272] (by decide +kernel) (by decide +kernel)) (goodIn_sub (fun _ h => List.mem_append_right _ h) (by decide +kernel))) (goodIn_sub (fun _ h => List.mem_append_left _ (List.mem_append_left _ (List.mem_append_left _ (List.mem_append_left _ (List.mem_append_right _ h))))) (by decide +kernel))
set_option maxRecDepth 20000 in
theorem gL_law_L_nearestKey : GoodIn wsL_law (va_wsS RL 266 yL_nearestKey wsL_nearestKey) := goodIn_app (goodIn_of _ (by decide +kernel)) ggL_law_L_nearestKey
set_option maxRecDepth 20000 in
theorem ggL_law_X7_nearestKey : GoodIn wsL_law wsX7_nearestKey := goodIn_r _ [852, 87, 95, 492, 493, 494, 5, 495, 173, 174, 175, 500, 501, 502, 503, 504, 505, 506, 507, 508, 509, 510, 511, 512, 513, 514, 167, 168, 169, 170, 171, 172, 515, 516, 517, 518, 176, 177, 178, 179, 99, 100, 101, 519, 520, 521, 522, 180, 181, 182, 183, 184, 1235, 1236, 1237, 1238, 1239, 1240, 1241, 1242, 1243, 1244, 1245, 1246, 1247, 1248, 1249, 1250, 1251, 1252, 1253, 1254, 1255] (by decide +kernel) (by decide +kernel)
set_option maxRecDepth 20000 in
theorem gL_law_X7_nearestKey : GoodIn wsL_law (wsV RL 268 RX7 yX7_nearestKey wsX7_nearestKey) := goodIn_app (goodIn_of _ (by decide +kernel)) ggL_law_X7_nearestKey
set_option maxRecDepth 20000 in
theorem ggL_law_L_helpfulShifts : GoodIn wsL_law wsL_helpfulShifts := goodIn_ca (goodIn_r _ [855, 106, 856, 857, 858, 2, 859, 740, 741, 742, 743, 130, 131, 17, 744, 464, 465, 16, 466, 50, 531, 532, 533, 534, 124, 125, 860, 861, 862, 863, 19, 29, 778, 569, 283, 284, 285, 210, 211, 212, 213, 49, 112, 113, 114, 115, 44, 116, 117, 118, 119, 45, 46, 47, 51, 52, 864, 287, 288, 289, 290, 291, 292, 293, 48, 294, 295, 296, 297, 298, 299, 300, 779, 468, 469, 28, 470, 471, 69, 72, 71, 472, 54, 55, 56, 473, 474, 475, 476, 477, 478, 479, 480, 481, 482, 483, 1223, 1224, 1225, 1226, 1227, 1228, 1229, 1230, 1231, 1232, 1233, 1234, 1256, 1257, 1258, 1259, 1260, 1261, 1262, 1263, 1264, 1268, 1269, 1270, 1271, 1272] (by decide +kernel) (by decide +kernel)) (goodIn_sub (fun _ h => List.mem_append_left _ (List.mem_append_left _ (List.mem_append_left _ (List.mem_append_left _ (List.mem_append_right _ h))))) (by decide +kernel))
set_option maxRecDepth 20000 in
theorem gL_law_L_helpfulShifts : GoodIn wsL_law (va_wsS RL 269 yL_helpfulShifts wsL_helpfulShifts) := goodIn_app (goodIn_of _ (by decide +kernel)) ggL_law_L_helpfulShifts
set_option maxRecDepth 20000 in
theorem ggL_law_X7_helpfulShifts : GoodIn wsL_law wsX7_helpfulShifts := goodIn_r _ [868, 492, 493, 494, 5, 495, 87, 173, 174, 175, 167, 168, 169, 170, 171, 172, 543, 544, 545, 546, 180, 181, 182, 183, 184, 164, 165, 166, 869, 870, 871, 872, 89, 313, 314, 315, 316, 317, 318, 319, 176, 177, 178, 179, 99, 100, 101, 157, 158, 159, 320, 321, 322, 323, 94, 324, 325, 326, 496, 497, 498, 499, 95, 500, 501, 502, 503, 504, 505, 506, 507, 508, 509, 510, 511, 512, 513, 514, 515, 516, 517, 518, 519, 520, 521, 522, 1235, 1236, 1237, 1238, 1239, 1240, 1241, 1242, 1243, 1244, 1245, 1246, 1247, 1248, 1249, 1250, 1251, 1252, 1253, 1254, 1255] (by decide +kernel) (by decide +kernel)
set_option maxRecDepth 20000 in
theorem gL_law_X7_helpfulShifts : GoodIn wsL_law (wsV RL 271 RX7 yX7_helpfulShifts wsX7_helpfulShifts) := goodIn_app (goodIn_of _ (by decide +kernel)) ggL_law_X7_helpfulShifts
set_option maxRecDepth 20000 in
theorem ggL_law_X6_shiftCount : GoodIn wsL_law wsX6_shiftCount := goodIn_r _ [876, 17, 877, 1223, 1224, 1225, 1226, 1227, 1228, 1229, 1230, 1231, 1232, 1233, 1234, 1256, 1257, 1258, 1259, 1260, 1261, 1262, 1263, 1264] (by decide +kernel) (by decide +kernel)
set_option maxRecDepth 20000 in
theorem gL_law_X6_shiftCount : GoodIn wsL_law (wsV RL 272 RX6 yX6_shiftCount wsX6_shiftCount) := goodIn_app (goodIn_of _ (by decide +kernel)) ggL_law_X6_shiftCount
set_option maxRecDepth 20000 in
theorem ggL_law_X7_shiftCount : GoodIn wsL_law wsX7_shiftCount := goodIn_r _ [881, 184, 87, 1235, 1236, 1237, 1238, 1239, 1240, 1241, 1242, 1243, 1244, 1245, 1246, 1247, 1248, 1249, 1250, 1251, 1252, 1253, 1254, 1255] (by decide +kernel) (by decide +kernel)
set_option maxRecDepth 20000 in
theorem gL_law_X7_shiftCount : GoodIn wsL_law (wsV RL 275 RX7 yX7_shiftCount wsX7_shiftCount) := goodIn_app (goodIn_of _ (by decide +kernel)) ggL_law_X7_shiftCount
set_option maxRecDepth 20000 in
theorem ggL_law_X6_walkedTotal : GoodIn wsL_law wsX6_walkedTotal := goodIn_r _ [885, 17, 886, 1223, 1224, 1225, 1226, 1227, 1228, 1229, 1230, 1231, 1232, 1233, 1234, 1256, 1257, 1258, 1259, 1260, 1261, 1262, 1263, 1264] (by decide +kernel) (by decide +kernel)
set_option maxRecDepth 20000 in
theorem gL_law_X6_walkedTotal : GoodIn wsL_law (wsV RL 276 RX6 yX6_walkedTotal wsX6_walkedTotal) := goodIn_app (goodIn_of _ (by decide +kernel)) ggL_law_X6_walkedTotal
set_option maxRecDepth 20000 in
theorem ggL_law_X7_walkedTotal : GoodIn wsL_law wsX7_walkedTotal := goodIn_r _ [890, 184, 87, 1235, 1236, 1237, 1238, 1239, 1240, 1241, 1242, 1243, 1244, 1245, 1246, 1247, 1248, 1249, 1250, 1251, 1252, 1253, 1254, 1255] (by decide +kernel) (by decide +kernel)
set_option maxRecDepth 20000 in
theorem gL_law_X7_walkedTotal : GoodIn wsL_law (wsV RL 280 RX7 yX7_walkedTotal wsX7_walkedTotal) := goodIn_app (goodIn_of _ (by decide +kernel)) ggL_law_X7_walkedTotal
