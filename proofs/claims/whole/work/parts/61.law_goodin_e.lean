set_option maxRecDepth 20000 in
theorem ggL_law_wsX7_run_r1 : GoodIn wsL_law wsX7_run_r1 := goodIn_r _ [1060, 92, 184, 1061, 93, 88, 87, 1062, 1063, 1064, 5, 1065, 950, 1066, 1067, 1068, 1069, 1070, 1071, 98, 1072, 1073, 1074, 1075] (by decide +kernel) (by decide +kernel)
set_option maxRecDepth 20000 in
theorem ggL_law_wsX7_run_r2 : GoodIn wsL_law wsX7_run_r2 := goodIn_r _ [96, 1076, 969, 146, 970, 1077, 1078, 1079, 1080, 988, 989, 978, 990, 980, 991, 992, 993, 994, 985, 986, 995, 996, 997, 998] (by decide +kernel) (by decide +kernel)
set_option maxRecDepth 20000 in
theorem ggL_law_wsX7_run_r3 : GoodIn wsL_law wsX7_run_r3 := goodIn_r _ [999, 1000, 1001, 1002, 1003, 1004, 1005, 1006, 1007, 1008, 1009, 1010, 1011, 1012, 1013, 1014, 1015, 1016, 1017, 1018, 1019, 1020, 1021, 1022] (by decide +kernel) (by decide +kernel)
set_option maxRecDepth 20000 in
theorem ggL_law_wsX7_run_r4 : GoodIn wsL_law wsX7_run_r4 := goodIn_r _ [1023, 1081, 1082, 1083, 1084, 1085, 1086, 1087, 1088, 1089, 1090, 1091, 1092, 1093, 1094, 1095, 1096, 173, 174, 175, 1097, 1098, 1099, 1100] (by decide +kernel) (by decide +kernel)
set_option maxRecDepth 20000 in
theorem ggL_law_wsX7_run_r5 : GoodIn wsL_law wsX7_run_r5 := goodIn_r _ [1101, 1102, 1103, 1104, 1105, 1106, 1107, 1108, 1109, 1110, 1111, 1112, 153, 154, 155, 156, 157, 158, 159, 1113, 1114, 1115, 1116, 160] (by decide +kernel) (by decide +kernel)
set_option maxRecDepth 20000 in
theorem ggL_law_wsX7_run_r6 : GoodIn wsL_law wsX7_run_r6 := goodIn_r _ [161, 162, 163, 164, 165, 166, 167, 168, 169, 170, 171, 172, 176, 177, 178, 179, 99, 100, 101, 180, 181, 182, 183, 218] (by decide +kernel) (by decide +kernel)
set_option maxRecDepth 20000 in
theorem ggL_law_wsX7_run_r7 : GoodIn wsL_law wsX7_run_r7 := goodIn_r _ [219, 220, 221, 244, 245, 246, 247, 248, 249, 250, 251, 309, 310, 311, 312, 313, 314, 315, 316, 317, 318, 319, 320, 321] (by decide +kernel) (by decide +kernel)
set_option maxRecDepth 20000 in
theorem ggL_law_wsX7_run_r8 : GoodIn wsL_law wsX7_run_r8 := goodIn_r _ [322, 323, 94, 324, 325, 326, 363, 364, 365, 366, 367, 368, 369, 370, 371, 372, 373, 374, 375, 376, 377, 397, 398, 399] (by decide +kernel) (by decide +kernel)
set_option maxRecDepth 20000 in
theorem ggL_law_wsX7_run_r9 : GoodIn wsL_law wsX7_run_r9 := goodIn_r _ [400, 419, 420, 421, 422, 443, 444, 445, 446, 447, 448, 449, 450, 488, 489, 490, 491, 492, 493, 494, 495, 496, 497, 498] (by decide +kernel) (by decide +kernel)
set_option maxRecDepth 20000 in
theorem ggL_law_wsX7_run_r10 : GoodIn wsL_law wsX7_run_r10 := goodIn_r _ [499, 95, 500, 501, 502, 503, 504, 505, 506, 507, 508, 509, 510, 511, 512, 513, 514, 515, 516, 517, 518, 519, 520, 521] (by decide +kernel) (by decide +kernel)
set_option maxRecDepth 20000 in
theorem ggL_law_wsX7_run_r11 : GoodIn wsL_law wsX7_run_r11 := goodIn_r _ [522, 185, 186, 187, 188, 189, 190, 191, 192, 193, 91] (by decide +kernel) (by decide +kernel)
set_option maxRecDepth 20000 in
theorem ggL_law_wsX70 : GoodIn wsL_law wsX70 := goodIn_r _ [1235, 1236, 1237, 1238, 1239, 1240, 1241, 1242, 1243, 1244, 1245, 1246, 1247, 1248, 1249, 1250, 1251, 1252, 1253, 1254, 1255] (by decide +kernel) (by decide +kernel)
set_option maxRecDepth 20000 in
theorem ggL_law_X7_run : GoodIn wsL_law wsX7_run := goodIn_app (a := [_]) (goodIn_r _ [1059] (by decide +kernel) (by decide +kernel)) (goodIn_app (goodIn_app ggL_law_wsX7_run_r1 (goodIn_app ggL_law_wsX7_run_r2 (goodIn_app ggL_law_wsX7_run_r3 (goodIn_app ggL_law_wsX7_run_r4 (goodIn_app ggL_law_wsX7_run_r5 (goodIn_app ggL_law_wsX7_run_r6 (goodIn_app ggL_law_wsX7_run_r7 (goodIn_app ggL_law_wsX7_run_r8 (goodIn_app ggL_law_wsX7_run_r9 (goodIn_app ggL_law_wsX7_run_r10 ggL_law_wsX7_run_r11)))))))))) ggL_law_wsX70)
set_option maxRecDepth 20000 in
theorem gL_law_X7_run : GoodIn wsL_law (wsV RL 301 RX7 yX7_run wsX7_run) := goodIn_app (goodIn_of _ (by decide +kernel)) ggL_law_X7_run
set_option maxRecDepth 20000 in
theorem ggL_law_L_errorPosition : GoodIn wsL_law wsL_errorPosition := goodIn_ca (goodIn_r _ [1119, 404, 1120, 1121, 1122, 2, 1123, 138, 139, 34, 1223, 1224, 1225, 1226, 1227, 1228, 1229, 1230, 1231, 1232, 1233, 1234] (by decide +kernel) (by decide +kernel)) (goodIn_sub (fun _ h => List.mem_append_right _ h) (by decide +kernel))
set_option maxRecDepth 20000 in
theorem gL_law_L_errorPosition : GoodIn wsL_law (va_wsS RL 302 yL_errorPosition wsL_errorPosition) := goodIn_app (goodIn_of _ (by decide +kernel)) ggL_law_L_errorPosition
set_option maxRecDepth 20000 in
theorem ggL_law_X7_errorPosition : GoodIn wsL_law wsX7_errorPosition := goodIn_r _ [1127, 92, 543, 544, 545, 5, 546, 180, 181, 182, 183, 184, 1235, 1236, 1237, 1238, 1239, 1240, 1241, 1242, 1243, 1244, 1245, 1246, 1247, 1248, 1249, 1250, 1251, 1252, 1253, 1254, 1255] (by decide +kernel) (by decide +kernel)
set_option maxRecDepth 20000 in
theorem gL_law_X7_errorPosition : GoodIn wsL_law (wsV RL 304 RX7 yX7_errorPosition wsX7_errorPosition) := goodIn_app (goodIn_of _ (by decide +kernel)) ggL_law_X7_errorPosition
set_option maxRecDepth 20000 in
theorem ggL_law_L_failedCommand : GoodIn wsL_law wsL_failedCommand := goodIn_ca (goodIn_r _ [1130, 404, 1131, 1132, 1133, 2, 1134, 138, 139, 35, 1223, 1224, 1225, 1226, 1227, 1228, 1229, 1230, 1231, 1232, 1233, 1234] (by decide +kernel) (by decide +kernel)) (goodIn_sub (fun _ h => List.mem_append_right _ h) (by decide +kernel))
set_option maxRecDepth 20000 in
theorem gL_law_L_failedCommand : GoodIn wsL_law (va_wsS RL 305 yL_failedCommand wsL_failedCommand) := goodIn_app (goodIn_of _ (by decide +kernel)) ggL_law_L_failedCommand
set_option maxRecDepth 20000 in
theorem ggL_law_X7_failedCommand : GoodIn wsL_law wsX7_failedCommand := goodIn_r _ [1138, 93, 543, 544, 545, 5, 546, 180, 181, 182, 183, 184, 1235, 1236, 1237, 1238, 1239, 1240, 1241, 1242, 1243, 1244, 1245, 1246, 1247, 1248, 1249, 1250, 1251, 1252, 1253, 1254, 1255] (by decide +kernel) (by decide +kernel)
set_option maxRecDepth 20000 in
theorem gL_law_X7_failedCommand : GoodIn wsL_law (wsV RL 307 RX7 yX7_failedCommand wsX7_failedCommand) := goodIn_app (goodIn_of _ (by decide +kernel)) ggL_law_X7_failedCommand
set_option maxRecDepth 20000 in
theorem ggL_law_L_writeRow : GoodIn wsL_law wsL_writeRow := goodIn_ca (goodIn_r _ [1141, 106, 1142, 1143, 1144, 2, 1145, 38, 566, 567, 568, 130, 131, 534, 124, 125, 1146, 1147, 1148, 1149, 37, 1150, 1151, 1152, 1153, 17, 530, 592, 685, 554, 211, 212, 16, 213, 49, 604, 413, 414, 1154, 302, 303, 304, 50, 47, 1223, 1224, 1225, 1226, 1227, 1228, 1229, 1230, 1231, 1232, 1233, 1234, 1256, 1257, 1258, 1259, 1260, 1261, 1262, 1263, 1264] (by decide +kernel) (by decide +kernel)) (goodIn_sub (fun _ h => List.mem_append_left _ (List.mem_append_left _ (List.mem_append_left _ (List.mem_append_left _ (List.mem_append_right _ h))))) (by decide +kernel))
set_option maxRecDepth 20000 in
theorem gL_law_L_writeRow : GoodIn wsL_law (va_wsS RL 308 yL_writeRow wsL_writeRow) := goodIn_app (goodIn_of _ (by decide +kernel)) ggL_law_L_writeRow
set_option maxRecDepth 20000 in
theorem ggL_law_X7_writeRow : GoodIn wsL_law wsX7_writeRow := goodIn_r _ [1158, 1159, 170, 171, 5, 172, 173, 174, 175, 543, 544, 545, 546, 180, 181, 182, 183, 184, 1160, 1161, 1162, 1163, 97, 1164, 1165, 1166, 1167, 87, 176, 177, 178, 179, 99, 100, 101, 1168, 1169, 1170, 1171, 1235, 1236, 1237, 1238, 1239, 1240, 1241, 1242, 1243, 1244, 1245, 1246, 1247, 1248, 1249, 1250, 1251, 1252, 1253, 1254, 1255] (by decide +kernel) (by decide +kernel)
set_option maxRecDepth 20000 in
theorem gL_law_X7_writeRow : GoodIn wsL_law (wsV RL 310 RX7 yX7_writeRow wsX7_writeRow) := goodIn_app (goodIn_of _ (by decide +kernel)) ggL_law_X7_writeRow
set_option maxRecDepth 20000 in
theorem ggL_law_L_outputAt : GoodIn wsL_law wsL_outputAt := goodIn_ca (goodIn_r _ [1174, 106, 1175, 1176, 1177, 2, 1178, 130, 131, 38, 37, 1223, 1224, 1225, 1226, 1227, 1228, 1229, 1230, 1231, 1232, 1233, 1234] (by decide +kernel) (by decide +kernel)) (goodIn_sub (fun _ h => List.mem_append_left _ (List.mem_append_left _ (List.mem_append_left _ (List.mem_append_left _ (List.mem_append_right _ h))))) (by decide +kernel))
set_option maxRecDepth 20000 in
theorem gL_law_L_outputAt : GoodIn wsL_law (va_wsS RL 311 yL_outputAt wsL_outputAt) := goodIn_app (goodIn_of _ (by decide +kernel)) ggL_law_L_outputAt
set_option maxRecDepth 20000 in
theorem ggL_law_X7_outputAt : GoodIn wsL_law wsX7_outputAt := goodIn_r _ [1182, 1159, 97, 173, 174, 5, 175, 543, 544, 545, 546, 180, 181, 182, 183, 184, 1235, 1236, 1237, 1238, 1239, 1240, 1241, 1242, 1243, 1244, 1245, 1246, 1247, 1248, 1249, 1250, 1251, 1252, 1253, 1254, 1255] (by decide +kernel) (by decide +kernel)
set_option maxRecDepth 20000 in
theorem gL_law_X7_outputAt : GoodIn wsL_law (wsV RL 313 RX7 yX7_outputAt wsX7_outputAt) := goodIn_app (goodIn_of _ (by decide +kernel)) ggL_law_X7_outputAt
set_option maxRecDepth 20000 in
theorem ggL_law_L_undo : GoodIn wsL_law wsL_undo := goodIn_ca (goodIn_r _ [1185, 201, 1186, 1187, 1188, 2, 1189, 134, 135, 25, 1190, 17, 1191, 1192, 1193, 24, 1194, 63, 62, 64, 148, 113, 114, 16, 115, 44, 116, 117, 118, 119, 45, 46, 47, 49, 50, 51, 52, 1223, 1224, 1225, 1226, 1227, 1228, 1229, 1230, 1231, 1232, 1233, 1234, 1265, 1266, 1267, 1256, 1257, 1258, 1259, 1260, 1261, 1262, 1263, 1264] (by decide +kernel) (by decide +kernel)) (goodIn_sub (fun _ h => List.mem_append_left _ (List.mem_append_left _ (List.mem_append_right _ h))) (by decide +kernel))
set_option maxRecDepth 20000 in
theorem gL_law_L_undo : GoodIn wsL_law (va_wsS RL 314 yL_undo wsL_undo) := goodIn_app (goodIn_of _ (by decide +kernel)) ggL_law_L_undo
set_option maxRecDepth 20000 in
theorem ggL_law_X7_undo : GoodIn wsL_law wsX7_undo := goodIn_r _ [1198, 193, 91, 87, 543, 544, 545, 5, 546, 180, 181, 182, 183, 184, 157, 158, 159, 1235, 1236, 1237, 1238, 1239, 1240, 1241, 1242, 1243, 1244, 1245, 1246, 1247, 1248, 1249, 1250, 1251, 1252, 1253, 1254, 1255] (by decide +kernel) (by decide +kernel)
set_option maxRecDepth 20000 in
theorem gL_law_X7_undo : GoodIn wsL_law (wsV RL 316 RX7 yX7_undo wsX7_undo) := goodIn_app (goodIn_of _ (by decide +kernel)) ggL_law_X7_undo
set_option maxRecDepth 20000 in
theorem ggL_law_X6_save : GoodIn wsL_law wsX6_save := goodIn_r _ [1202, 20, 17, 21, 112, 113, 114, 16, 115, 44, 116, 117, 118, 119, 45, 46, 47, 49, 50, 51, 52, 1223, 1224, 1225, 1226, 1227, 1228, 1229, 1230, 1231, 1232, 1233, 1234, 1256, 1257, 1258, 1259, 1260, 1261, 1262, 1263, 1264] (by decide +kernel) (by decide +kernel)
set_option maxRecDepth 20000 in
theorem gL_law_X6_save : GoodIn wsL_law (wsV RL 317 RX6 yX6_save wsX6_save) := goodIn_app (goodIn_of _ (by decide +kernel)) ggL_law_X6_save
set_option maxRecDepth 20000 in
theorem ggL_law_X7_save : GoodIn wsL_law wsX7_save := goodIn_r _ [1206, 184, 87, 90, 1207, 157, 158, 5, 159, 1235, 1236, 1237, 1238, 1239, 1240, 1241, 1242, 1243, 1244, 1245, 1246, 1247, 1248, 1249, 1250, 1251, 1252, 1253, 1254, 1255] (by decide +kernel) (by decide +kernel)
set_option maxRecDepth 20000 in
theorem gL_law_X7_save : GoodIn wsL_law (wsV RL 320 RX7 yX7_save wsX7_save) := goodIn_app (goodIn_of _ (by decide +kernel)) ggL_law_X7_save
set_option maxRecDepth 20000 in
theorem ggL_law_L_restore : GoodIn wsL_law wsL_restore := goodIn_ca (goodIn_r _ [1210, 201, 1211, 1212, 1213, 2, 1214, 134, 135, 21, 17, 20, 25, 112, 113, 114, 16, 115, 44, 116, 117, 118, 119, 45, 46, 47, 49, 50, 51, 52, 1215, 1216, 1217, 24, 1218, 64, 1223, 1224, 1225, 1226, 1227, 1228, 1229, 1230, 1231, 1232, 1233, 1234, 1256, 1257, 1258, 1259, 1260, 1261, 1262, 1263, 1264, 1265, 1266, 1267] (by decide +kernel) (by decide +kernel)) (goodIn_sub (fun _ h => List.mem_append_left _ (List.mem_append_left _ (List.mem_append_right _ h))) (by decide +kernel))
set_option maxRecDepth 20000 in
theorem gL_law_L_restore : GoodIn wsL_law (va_wsS RL 321 yL_restore wsL_restore) := goodIn_app (goodIn_of _ (by decide +kernel)) ggL_law_L_restore
set_option maxRecDepth 20000 in
theorem ggL_law_X7_restore : GoodIn wsL_law wsX7_restore := goodIn_r _ [1222, 1207, 90, 87, 193, 543, 544, 545, 5, 546, 180, 181, 182, 183, 184, 157, 158, 159, 1235, 1236, 1237, 1238, 1239, 1240, 1241, 1242, 1243, 1244, 1245, 1246, 1247, 1248, 1249, 1250, 1251, 1252, 1253, 1254, 1255] (by decide +kernel) (by decide +kernel)
set_option maxRecDepth 20000 in
theorem gL_law_X7_restore : GoodIn wsL_law (wsV RL 324 RX7 yX7_restore wsX7_restore) := goodIn_app (goodIn_of _ (by decide +kernel)) ggL_law_X7_restore
