theorem dL_law_1022 : decode cL_law 1022 = .ok (.istore 16, 2) := by decide +kernel
theorem dL_law_1024 : decode cL_law 1024 = .ok (.goto 1531, 3) := by decide +kernel
theorem dL_law_1027 : decode cL_law 1027 = .ok (.iload 19, 2) := by decide +kernel
theorem dL_law_1029 : decode cL_law 1029 = .ok (.bipush 12, 2) := by decide +kernel
theorem dL_law_1031 : decode cL_law 1031 = .ok (.if_icmp .ne 166, 3) := by decide +kernel
theorem dL_law_1034 : decode cL_law 1034 = .ok (.iload 20, 2) := by decide +kernel
theorem dL_law_1036 : decode cL_law 1036 = .ok (.bipush 20, 2) := by decide +kernel
theorem dL_law_1038 : decode cL_law 1038 = .ok (.idiv, 1) := by decide +kernel
theorem dL_law_1039 : decode cL_law 1039 = .ok (.iconst 4, 1) := by decide +kernel
theorem dL_law_1040 : decode cL_law 1040 = .ok (.irem, 1) := by decide +kernel
theorem dL_law_1041 : decode cL_law 1041 = .ok (.ifCond .le 7, 3) := by decide +kernel
theorem dL_law_1044 : decode cL_law 1044 = .ok (.iconst 1, 1) := by decide +kernel
theorem dL_law_1045 : decode cL_law 1045 = .ok (.goto 4, 3) := by decide +kernel
theorem dL_law_1048 : decode cL_law 1048 = .ok (.iconst 0, 1) := by decide +kernel
theorem dL_law_1049 : decode cL_law 1049 = .ok (.istore 26, 2) := by decide +kernel
theorem dL_law_1051 : decode cL_law 1051 = .ok (.iconst 0, 1) := by decide +kernel
theorem dL_law_1052 : decode cL_law 1052 = .ok (.istore 27, 2) := by decide +kernel
theorem dL_law_1054 : decode cL_law 1054 = .ok (.iconst 0, 1) := by decide +kernel
theorem dL_law_1055 : decode cL_law 1055 = .ok (.istore 28, 2) := by decide +kernel
theorem dL_law_1057 : decode cL_law 1057 = .ok (.iload 28, 2) := by decide +kernel
theorem dL_law_1059 : decode cL_law 1059 = .ok (.aload_n 2, 1) := by decide +kernel
theorem dL_law_1060 : decode cL_law 1060 = .ok (.iconst 0, 1) := by decide +kernel
theorem dL_law_1061 : decode cL_law 1061 = .ok (.iaload, 1) := by decide +kernel
theorem dL_law_1062 : decode cL_law 1062 = .ok (.if_icmp .ge 80, 3) := by decide +kernel
theorem dL_law_1065 : decode cL_law 1065 = .ok (.iload 26, 2) := by decide +kernel
theorem dL_law_1067 : decode cL_law 1067 = .ok (.ifCond .eq 75, 3) := by decide +kernel
theorem dL_law_1070 : decode cL_law 1070 = .ok (.aload 8, 2) := by decide +kernel
theorem dL_law_1072 : decode cL_law 1072 = .ok (.iload 28, 2) := by decide +kernel
theorem dL_law_1074 : decode cL_law 1074 = .ok (.iaload, 1) := by decide +kernel
theorem dL_law_1075 : decode cL_law 1075 = .ok (.iload 22, 2) := by decide +kernel
theorem dL_law_1077 : decode cL_law 1077 = .ok (.iconst 1, 1) := by decide +kernel
theorem dL_law_1078 : decode cL_law 1078 = .ok (.iadd, 1) := by decide +kernel
theorem dL_law_1079 : decode cL_law 1079 = .ok (.if_icmp .eq 16, 3) := by decide +kernel
theorem dL_law_1082 : decode cL_law 1082 = .ok (.aload 8, 2) := by decide +kernel
theorem dL_law_1084 : decode cL_law 1084 = .ok (.iload 28, 2) := by decide +kernel
theorem dL_law_1086 : decode cL_law 1086 = .ok (.iaload, 1) := by decide +kernel
theorem dL_law_1087 : decode cL_law 1087 = .ok (.iload 22, 2) := by decide +kernel
theorem dL_law_1089 : decode cL_law 1089 = .ok (.bipush 102, 2) := by decide +kernel
theorem dL_law_1091 : decode cL_law 1091 = .ok (.iadd, 1) := by decide +kernel
theorem dL_law_1092 : decode cL_law 1092 = .ok (.if_icmp .ne 7, 3) := by decide +kernel
theorem dL_law_1095 : decode cL_law 1095 = .ok (.iconst 1, 1) := by decide +kernel
theorem dL_law_1096 : decode cL_law 1096 = .ok (.goto 4, 3) := by decide +kernel
theorem dL_law_1099 : decode cL_law 1099 = .ok (.iconst 0, 1) := by decide +kernel
theorem dL_law_1100 : decode cL_law 1100 = .ok (.istore 29, 2) := by decide +kernel
theorem dL_law_1102 : decode cL_law 1102 = .ok (.iload 27, 2) := by decide +kernel
theorem dL_law_1104 : decode cL_law 1104 = .ok (.iload 29, 2) := by decide +kernel
theorem dL_law_1106 : decode cL_law 1106 = .ok (.ifCond .eq 7, 3) := by decide +kernel
theorem dL_law_1109 : decode cL_law 1109 = .ok (.iconst 1, 1) := by decide +kernel
theorem dL_law_1110 : decode cL_law 1110 = .ok (.goto 4, 3) := by decide +kernel
theorem dL_law_1113 : decode cL_law 1113 = .ok (.iconst 0, 1) := by decide +kernel
theorem dL_law_1114 : decode cL_law 1114 = .ok (.iadd, 1) := by decide +kernel
theorem dL_law_1115 : decode cL_law 1115 = .ok (.istore 27, 2) := by decide +kernel
theorem dL_law_1117 : decode cL_law 1117 = .ok (.aload 8, 2) := by decide +kernel
theorem dL_law_1119 : decode cL_law 1119 = .ok (.iload 28, 2) := by decide +kernel
theorem dL_law_1121 : decode cL_law 1121 = .ok (.iload 29, 2) := by decide +kernel
theorem dL_law_1123 : decode cL_law 1123 = .ok (.ifCond .eq 7, 3) := by decide +kernel
theorem dL_law_1126 : decode cL_law 1126 = .ok (.iconst 0, 1) := by decide +kernel
theorem dL_law_1127 : decode cL_law 1127 = .ok (.goto 8, 3) := by decide +kernel
theorem dL_law_1130 : decode cL_law 1130 = .ok (.aload 8, 2) := by decide +kernel
theorem dL_law_1132 : decode cL_law 1132 = .ok (.iload 28, 2) := by decide +kernel
theorem dL_law_1134 : decode cL_law 1134 = .ok (.iaload, 1) := by decide +kernel
theorem dL_law_1135 : decode cL_law 1135 = .ok (.iastore, 1) := by decide +kernel
theorem dL_law_1136 : decode cL_law 1136 = .ok (.iinc 28 1, 3) := by decide +kernel
theorem dL_law_1139 : decode cL_law 1139 = .ok (.goto (-82), 3) := by decide +kernel
theorem dL_law_1142 : decode cL_law 1142 = .ok (.aload_n 2, 1) := by decide +kernel
theorem dL_law_1143 : decode cL_law 1143 = .ok (.bipush 6, 2) := by decide +kernel
theorem dL_law_1145 : decode cL_law 1145 = .ok (.iload 26, 2) := by decide +kernel
theorem dL_law_1147 : decode cL_law 1147 = .ok (.ifCond .eq 15, 3) := by decide +kernel
theorem dL_law_1150 : decode cL_law 1150 = .ok (.aload_n 2, 1) := by decide +kernel
theorem dL_law_1151 : decode cL_law 1151 = .ok (.bipush 6, 2) := by decide +kernel
theorem dL_law_1153 : decode cL_law 1153 = .ok (.iaload, 1) := by decide +kernel
theorem dL_law_1154 : decode cL_law 1154 = .ok (.iconst 1, 1) := by decide +kernel
theorem dL_law_1155 : decode cL_law 1155 = .ok (.iload 22, 2) := by decide +kernel
theorem dL_law_1157 : decode cL_law 1157 = .ok (.ishl, 1) := by decide +kernel
theorem dL_law_1158 : decode cL_law 1158 = .ok (.ior, 1) := by decide +kernel
theorem dL_law_1159 : decode cL_law 1159 = .ok (.goto 14, 3) := by decide +kernel
theorem dL_law_1162 : decode cL_law 1162 = .ok (.aload_n 2, 1) := by decide +kernel
theorem dL_law_1163 : decode cL_law 1163 = .ok (.bipush 6, 2) := by decide +kernel
theorem dL_law_1165 : decode cL_law 1165 = .ok (.iaload, 1) := by decide +kernel
theorem dL_law_1166 : decode cL_law 1166 = .ok (.iconst 1, 1) := by decide +kernel
theorem dL_law_1167 : decode cL_law 1167 = .ok (.iload 22, 2) := by decide +kernel
theorem dL_law_1169 : decode cL_law 1169 = .ok (.ishl, 1) := by decide +kernel
theorem dL_law_1170 : decode cL_law 1170 = .ok (.iconst (-1), 1) := by decide +kernel
theorem dL_law_1171 : decode cL_law 1171 = .ok (.ixor, 1) := by decide +kernel
theorem dL_law_1172 : decode cL_law 1172 = .ok (.iand, 1) := by decide +kernel
theorem dL_law_1173 : decode cL_law 1173 = .ok (.iastore, 1) := by decide +kernel
theorem dL_law_1174 : decode cL_law 1174 = .ok (.aload_n 1, 1) := by decide +kernel
theorem dL_law_1175 : decode cL_law 1175 = .ok (.iload 22, 2) := by decide +kernel
theorem dL_law_1177 : decode cL_law 1177 = .ok (.iload 26, 2) := by decide +kernel
theorem dL_law_1179 : decode cL_law 1179 = .ok (.invokevirtual 146, 3) := by decide +kernel
theorem dL_law_1182 : decode cL_law 1182 = .ok (.iload 27, 2) := by decide +kernel
theorem dL_law_1184 : decode cL_law 1184 = .ok (.if_icmp .ne 7, 3) := by decide +kernel
theorem dL_law_1187 : decode cL_law 1187 = .ok (.iconst 1, 1) := by decide +kernel
theorem dL_law_1188 : decode cL_law 1188 = .ok (.goto 4, 3) := by decide +kernel
theorem dL_law_1191 : decode cL_law 1191 = .ok (.iconst 0, 1) := by decide +kernel
theorem dL_law_1192 : decode cL_law 1192 = .ok (.istore 16, 2) := by decide +kernel
theorem dL_law_1194 : decode cL_law 1194 = .ok (.goto 1361, 3) := by decide +kernel
theorem dL_law_1197 : decode cL_law 1197 = .ok (.iload 19, 2) := by decide +kernel
theorem dL_law_1199 : decode cL_law 1199 = .ok (.bipush 18, 2) := by decide +kernel
theorem dL_law_1201 : decode cL_law 1201 = .ok (.if_icmp .ge 231, 3) := by decide +kernel
theorem dL_law_1204 : decode cL_law 1204 = .ok (.aload_n 2, 1) := by decide +kernel
theorem dL_law_1205 : decode cL_law 1205 = .ok (.iconst 0, 1) := by decide +kernel
theorem dL_law_1206 : decode cL_law 1206 = .ok (.iaload, 1) := by decide +kernel
theorem dL_law_1207 : decode cL_law 1207 = .ok (.ifCond .le 66, 3) := by decide +kernel
theorem dL_law_1210 : decode cL_law 1210 = .ok (.aload_n 2, 1) := by decide +kernel
theorem dL_law_1211 : decode cL_law 1211 = .ok (.aload 5, 2) := by decide +kernel
theorem dL_law_1213 : decode cL_law 1213 = .ok (.aload 6, 2) := by decide +kernel
theorem dL_law_1215 : decode cL_law 1215 = .ok (.iload 21, 2) := by decide +kernel
theorem dL_law_1217 : decode cL_law 1217 = .ok (.invokestatic 28, 3) := by decide +kernel
theorem dL_law_1220 : decode cL_law 1220 = .ok (.ifCond .eq 53, 3) := by decide +kernel
theorem dL_law_1223 : decode cL_law 1223 = .ok (.aload 5, 2) := by decide +kernel
theorem dL_law_1225 : decode cL_law 1225 = .ok (.iload 21, 2) := by decide +kernel
theorem dL_law_1227 : decode cL_law 1227 = .ok (.iaload, 1) := by decide +kernel
theorem dL_law_1228 : decode cL_law 1228 = .ok (.iconst 4, 1) := by decide +kernel
theorem dL_law_1229 : decode cL_law 1229 = .ok (.irem, 1) := by decide +kernel
theorem dL_law_1230 : decode cL_law 1230 = .ok (.ifCond .gt 19, 3) := by decide +kernel
theorem dL_law_1233 : decode cL_law 1233 = .ok (.aload 5, 2) := by decide +kernel
theorem dL_law_1235 : decode cL_law 1235 = .ok (.iload 21, 2) := by decide +kernel
theorem dL_law_1237 : decode cL_law 1237 = .ok (.iaload, 1) := by decide +kernel
theorem dL_law_1238 : decode cL_law 1238 = .ok (.iconst 4, 1) := by decide +kernel
theorem dL_law_1239 : decode cL_law 1239 = .ok (.idiv, 1) := by decide +kernel
theorem dL_law_1240 : decode cL_law 1240 = .ok (.iconst 4, 1) := by decide +kernel
theorem dL_law_1241 : decode cL_law 1241 = .ok (.irem, 1) := by decide +kernel
theorem dL_law_1242 : decode cL_law 1242 = .ok (.iload 22, 2) := by decide +kernel
theorem dL_law_1244 : decode cL_law 1244 = .ok (.iconst 3, 1) := by decide +kernel
theorem dL_law_1245 : decode cL_law 1245 = .ok (.idiv, 1) := by decide +kernel
theorem dL_law_1246 : decode cL_law 1246 = .ok (.if_icmp .ne 27, 3) := by decide +kernel
theorem dL_law_1249 : decode cL_law 1249 = .ok (.aload 8, 2) := by decide +kernel
theorem dL_law_1251 : decode cL_law 1251 = .ok (.iload 21, 2) := by decide +kernel
theorem dL_law_1253 : decode cL_law 1253 = .ok (.iaload, 1) := by decide +kernel
theorem dL_law_1254 : decode cL_law 1254 = .ok (.ifCond .ne 19, 3) := by decide +kernel
theorem dL_law_1257 : decode cL_law 1257 = .ok (.aload_n 2, 1) := by decide +kernel
theorem dL_law_1258 : decode cL_law 1258 = .ok (.bipush 6, 2) := by decide +kernel
theorem dL_law_1260 : decode cL_law 1260 = .ok (.iaload, 1) := by decide +kernel
theorem dL_law_1261 : decode cL_law 1261 = .ok (.iload 22, 2) := by decide +kernel
theorem dL_law_1263 : decode cL_law 1263 = .ok (.ishr, 1) := by decide +kernel
theorem dL_law_1264 : decode cL_law 1264 = .ok (.iconst 1, 1) := by decide +kernel
theorem dL_law_1265 : decode cL_law 1265 = .ok (.iand, 1) := by decide +kernel
theorem dL_law_1266 : decode cL_law 1266 = .ok (.ifCond .ne 7, 3) := by decide +kernel
theorem dL_law_1269 : decode cL_law 1269 = .ok (.iconst 1, 1) := by decide +kernel
theorem dL_law_1270 : decode cL_law 1270 = .ok (.goto 4, 3) := by decide +kernel
theorem dL_law_1273 : decode cL_law 1273 = .ok (.iconst 0, 1) := by decide +kernel
theorem dL_law_1274 : decode cL_law 1274 = .ok (.istore 26, 2) := by decide +kernel
theorem dL_law_1276 : decode cL_law 1276 = .ok (.iload 26, 2) := by decide +kernel
theorem dL_law_1278 : decode cL_law 1278 = .ok (.ifCond .eq 39, 3) := by decide +kernel
theorem dL_law_1281 : decode cL_law 1281 = .ok (.aload_n 2, 1) := by decide +kernel
theorem dL_law_1282 : decode cL_law 1282 = .ok (.aload 8, 2) := by decide +kernel
theorem dL_law_1284 : decode cL_law 1284 = .ok (.iload 22, 2) := by decide +kernel
theorem dL_law_1286 : decode cL_law 1286 = .ok (.invokestatic 16, 3) := by decide +kernel
theorem dL_law_1289 : decode cL_law 1289 = .ok (.aload 10, 2) := by decide +kernel
theorem dL_law_1291 : decode cL_law 1291 = .ok (.iload 22, 2) := by decide +kernel
theorem dL_law_1293 : decode cL_law 1293 = .ok (.iaload, 1) := by decide +kernel
theorem dL_law_1294 : decode cL_law 1294 = .ok (.if_icmp .ge 23, 3) := by decide +kernel
theorem dL_law_1297 : decode cL_law 1297 = .ok (.aload_n 2, 1) := by decide +kernel
theorem dL_law_1298 : decode cL_law 1298 = .ok (.aload 5, 2) := by decide +kernel
theorem dL_law_1300 : decode cL_law 1300 = .ok (.aload 8, 2) := by decide +kernel
theorem dL_law_1302 : decode cL_law 1302 = .ok (.aload 9, 2) := by decide +kernel
theorem dL_law_1304 : decode cL_law 1304 = .ok (.iload 22, 2) := by decide +kernel
theorem dL_law_1306 : decode cL_law 1306 = .ok (.iconst (-1), 1) := by decide +kernel
theorem dL_law_1307 : decode cL_law 1307 = .ok (.invokestatic 10, 3) := by decide +kernel
theorem dL_law_1310 : decode cL_law 1310 = .ok (.ifCond .ge 7, 3) := by decide +kernel
theorem dL_law_1313 : decode cL_law 1313 = .ok (.iconst 1, 1) := by decide +kernel
theorem dL_law_1314 : decode cL_law 1314 = .ok (.goto 4, 3) := by decide +kernel
theorem dL_law_1317 : decode cL_law 1317 = .ok (.iconst 0, 1) := by decide +kernel
theorem dL_law_1318 : decode cL_law 1318 = .ok (.istore 27, 2) := by decide +kernel
theorem dL_law_1320 : decode cL_law 1320 = .ok (.iload 27, 2) := by decide +kernel
theorem dL_law_1322 : decode cL_law 1322 = .ok (.ifCond .eq 26, 3) := by decide +kernel
theorem dL_law_1325 : decode cL_law 1325 = .ok (.aload_n 2, 1) := by decide +kernel
theorem dL_law_1326 : decode cL_law 1326 = .ok (.aload 7, 2) := by decide +kernel
theorem dL_law_1328 : decode cL_law 1328 = .ok (.aload 8, 2) := by decide +kernel
theorem dL_law_1330 : decode cL_law 1330 = .ok (.aload 11, 2) := by decide +kernel
theorem dL_law_1332 : decode cL_law 1332 = .ok (.aload 12, 2) := by decide +kernel
theorem dL_law_1334 : decode cL_law 1334 = .ok (.aload 14, 2) := by decide +kernel
theorem dL_law_1336 : decode cL_law 1336 = .ok (.aload 15, 2) := by decide +kernel
theorem dL_law_1338 : decode cL_law 1338 = .ok (.iload 21, 2) := by decide +kernel
theorem dL_law_1340 : decode cL_law 1340 = .ok (.iload 22, 2) := by decide +kernel
theorem dL_law_1342 : decode cL_law 1342 = .ok (.invokestatic 20, 3) := by decide +kernel
theorem dL_law_1345 : decode cL_law 1345 = .ok (.goto 33, 3) := by decide +kernel
theorem dL_law_1348 : decode cL_law 1348 = .ok (.iload 26, 2) := by decide +kernel
theorem dL_law_1350 : decode cL_law 1350 = .ok (.ifCond .eq 28, 3) := by decide +kernel
theorem dL_law_1353 : decode cL_law 1353 = .ok (.aload 8, 2) := by decide +kernel
theorem dL_law_1355 : decode cL_law 1355 = .ok (.iload 21, 2) := by decide +kernel
theorem dL_law_1357 : decode cL_law 1357 = .ok (.iload 22, 2) := by decide +kernel
theorem dL_law_1359 : decode cL_law 1359 = .ok (.bipush 102, 2) := by decide +kernel
theorem dL_law_1361 : decode cL_law 1361 = .ok (.iadd, 1) := by decide +kernel
theorem dL_law_1362 : decode cL_law 1362 = .ok (.iastore, 1) := by decide +kernel
theorem dL_law_1363 : decode cL_law 1363 = .ok (.aload 9, 2) := by decide +kernel
theorem dL_law_1365 : decode cL_law 1365 = .ok (.iload 21, 2) := by decide +kernel
theorem dL_law_1367 : decode cL_law 1367 = .ok (.aload_n 2, 1) := by decide +kernel
theorem dL_law_1368 : decode cL_law 1368 = .ok (.iconst 4, 1) := by decide +kernel
theorem dL_law_1369 : decode cL_law 1369 = .ok (.iaload, 1) := by decide +kernel
theorem dL_law_1370 : decode cL_law 1370 = .ok (.iastore, 1) := by decide +kernel
theorem dL_law_1371 : decode cL_law 1371 = .ok (.aload_n 2, 1) := by decide +kernel
theorem dL_law_1372 : decode cL_law 1372 = .ok (.iconst 4, 1) := by decide +kernel
theorem dL_law_1373 : decode cL_law 1373 = .ok (.dup2, 1) := by decide +kernel
theorem dL_law_1374 : decode cL_law 1374 = .ok (.iaload, 1) := by decide +kernel
theorem dL_law_1375 : decode cL_law 1375 = .ok (.iconst 1, 1) := by decide +kernel
theorem dL_law_1376 : decode cL_law 1376 = .ok (.iadd, 1) := by decide +kernel
theorem dL_law_1377 : decode cL_law 1377 = .ok (.iastore, 1) := by decide +kernel
theorem dL_law_1378 : decode cL_law 1378 = .ok (.aload_n 1, 1) := by decide +kernel
theorem dL_law_1379 : decode cL_law 1379 = .ok (.iconst 4, 1) := by decide +kernel
theorem dL_law_1380 : decode cL_law 1380 = .ok (.iload 21, 2) := by decide +kernel
theorem dL_law_1382 : decode cL_law 1382 = .ok (.iload 22, 2) := by decide +kernel
theorem dL_law_1384 : decode cL_law 1384 = .ok (.iconst 0, 1) := by decide +kernel
theorem dL_law_1385 : decode cL_law 1385 = .ok (.invokestatic 127, 3) := by decide +kernel
theorem dL_law_1388 : decode cL_law 1388 = .ok (.aload_n 2, 1) := by decide +kernel
theorem dL_law_1389 : decode cL_law 1389 = .ok (.iconst 0, 1) := by decide +kernel
theorem dL_law_1390 : decode cL_law 1390 = .ok (.iaload, 1) := by decide +kernel
theorem dL_law_1391 : decode cL_law 1391 = .ok (.ifCond .ne 8, 3) := by decide +kernel
theorem dL_law_1394 : decode cL_law 1394 = .ok (.bipush (-11), 2) := by decide +kernel
theorem dL_law_1396 : decode cL_law 1396 = .ok (.goto 23, 3) := by decide +kernel
theorem dL_law_1399 : decode cL_law 1399 = .ok (.iload 26, 2) := by decide +kernel
theorem dL_law_1401 : decode cL_law 1401 = .ok (.ifCond .ne 8, 3) := by decide +kernel
theorem dL_law_1404 : decode cL_law 1404 = .ok (.bipush (-13), 2) := by decide +kernel
theorem dL_law_1406 : decode cL_law 1406 = .ok (.goto 13, 3) := by decide +kernel
theorem dL_law_1409 : decode cL_law 1409 = .ok (.iload 27, 2) := by decide +kernel
theorem dL_law_1411 : decode cL_law 1411 = .ok (.ifCond .eq 7, 3) := by decide +kernel
theorem dL_law_1414 : decode cL_law 1414 = .ok (.iconst 1, 1) := by decide +kernel
theorem dL_law_1415 : decode cL_law 1415 = .ok (.goto 4, 3) := by decide +kernel
theorem dL_law_1418 : decode cL_law 1418 = .ok (.iconst 0, 1) := by decide +kernel
theorem dL_law_1419 : decode cL_law 1419 = .ok (.if_icmp .ne 7, 3) := by decide +kernel
theorem dL_law_1422 : decode cL_law 1422 = .ok (.iconst 1, 1) := by decide +kernel
theorem dL_law_1423 : decode cL_law 1423 = .ok (.goto 4, 3) := by decide +kernel
theorem dL_law_1426 : decode cL_law 1426 = .ok (.iconst 0, 1) := by decide +kernel
theorem dL_law_1427 : decode cL_law 1427 = .ok (.istore 16, 2) := by decide +kernel
theorem dL_law_1429 : decode cL_law 1429 = .ok (.goto 1126, 3) := by decide +kernel
theorem dL_law_1432 : decode cL_law 1432 = .ok (.iload 19, 2) := by decide +kernel
theorem dL_law_1434 : decode cL_law 1434 = .ok (.bipush 20, 2) := by decide +kernel
theorem dL_law_1436 : decode cL_law 1436 = .ok (.if_icmp .ge 175, 3) := by decide +kernel
theorem dL_law_1439 : decode cL_law 1439 = .ok (.iconst 0, 1) := by decide +kernel
theorem dL_law_1440 : decode cL_law 1440 = .ok (.istore 26, 2) := by decide +kernel
theorem dL_law_1442 : decode cL_law 1442 = .ok (.iload 26, 2) := by decide +kernel
theorem dL_law_1444 : decode cL_law 1444 = .ok (.aload_n 2, 1) := by decide +kernel
theorem dL_law_1445 : decode cL_law 1445 = .ok (.iconst 0, 1) := by decide +kernel
theorem dL_law_1446 : decode cL_law 1446 = .ok (.iaload, 1) := by decide +kernel
theorem dL_law_1447 : decode cL_law 1447 = .ok (.if_icmp .ge 34, 3) := by decide +kernel
theorem dL_law_1450 : decode cL_law 1450 = .ok (.aload 8, 2) := by decide +kernel
theorem dL_law_1452 : decode cL_law 1452 = .ok (.iload 21, 2) := by decide +kernel
theorem dL_law_1454 : decode cL_law 1454 = .ok (.iaload, 1) := by decide +kernel
theorem dL_law_1455 : decode cL_law 1455 = .ok (.ifCond .ne 26, 3) := by decide +kernel
theorem dL_law_1458 : decode cL_law 1458 = .ok (.iload 20, 2) := by decide +kernel
theorem dL_law_1460 : decode cL_law 1460 = .ok (.iconst 4, 1) := by decide +kernel
theorem dL_law_1461 : decode cL_law 1461 = .ok (.irem, 1) := by decide +kernel
theorem dL_law_1462 : decode cL_law 1462 = .ok (.ifCond .le 19, 3) := by decide +kernel
theorem dL_law_1465 : decode cL_law 1465 = .ok (.iload 21, 2) := by decide +kernel
theorem dL_law_1467 : decode cL_law 1467 = .ok (.iconst 1, 1) := by decide +kernel
theorem dL_law_1468 : decode cL_law 1468 = .ok (.iadd, 1) := by decide +kernel
theorem dL_law_1469 : decode cL_law 1469 = .ok (.aload_n 2, 1) := by decide +kernel
theorem dL_law_1470 : decode cL_law 1470 = .ok (.iconst 0, 1) := by decide +kernel
theorem dL_law_1471 : decode cL_law 1471 = .ok (.iaload, 1) := by decide +kernel
theorem dL_law_1472 : decode cL_law 1472 = .ok (.irem, 1) := by decide +kernel
theorem dL_law_1473 : decode cL_law 1473 = .ok (.istore 21, 2) := by decide +kernel
theorem dL_law_1475 : decode cL_law 1475 = .ok (.iinc 26 1, 3) := by decide +kernel
theorem dL_law_1478 : decode cL_law 1478 = .ok (.goto (-36), 3) := by decide +kernel
theorem dL_law_1481 : decode cL_law 1481 = .ok (.aload_n 2, 1) := by decide +kernel
theorem dL_law_1482 : decode cL_law 1482 = .ok (.iconst 0, 1) := by decide +kernel
theorem dL_law_1483 : decode cL_law 1483 = .ok (.iaload, 1) := by decide +kernel
theorem dL_law_1484 : decode cL_law 1484 = .ok (.ifCond .eq 11, 3) := by decide +kernel
theorem dL_law_1487 : decode cL_law 1487 = .ok (.aload 8, 2) := by decide +kernel
theorem dL_law_1489 : decode cL_law 1489 = .ok (.iload 21, 2) := by decide +kernel
theorem dL_law_1491 : decode cL_law 1491 = .ok (.iaload, 1) := by decide +kernel
theorem dL_law_1492 : decode cL_law 1492 = .ok (.ifCond .ne 7, 3) := by decide +kernel
theorem dL_law_1495 : decode cL_law 1495 = .ok (.iconst (-1), 1) := by decide +kernel
theorem dL_law_1496 : decode cL_law 1496 = .ok (.goto 33, 3) := by decide +kernel
theorem dL_law_1499 : decode cL_law 1499 = .ok (.aload 8, 2) := by decide +kernel
theorem dL_law_1501 : decode cL_law 1501 = .ok (.iload 21, 2) := by decide +kernel
theorem dL_law_1503 : decode cL_law 1503 = .ok (.iaload, 1) := by decide +kernel
theorem dL_law_1504 : decode cL_law 1504 = .ok (.bipush 100, 2) := by decide +kernel
theorem dL_law_1506 : decode cL_law 1506 = .ok (.if_icmp .le 13, 3) := by decide +kernel
theorem dL_law_1509 : decode cL_law 1509 = .ok (.aload 8, 2) := by decide +kernel
theorem dL_law_1511 : decode cL_law 1511 = .ok (.iload 21, 2) := by decide +kernel
theorem dL_law_1513 : decode cL_law 1513 = .ok (.iaload, 1) := by decide +kernel
theorem dL_law_1514 : decode cL_law 1514 = .ok (.iconst 2, 1) := by decide +kernel
theorem dL_law_1515 : decode cL_law 1515 = .ok (.isub, 1) := by decide +kernel
theorem dL_law_1516 : decode cL_law 1516 = .ok (.goto 10, 3) := by decide +kernel
theorem dL_law_1519 : decode cL_law 1519 = .ok (.aload 8, 2) := by decide +kernel
theorem dL_law_1521 : decode cL_law 1521 = .ok (.iload 21, 2) := by decide +kernel
theorem dL_law_1523 : decode cL_law 1523 = .ok (.iaload, 1) := by decide +kernel
theorem dL_law_1524 : decode cL_law 1524 = .ok (.iconst 1, 1) := by decide +kernel
theorem dL_law_1525 : decode cL_law 1525 = .ok (.isub, 1) := by decide +kernel
theorem dL_law_1526 : decode cL_law 1526 = .ok (.bipush 100, 2) := by decide +kernel
theorem dL_law_1528 : decode cL_law 1528 = .ok (.irem, 1) := by decide +kernel
theorem dL_law_1529 : decode cL_law 1529 = .ok (.istore 26, 2) := by decide +kernel
theorem dL_law_1531 : decode cL_law 1531 = .ok (.iload 26, 2) := by decide +kernel
theorem dL_law_1533 : decode cL_law 1533 = .ok (.ifCond .lt 33, 3) := by decide +kernel
theorem dL_law_1536 : decode cL_law 1536 = .ok (.aload 8, 2) := by decide +kernel
theorem dL_law_1538 : decode cL_law 1538 = .ok (.iload 21, 2) := by decide +kernel
theorem dL_law_1540 : decode cL_law 1540 = .ok (.iconst 0, 1) := by decide +kernel
theorem dL_law_1541 : decode cL_law 1541 = .ok (.iastore, 1) := by decide +kernel
theorem dL_law_1542 : decode cL_law 1542 = .ok (.aload_n 2, 1) := by decide +kernel
theorem dL_law_1543 : decode cL_law 1543 = .ok (.aload 5, 2) := by decide +kernel
theorem dL_law_1545 : decode cL_law 1545 = .ok (.aload 7, 2) := by decide +kernel
theorem dL_law_1547 : decode cL_law 1547 = .ok (.aload 8, 2) := by decide +kernel
theorem dL_law_1549 : decode cL_law 1549 = .ok (.aload 9, 2) := by decide +kernel
theorem dL_law_1551 : decode cL_law 1551 = .ok (.aload 10, 2) := by decide +kernel
theorem dL_law_1553 : decode cL_law 1553 = .ok (.aload 11, 2) := by decide +kernel
theorem dL_law_1555 : decode cL_law 1555 = .ok (.aload 12, 2) := by decide +kernel
theorem dL_law_1557 : decode cL_law 1557 = .ok (.aload 14, 2) := by decide +kernel
theorem dL_law_1559 : decode cL_law 1559 = .ok (.aload 15, 2) := by decide +kernel
theorem dL_law_1561 : decode cL_law 1561 = .ok (.iload 26, 2) := by decide +kernel
