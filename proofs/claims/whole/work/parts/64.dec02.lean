theorem dL_law_1003 : decode code 1003 = .ok (.invokevirtual 165, 3) := by decide +kernel
theorem dL_law_1006 : decode code 1006 = .ok (.istore 6, 2) := by decide +kernel
theorem dL_law_1008 : decode code 1008 = .ok (.aload_n 2, 1) := by decide +kernel
theorem dL_law_1009 : decode code 1009 = .ok (.invokevirtual 122, 3) := by decide +kernel
theorem dL_law_1012 : decode code 1012 = .ok (.iload 5, 2) := by decide +kernel
theorem dL_law_1014 : decode code 1014 = .ok (.if_icmp .eq 5, 3) := by decide +kernel
theorem dL_law_1019 : decode code 1019 = .ok (.iload 5, 2) := by decide +kernel
theorem dL_law_1021 : decode code 1021 = .ok (.ifCond .ne 15, 3) := by decide +kernel
theorem dL_law_1024 : decode code 1024 = .ok (.aload_n 3, 1) := by decide +kernel
theorem dL_law_1025 : decode code 1025 = .ok (.iconst 0, 1) := by decide +kernel
theorem dL_law_1026 : decode code 1026 = .ok (.laload, 1) := by decide +kernel
theorem dL_law_1027 : decode code 1027 = .ok (.iload 6, 2) := by decide +kernel
theorem dL_law_1029 : decode code 1029 = .ok (.i2l, 1) := by decide +kernel
theorem dL_law_1030 : decode code 1030 = .ok (.lcmp, 1) := by decide +kernel
theorem dL_law_1031 : decode code 1031 = .ok (.ifCond .eq 5, 3) := by decide +kernel
theorem dL_law_1036 : decode code 1036 = .ok (.goto 1211, 3) := by decide +kernel
theorem dL_law_1039 : decode code 1039 = .ok (.aload_n 1, 1) := by decide +kernel
theorem dL_law_1040 : decode code 1040 = .ok (.aload_n 0, 1) := by decide +kernel
theorem dL_law_1041 : decode code 1041 = .ok (.iload 4, 2) := by decide +kernel
theorem dL_law_1043 : decode code 1043 = .ok (.iconst 1, 1) := by decide +kernel
theorem dL_law_1044 : decode code 1044 = .ok (.iadd, 1) := by decide +kernel
theorem dL_law_1045 : decode code 1045 = .ok (.iaload, 1) := by decide +kernel
theorem dL_law_1046 : decode code 1046 = .ok (.aload_n 0, 1) := by decide +kernel
theorem dL_law_1047 : decode code 1047 = .ok (.iload 4, 2) := by decide +kernel
theorem dL_law_1049 : decode code 1049 = .ok (.iconst 2, 1) := by decide +kernel
theorem dL_law_1050 : decode code 1050 = .ok (.iadd, 1) := by decide +kernel
theorem dL_law_1051 : decode code 1051 = .ok (.iaload, 1) := by decide +kernel
theorem dL_law_1052 : decode code 1052 = .ok (.aload_n 0, 1) := by decide +kernel
theorem dL_law_1053 : decode code 1053 = .ok (.iload 4, 2) := by decide +kernel
theorem dL_law_1055 : decode code 1055 = .ok (.iconst 3, 1) := by decide +kernel
theorem dL_law_1056 : decode code 1056 = .ok (.iadd, 1) := by decide +kernel
theorem dL_law_1057 : decode code 1057 = .ok (.iaload, 1) := by decide +kernel
theorem dL_law_1058 : decode code 1058 = .ok (.aload_n 3, 1) := by decide +kernel
theorem dL_law_1059 : decode code 1059 = .ok (.invokestatic 166, 3) := by decide +kernel
theorem dL_law_1062 : decode code 1062 = .ok (.istore 5, 2) := by decide +kernel
theorem dL_law_1064 : decode code 1064 = .ok (.aload_n 2, 1) := by decide +kernel
theorem dL_law_1065 : decode code 1065 = .ok (.aload_n 0, 1) := by decide +kernel
theorem dL_law_1066 : decode code 1066 = .ok (.iload 4, 2) := by decide +kernel
theorem dL_law_1068 : decode code 1068 = .ok (.iconst 1, 1) := by decide +kernel
theorem dL_law_1069 : decode code 1069 = .ok (.iadd, 1) := by decide +kernel
theorem dL_law_1070 : decode code 1070 = .ok (.iaload, 1) := by decide +kernel
theorem dL_law_1071 : decode code 1071 = .ok (.aload_n 0, 1) := by decide +kernel
theorem dL_law_1072 : decode code 1072 = .ok (.iload 4, 2) := by decide +kernel
theorem dL_law_1074 : decode code 1074 = .ok (.iconst 2, 1) := by decide +kernel
theorem dL_law_1075 : decode code 1075 = .ok (.iadd, 1) := by decide +kernel
theorem dL_law_1076 : decode code 1076 = .ok (.iaload, 1) := by decide +kernel
theorem dL_law_1077 : decode code 1077 = .ok (.aload_n 0, 1) := by decide +kernel
theorem dL_law_1078 : decode code 1078 = .ok (.iload 4, 2) := by decide +kernel
theorem dL_law_1080 : decode code 1080 = .ok (.iconst 3, 1) := by decide +kernel
theorem dL_law_1081 : decode code 1081 = .ok (.iadd, 1) := by decide +kernel
theorem dL_law_1082 : decode code 1082 = .ok (.iaload, 1) := by decide +kernel
theorem dL_law_1083 : decode code 1083 = .ok (.invokevirtual 169, 3) := by decide +kernel
theorem dL_law_1086 : decode code 1086 = .ok (.istore 6, 2) := by decide +kernel
theorem dL_law_1088 : decode code 1088 = .ok (.aload_n 2, 1) := by decide +kernel
theorem dL_law_1089 : decode code 1089 = .ok (.invokevirtual 122, 3) := by decide +kernel
theorem dL_law_1092 : decode code 1092 = .ok (.iload 5, 2) := by decide +kernel
theorem dL_law_1094 : decode code 1094 = .ok (.if_icmp .eq 5, 3) := by decide +kernel
theorem dL_law_1099 : decode code 1099 = .ok (.iload 5, 2) := by decide +kernel
theorem dL_law_1101 : decode code 1101 = .ok (.ifCond .ne 15, 3) := by decide +kernel
theorem dL_law_1104 : decode code 1104 = .ok (.aload_n 3, 1) := by decide +kernel
theorem dL_law_1105 : decode code 1105 = .ok (.iconst 0, 1) := by decide +kernel
theorem dL_law_1106 : decode code 1106 = .ok (.laload, 1) := by decide +kernel
theorem dL_law_1107 : decode code 1107 = .ok (.iload 6, 2) := by decide +kernel
theorem dL_law_1109 : decode code 1109 = .ok (.i2l, 1) := by decide +kernel
theorem dL_law_1110 : decode code 1110 = .ok (.lcmp, 1) := by decide +kernel
theorem dL_law_1111 : decode code 1111 = .ok (.ifCond .eq 5, 3) := by decide +kernel
theorem dL_law_1116 : decode code 1116 = .ok (.goto 1131, 3) := by decide +kernel
theorem dL_law_1119 : decode code 1119 = .ok (.aload_n 1, 1) := by decide +kernel
theorem dL_law_1120 : decode code 1120 = .ok (.aload_n 0, 1) := by decide +kernel
theorem dL_law_1121 : decode code 1121 = .ok (.iload 4, 2) := by decide +kernel
theorem dL_law_1123 : decode code 1123 = .ok (.iconst 1, 1) := by decide +kernel
theorem dL_law_1124 : decode code 1124 = .ok (.iadd, 1) := by decide +kernel
theorem dL_law_1125 : decode code 1125 = .ok (.iaload, 1) := by decide +kernel
theorem dL_law_1126 : decode code 1126 = .ok (.aload_n 3, 1) := by decide +kernel
theorem dL_law_1127 : decode code 1127 = .ok (.invokestatic 170, 3) := by decide +kernel
theorem dL_law_1130 : decode code 1130 = .ok (.istore 5, 2) := by decide +kernel
theorem dL_law_1132 : decode code 1132 = .ok (.aload_n 2, 1) := by decide +kernel
theorem dL_law_1133 : decode code 1133 = .ok (.aload_n 0, 1) := by decide +kernel
theorem dL_law_1134 : decode code 1134 = .ok (.iload 4, 2) := by decide +kernel
theorem dL_law_1136 : decode code 1136 = .ok (.iconst 1, 1) := by decide +kernel
theorem dL_law_1137 : decode code 1137 = .ok (.iadd, 1) := by decide +kernel
theorem dL_law_1138 : decode code 1138 = .ok (.iaload, 1) := by decide +kernel
theorem dL_law_1139 : decode code 1139 = .ok (.invokevirtual 172, 3) := by decide +kernel
theorem dL_law_1142 : decode code 1142 = .ok (.istore 6, 2) := by decide +kernel
theorem dL_law_1144 : decode code 1144 = .ok (.aload_n 2, 1) := by decide +kernel
theorem dL_law_1145 : decode code 1145 = .ok (.invokevirtual 122, 3) := by decide +kernel
theorem dL_law_1148 : decode code 1148 = .ok (.iload 5, 2) := by decide +kernel
theorem dL_law_1150 : decode code 1150 = .ok (.if_icmp .eq 5, 3) := by decide +kernel
theorem dL_law_1155 : decode code 1155 = .ok (.iload 5, 2) := by decide +kernel
theorem dL_law_1157 : decode code 1157 = .ok (.ifCond .ne 15, 3) := by decide +kernel
theorem dL_law_1160 : decode code 1160 = .ok (.aload_n 3, 1) := by decide +kernel
theorem dL_law_1161 : decode code 1161 = .ok (.iconst 0, 1) := by decide +kernel
theorem dL_law_1162 : decode code 1162 = .ok (.laload, 1) := by decide +kernel
theorem dL_law_1163 : decode code 1163 = .ok (.iload 6, 2) := by decide +kernel
theorem dL_law_1165 : decode code 1165 = .ok (.i2l, 1) := by decide +kernel
theorem dL_law_1166 : decode code 1166 = .ok (.lcmp, 1) := by decide +kernel
theorem dL_law_1167 : decode code 1167 = .ok (.ifCond .eq 5, 3) := by decide +kernel
theorem dL_law_1172 : decode code 1172 = .ok (.goto 1075, 3) := by decide +kernel
theorem dL_law_1175 : decode code 1175 = .ok (.aload_n 1, 1) := by decide +kernel
theorem dL_law_1176 : decode code 1176 = .ok (.aload_n 0, 1) := by decide +kernel
theorem dL_law_1177 : decode code 1177 = .ok (.iload 4, 2) := by decide +kernel
theorem dL_law_1179 : decode code 1179 = .ok (.iconst 1, 1) := by decide +kernel
theorem dL_law_1180 : decode code 1180 = .ok (.iadd, 1) := by decide +kernel
theorem dL_law_1181 : decode code 1181 = .ok (.iaload, 1) := by decide +kernel
theorem dL_law_1182 : decode code 1182 = .ok (.aload_n 0, 1) := by decide +kernel
theorem dL_law_1183 : decode code 1183 = .ok (.iload 4, 2) := by decide +kernel
theorem dL_law_1185 : decode code 1185 = .ok (.iconst 2, 1) := by decide +kernel
theorem dL_law_1186 : decode code 1186 = .ok (.iadd, 1) := by decide +kernel
theorem dL_law_1187 : decode code 1187 = .ok (.iaload, 1) := by decide +kernel
theorem dL_law_1188 : decode code 1188 = .ok (.ifCond .eq 7, 3) := by decide +kernel
theorem dL_law_1191 : decode code 1191 = .ok (.iconst 1, 1) := by decide +kernel
theorem dL_law_1192 : decode code 1192 = .ok (.goto 4, 3) := by decide +kernel
theorem dL_law_1195 : decode code 1195 = .ok (.iconst 0, 1) := by decide +kernel
theorem dL_law_1196 : decode code 1196 = .ok (.aload_n 3, 1) := by decide +kernel
theorem dL_law_1197 : decode code 1197 = .ok (.invokestatic 173, 3) := by decide +kernel
theorem dL_law_1200 : decode code 1200 = .ok (.istore 5, 2) := by decide +kernel
theorem dL_law_1202 : decode code 1202 = .ok (.aload_n 2, 1) := by decide +kernel
theorem dL_law_1203 : decode code 1203 = .ok (.aload_n 0, 1) := by decide +kernel
theorem dL_law_1204 : decode code 1204 = .ok (.iload 4, 2) := by decide +kernel
theorem dL_law_1206 : decode code 1206 = .ok (.iconst 1, 1) := by decide +kernel
theorem dL_law_1207 : decode code 1207 = .ok (.iadd, 1) := by decide +kernel
theorem dL_law_1208 : decode code 1208 = .ok (.iaload, 1) := by decide +kernel
theorem dL_law_1209 : decode code 1209 = .ok (.aload_n 0, 1) := by decide +kernel
theorem dL_law_1210 : decode code 1210 = .ok (.iload 4, 2) := by decide +kernel
theorem dL_law_1212 : decode code 1212 = .ok (.iconst 2, 1) := by decide +kernel
theorem dL_law_1213 : decode code 1213 = .ok (.iadd, 1) := by decide +kernel
theorem dL_law_1214 : decode code 1214 = .ok (.iaload, 1) := by decide +kernel
theorem dL_law_1215 : decode code 1215 = .ok (.ifCond .eq 7, 3) := by decide +kernel
theorem dL_law_1218 : decode code 1218 = .ok (.iconst 1, 1) := by decide +kernel
theorem dL_law_1219 : decode code 1219 = .ok (.goto 4, 3) := by decide +kernel
theorem dL_law_1222 : decode code 1222 = .ok (.iconst 0, 1) := by decide +kernel
theorem dL_law_1223 : decode code 1223 = .ok (.invokevirtual 176, 3) := by decide +kernel
theorem dL_law_1226 : decode code 1226 = .ok (.istore 6, 2) := by decide +kernel
theorem dL_law_1228 : decode code 1228 = .ok (.aload_n 2, 1) := by decide +kernel
theorem dL_law_1229 : decode code 1229 = .ok (.invokevirtual 122, 3) := by decide +kernel
theorem dL_law_1232 : decode code 1232 = .ok (.iload 5, 2) := by decide +kernel
theorem dL_law_1234 : decode code 1234 = .ok (.if_icmp .eq 5, 3) := by decide +kernel
theorem dL_law_1239 : decode code 1239 = .ok (.iload 5, 2) := by decide +kernel
theorem dL_law_1241 : decode code 1241 = .ok (.ifCond .ne 15, 3) := by decide +kernel
theorem dL_law_1244 : decode code 1244 = .ok (.aload_n 3, 1) := by decide +kernel
theorem dL_law_1245 : decode code 1245 = .ok (.iconst 0, 1) := by decide +kernel
theorem dL_law_1246 : decode code 1246 = .ok (.laload, 1) := by decide +kernel
theorem dL_law_1247 : decode code 1247 = .ok (.iload 6, 2) := by decide +kernel
theorem dL_law_1249 : decode code 1249 = .ok (.i2l, 1) := by decide +kernel
theorem dL_law_1250 : decode code 1250 = .ok (.lcmp, 1) := by decide +kernel
theorem dL_law_1251 : decode code 1251 = .ok (.ifCond .eq 5, 3) := by decide +kernel
theorem dL_law_1256 : decode code 1256 = .ok (.goto 991, 3) := by decide +kernel
theorem dL_law_1259 : decode code 1259 = .ok (.aload_n 1, 1) := by decide +kernel
theorem dL_law_1260 : decode code 1260 = .ok (.aload_n 0, 1) := by decide +kernel
theorem dL_law_1261 : decode code 1261 = .ok (.iload 4, 2) := by decide +kernel
theorem dL_law_1263 : decode code 1263 = .ok (.iconst 1, 1) := by decide +kernel
theorem dL_law_1264 : decode code 1264 = .ok (.iadd, 1) := by decide +kernel
theorem dL_law_1265 : decode code 1265 = .ok (.iaload, 1) := by decide +kernel
theorem dL_law_1266 : decode code 1266 = .ok (.aload_n 0, 1) := by decide +kernel
theorem dL_law_1267 : decode code 1267 = .ok (.iload 4, 2) := by decide +kernel
theorem dL_law_1269 : decode code 1269 = .ok (.iconst 2, 1) := by decide +kernel
theorem dL_law_1270 : decode code 1270 = .ok (.iadd, 1) := by decide +kernel
theorem dL_law_1271 : decode code 1271 = .ok (.iaload, 1) := by decide +kernel
theorem dL_law_1272 : decode code 1272 = .ok (.ifCond .eq 7, 3) := by decide +kernel
theorem dL_law_1275 : decode code 1275 = .ok (.iconst 1, 1) := by decide +kernel
theorem dL_law_1276 : decode code 1276 = .ok (.goto 4, 3) := by decide +kernel
theorem dL_law_1279 : decode code 1279 = .ok (.iconst 0, 1) := by decide +kernel
theorem dL_law_1280 : decode code 1280 = .ok (.aload_n 3, 1) := by decide +kernel
theorem dL_law_1281 : decode code 1281 = .ok (.invokestatic 177, 3) := by decide +kernel
theorem dL_law_1284 : decode code 1284 = .ok (.istore 5, 2) := by decide +kernel
theorem dL_law_1286 : decode code 1286 = .ok (.aload_n 2, 1) := by decide +kernel
theorem dL_law_1287 : decode code 1287 = .ok (.aload_n 0, 1) := by decide +kernel
theorem dL_law_1288 : decode code 1288 = .ok (.iload 4, 2) := by decide +kernel
theorem dL_law_1290 : decode code 1290 = .ok (.iconst 1, 1) := by decide +kernel
theorem dL_law_1291 : decode code 1291 = .ok (.iadd, 1) := by decide +kernel
theorem dL_law_1292 : decode code 1292 = .ok (.iaload, 1) := by decide +kernel
theorem dL_law_1293 : decode code 1293 = .ok (.aload_n 0, 1) := by decide +kernel
theorem dL_law_1294 : decode code 1294 = .ok (.iload 4, 2) := by decide +kernel
theorem dL_law_1296 : decode code 1296 = .ok (.iconst 2, 1) := by decide +kernel
theorem dL_law_1297 : decode code 1297 = .ok (.iadd, 1) := by decide +kernel
theorem dL_law_1298 : decode code 1298 = .ok (.iaload, 1) := by decide +kernel
theorem dL_law_1299 : decode code 1299 = .ok (.ifCond .eq 7, 3) := by decide +kernel
theorem dL_law_1302 : decode code 1302 = .ok (.iconst 1, 1) := by decide +kernel
theorem dL_law_1303 : decode code 1303 = .ok (.goto 4, 3) := by decide +kernel
theorem dL_law_1306 : decode code 1306 = .ok (.iconst 0, 1) := by decide +kernel
theorem dL_law_1307 : decode code 1307 = .ok (.invokevirtual 179, 3) := by decide +kernel
theorem dL_law_1310 : decode code 1310 = .ok (.istore 6, 2) := by decide +kernel
theorem dL_law_1312 : decode code 1312 = .ok (.aload_n 2, 1) := by decide +kernel
theorem dL_law_1313 : decode code 1313 = .ok (.invokevirtual 122, 3) := by decide +kernel
theorem dL_law_1316 : decode code 1316 = .ok (.iload 5, 2) := by decide +kernel
theorem dL_law_1318 : decode code 1318 = .ok (.if_icmp .eq 5, 3) := by decide +kernel
theorem dL_law_1323 : decode code 1323 = .ok (.iload 5, 2) := by decide +kernel
theorem dL_law_1325 : decode code 1325 = .ok (.ifCond .ne 15, 3) := by decide +kernel
theorem dL_law_1328 : decode code 1328 = .ok (.aload_n 3, 1) := by decide +kernel
theorem dL_law_1329 : decode code 1329 = .ok (.iconst 0, 1) := by decide +kernel
theorem dL_law_1330 : decode code 1330 = .ok (.laload, 1) := by decide +kernel
theorem dL_law_1331 : decode code 1331 = .ok (.iload 6, 2) := by decide +kernel
theorem dL_law_1333 : decode code 1333 = .ok (.i2l, 1) := by decide +kernel
theorem dL_law_1334 : decode code 1334 = .ok (.lcmp, 1) := by decide +kernel
theorem dL_law_1335 : decode code 1335 = .ok (.ifCond .eq 5, 3) := by decide +kernel
theorem dL_law_1340 : decode code 1340 = .ok (.goto 907, 3) := by decide +kernel
theorem dL_law_1343 : decode code 1343 = .ok (.aload_n 1, 1) := by decide +kernel
theorem dL_law_1344 : decode code 1344 = .ok (.aload_n 0, 1) := by decide +kernel
theorem dL_law_1345 : decode code 1345 = .ok (.iload 4, 2) := by decide +kernel
theorem dL_law_1347 : decode code 1347 = .ok (.iconst 1, 1) := by decide +kernel
theorem dL_law_1348 : decode code 1348 = .ok (.iadd, 1) := by decide +kernel
theorem dL_law_1349 : decode code 1349 = .ok (.iaload, 1) := by decide +kernel
theorem dL_law_1350 : decode code 1350 = .ok (.aload_n 3, 1) := by decide +kernel
theorem dL_law_1351 : decode code 1351 = .ok (.invokestatic 180, 3) := by decide +kernel
theorem dL_law_1354 : decode code 1354 = .ok (.istore 5, 2) := by decide +kernel
theorem dL_law_1356 : decode code 1356 = .ok (.aload_n 2, 1) := by decide +kernel
theorem dL_law_1357 : decode code 1357 = .ok (.aload_n 0, 1) := by decide +kernel
theorem dL_law_1358 : decode code 1358 = .ok (.iload 4, 2) := by decide +kernel
theorem dL_law_1360 : decode code 1360 = .ok (.iconst 1, 1) := by decide +kernel
theorem dL_law_1361 : decode code 1361 = .ok (.iadd, 1) := by decide +kernel
theorem dL_law_1362 : decode code 1362 = .ok (.iaload, 1) := by decide +kernel
theorem dL_law_1363 : decode code 1363 = .ok (.invokevirtual 182, 3) := by decide +kernel
theorem dL_law_1366 : decode code 1366 = .ok (.istore 6, 2) := by decide +kernel
theorem dL_law_1368 : decode code 1368 = .ok (.aload_n 2, 1) := by decide +kernel
theorem dL_law_1369 : decode code 1369 = .ok (.invokevirtual 122, 3) := by decide +kernel
theorem dL_law_1372 : decode code 1372 = .ok (.iload 5, 2) := by decide +kernel
theorem dL_law_1374 : decode code 1374 = .ok (.if_icmp .eq 5, 3) := by decide +kernel
theorem dL_law_1379 : decode code 1379 = .ok (.iload 5, 2) := by decide +kernel
theorem dL_law_1381 : decode code 1381 = .ok (.ifCond .ne 15, 3) := by decide +kernel
theorem dL_law_1384 : decode code 1384 = .ok (.aload_n 3, 1) := by decide +kernel
theorem dL_law_1385 : decode code 1385 = .ok (.iconst 0, 1) := by decide +kernel
theorem dL_law_1386 : decode code 1386 = .ok (.laload, 1) := by decide +kernel
theorem dL_law_1387 : decode code 1387 = .ok (.iload 6, 2) := by decide +kernel
theorem dL_law_1389 : decode code 1389 = .ok (.i2l, 1) := by decide +kernel
theorem dL_law_1390 : decode code 1390 = .ok (.lcmp, 1) := by decide +kernel
theorem dL_law_1391 : decode code 1391 = .ok (.ifCond .eq 5, 3) := by decide +kernel
theorem dL_law_1396 : decode code 1396 = .ok (.goto 851, 3) := by decide +kernel
theorem dL_law_1399 : decode code 1399 = .ok (.aload_n 1, 1) := by decide +kernel
theorem dL_law_1400 : decode code 1400 = .ok (.aload_n 0, 1) := by decide +kernel
theorem dL_law_1401 : decode code 1401 = .ok (.iload 4, 2) := by decide +kernel
theorem dL_law_1403 : decode code 1403 = .ok (.iconst 1, 1) := by decide +kernel
theorem dL_law_1404 : decode code 1404 = .ok (.iadd, 1) := by decide +kernel
theorem dL_law_1405 : decode code 1405 = .ok (.iaload, 1) := by decide +kernel
theorem dL_law_1406 : decode code 1406 = .ok (.aload_n 3, 1) := by decide +kernel
theorem dL_law_1407 : decode code 1407 = .ok (.invokestatic 183, 3) := by decide +kernel
theorem dL_law_1410 : decode code 1410 = .ok (.istore 5, 2) := by decide +kernel
theorem dL_law_1412 : decode code 1412 = .ok (.aload_n 2, 1) := by decide +kernel
theorem dL_law_1413 : decode code 1413 = .ok (.aload_n 0, 1) := by decide +kernel
theorem dL_law_1414 : decode code 1414 = .ok (.iload 4, 2) := by decide +kernel
theorem dL_law_1416 : decode code 1416 = .ok (.iconst 1, 1) := by decide +kernel
theorem dL_law_1417 : decode code 1417 = .ok (.iadd, 1) := by decide +kernel
theorem dL_law_1418 : decode code 1418 = .ok (.iaload, 1) := by decide +kernel
theorem dL_law_1419 : decode code 1419 = .ok (.invokevirtual 185, 3) := by decide +kernel
theorem dL_law_1422 : decode code 1422 = .ok (.istore 6, 2) := by decide +kernel
theorem dL_law_1424 : decode code 1424 = .ok (.aload_n 2, 1) := by decide +kernel
theorem dL_law_1425 : decode code 1425 = .ok (.invokevirtual 122, 3) := by decide +kernel
theorem dL_law_1428 : decode code 1428 = .ok (.iload 5, 2) := by decide +kernel
theorem dL_law_1430 : decode code 1430 = .ok (.if_icmp .eq 5, 3) := by decide +kernel
theorem dL_law_1435 : decode code 1435 = .ok (.iload 5, 2) := by decide +kernel
theorem dL_law_1437 : decode code 1437 = .ok (.ifCond .ne 15, 3) := by decide +kernel
theorem dL_law_1440 : decode code 1440 = .ok (.aload_n 3, 1) := by decide +kernel
theorem dL_law_1441 : decode code 1441 = .ok (.iconst 0, 1) := by decide +kernel
theorem dL_law_1442 : decode code 1442 = .ok (.laload, 1) := by decide +kernel
theorem dL_law_1443 : decode code 1443 = .ok (.iload 6, 2) := by decide +kernel
theorem dL_law_1445 : decode code 1445 = .ok (.i2l, 1) := by decide +kernel
theorem dL_law_1446 : decode code 1446 = .ok (.lcmp, 1) := by decide +kernel
theorem dL_law_1447 : decode code 1447 = .ok (.ifCond .eq 5, 3) := by decide +kernel
theorem dL_law_1452 : decode code 1452 = .ok (.goto 795, 3) := by decide +kernel
theorem dL_law_1455 : decode code 1455 = .ok (.aload_n 1, 1) := by decide +kernel
theorem dL_law_1456 : decode code 1456 = .ok (.aload_n 0, 1) := by decide +kernel
