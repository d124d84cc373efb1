theorem d_law_1119 : decode code 1119 = .ok (.aload_n 1, 1) := by decide +kernel
theorem d_law_1120 : decode code 1120 = .ok (.aload_n 0, 1) := by decide +kernel
theorem d_law_1121 : decode code 1121 = .ok (.iload 4, 2) := by decide +kernel
theorem d_law_1123 : decode code 1123 = .ok (.iconst 1, 1) := by decide +kernel
theorem d_law_1124 : decode code 1124 = .ok (.iadd, 1) := by decide +kernel
theorem d_law_1125 : decode code 1125 = .ok (.iaload, 1) := by decide +kernel
theorem d_law_1126 : decode code 1126 = .ok (.aload_n 3, 1) := by decide +kernel
theorem d_law_1127 : decode code 1127 = .ok (.invokestatic 135, 3) := by decide +kernel
theorem d_law_1130 : decode code 1130 = .ok (.istore 5, 2) := by decide +kernel
theorem d_law_1132 : decode code 1132 = .ok (.aload_n 2, 1) := by decide +kernel
theorem d_law_1133 : decode code 1133 = .ok (.aload_n 0, 1) := by decide +kernel
theorem d_law_1134 : decode code 1134 = .ok (.iload 4, 2) := by decide +kernel
theorem d_law_1136 : decode code 1136 = .ok (.iconst 1, 1) := by decide +kernel
theorem d_law_1137 : decode code 1137 = .ok (.iadd, 1) := by decide +kernel
theorem d_law_1138 : decode code 1138 = .ok (.iaload, 1) := by decide +kernel
theorem d_law_1139 : decode code 1139 = .ok (.invokevirtual 137, 3) := by decide +kernel
theorem d_law_1142 : decode code 1142 = .ok (.istore 6, 2) := by decide +kernel
theorem d_law_1144 : decode code 1144 = .ok (.aload_n 2, 1) := by decide +kernel
theorem d_law_1145 : decode code 1145 = .ok (.invokevirtual 90, 3) := by decide +kernel
theorem d_law_1148 : decode code 1148 = .ok (.iload 5, 2) := by decide +kernel
theorem d_law_1150 : decode code 1150 = .ok (.if_icmp .eq 5, 3) := by decide +kernel
theorem d_law_1153 : decode code 1153 = .ok (.iconst 0, 1) := by decide +kernel
theorem d_law_1154 : decode code 1154 = .ok (.ireturn, 1) := by decide +kernel
theorem d_law_1155 : decode code 1155 = .ok (.iload 5, 2) := by decide +kernel
theorem d_law_1157 : decode code 1157 = .ok (.ifCond .ne 15, 3) := by decide +kernel
theorem d_law_1160 : decode code 1160 = .ok (.aload_n 3, 1) := by decide +kernel
theorem d_law_1161 : decode code 1161 = .ok (.iconst 0, 1) := by decide +kernel
theorem d_law_1162 : decode code 1162 = .ok (.laload, 1) := by decide +kernel
theorem d_law_1163 : decode code 1163 = .ok (.iload 6, 2) := by decide +kernel
theorem d_law_1165 : decode code 1165 = .ok (.i2l, 1) := by decide +kernel
theorem d_law_1166 : decode code 1166 = .ok (.lcmp, 1) := by decide +kernel
theorem d_law_1167 : decode code 1167 = .ok (.ifCond .eq 5, 3) := by decide +kernel
theorem d_law_1170 : decode code 1170 = .ok (.iconst 0, 1) := by decide +kernel
theorem d_law_1171 : decode code 1171 = .ok (.ireturn, 1) := by decide +kernel
theorem d_law_1172 : decode code 1172 = .ok (.goto 437, 3) := by decide +kernel
theorem d_law_1175 : decode code 1175 = .ok (.aload_n 1, 1) := by decide +kernel
theorem d_law_1176 : decode code 1176 = .ok (.aload_n 0, 1) := by decide +kernel
theorem d_law_1177 : decode code 1177 = .ok (.iload 4, 2) := by decide +kernel
theorem d_law_1179 : decode code 1179 = .ok (.iconst 1, 1) := by decide +kernel
theorem d_law_1180 : decode code 1180 = .ok (.iadd, 1) := by decide +kernel
theorem d_law_1181 : decode code 1181 = .ok (.iaload, 1) := by decide +kernel
theorem d_law_1182 : decode code 1182 = .ok (.aload_n 0, 1) := by decide +kernel
theorem d_law_1183 : decode code 1183 = .ok (.iload 4, 2) := by decide +kernel
theorem d_law_1185 : decode code 1185 = .ok (.iconst 2, 1) := by decide +kernel
theorem d_law_1186 : decode code 1186 = .ok (.iadd, 1) := by decide +kernel
theorem d_law_1187 : decode code 1187 = .ok (.iaload, 1) := by decide +kernel
theorem d_law_1188 : decode code 1188 = .ok (.aload_n 3, 1) := by decide +kernel
theorem d_law_1189 : decode code 1189 = .ok (.invokestatic 138, 3) := by decide +kernel
theorem d_law_1192 : decode code 1192 = .ok (.istore 5, 2) := by decide +kernel
theorem d_law_1194 : decode code 1194 = .ok (.aload_n 2, 1) := by decide +kernel
theorem d_law_1195 : decode code 1195 = .ok (.aload_n 0, 1) := by decide +kernel
theorem d_law_1196 : decode code 1196 = .ok (.iload 4, 2) := by decide +kernel
theorem d_law_1198 : decode code 1198 = .ok (.iconst 1, 1) := by decide +kernel
theorem d_law_1199 : decode code 1199 = .ok (.iadd, 1) := by decide +kernel
theorem d_law_1200 : decode code 1200 = .ok (.iaload, 1) := by decide +kernel
theorem d_law_1201 : decode code 1201 = .ok (.aload_n 0, 1) := by decide +kernel
theorem d_law_1202 : decode code 1202 = .ok (.iload 4, 2) := by decide +kernel
theorem d_law_1204 : decode code 1204 = .ok (.iconst 2, 1) := by decide +kernel
theorem d_law_1205 : decode code 1205 = .ok (.iadd, 1) := by decide +kernel
theorem d_law_1206 : decode code 1206 = .ok (.iaload, 1) := by decide +kernel
theorem d_law_1207 : decode code 1207 = .ok (.invokevirtual 140, 3) := by decide +kernel
theorem d_law_1210 : decode code 1210 = .ok (.istore 6, 2) := by decide +kernel
theorem d_law_1212 : decode code 1212 = .ok (.aload_n 2, 1) := by decide +kernel
theorem d_law_1213 : decode code 1213 = .ok (.invokevirtual 90, 3) := by decide +kernel
theorem d_law_1216 : decode code 1216 = .ok (.iload 5, 2) := by decide +kernel
theorem d_law_1218 : decode code 1218 = .ok (.if_icmp .eq 5, 3) := by decide +kernel
theorem d_law_1221 : decode code 1221 = .ok (.iconst 0, 1) := by decide +kernel
theorem d_law_1222 : decode code 1222 = .ok (.ireturn, 1) := by decide +kernel
theorem d_law_1223 : decode code 1223 = .ok (.iload 5, 2) := by decide +kernel
theorem d_law_1225 : decode code 1225 = .ok (.ifCond .ne 15, 3) := by decide +kernel
theorem d_law_1228 : decode code 1228 = .ok (.aload_n 3, 1) := by decide +kernel
theorem d_law_1229 : decode code 1229 = .ok (.iconst 0, 1) := by decide +kernel
theorem d_law_1230 : decode code 1230 = .ok (.laload, 1) := by decide +kernel
theorem d_law_1231 : decode code 1231 = .ok (.iload 6, 2) := by decide +kernel
theorem d_law_1233 : decode code 1233 = .ok (.i2l, 1) := by decide +kernel
theorem d_law_1234 : decode code 1234 = .ok (.lcmp, 1) := by decide +kernel
theorem d_law_1235 : decode code 1235 = .ok (.ifCond .eq 5, 3) := by decide +kernel
theorem d_law_1238 : decode code 1238 = .ok (.iconst 0, 1) := by decide +kernel
theorem d_law_1239 : decode code 1239 = .ok (.ireturn, 1) := by decide +kernel
theorem d_law_1240 : decode code 1240 = .ok (.goto 369, 3) := by decide +kernel
theorem d_law_1243 : decode code 1243 = .ok (.aload_n 1, 1) := by decide +kernel
theorem d_law_1244 : decode code 1244 = .ok (.aload_n 0, 1) := by decide +kernel
theorem d_law_1245 : decode code 1245 = .ok (.iload 4, 2) := by decide +kernel
theorem d_law_1247 : decode code 1247 = .ok (.iconst 1, 1) := by decide +kernel
theorem d_law_1248 : decode code 1248 = .ok (.iadd, 1) := by decide +kernel
theorem d_law_1249 : decode code 1249 = .ok (.iaload, 1) := by decide +kernel
theorem d_law_1250 : decode code 1250 = .ok (.aload_n 0, 1) := by decide +kernel
theorem d_law_1251 : decode code 1251 = .ok (.iload 4, 2) := by decide +kernel
theorem d_law_1253 : decode code 1253 = .ok (.iconst 2, 1) := by decide +kernel
theorem d_law_1254 : decode code 1254 = .ok (.iadd, 1) := by decide +kernel
theorem d_law_1255 : decode code 1255 = .ok (.iaload, 1) := by decide +kernel
theorem d_law_1256 : decode code 1256 = .ok (.aload_n 0, 1) := by decide +kernel
theorem d_law_1257 : decode code 1257 = .ok (.iload 4, 2) := by decide +kernel
theorem d_law_1259 : decode code 1259 = .ok (.iconst 3, 1) := by decide +kernel
theorem d_law_1260 : decode code 1260 = .ok (.iadd, 1) := by decide +kernel
theorem d_law_1261 : decode code 1261 = .ok (.iaload, 1) := by decide +kernel
theorem d_law_1262 : decode code 1262 = .ok (.aload_n 3, 1) := by decide +kernel
theorem d_law_1263 : decode code 1263 = .ok (.invokestatic 141, 3) := by decide +kernel
theorem d_law_1266 : decode code 1266 = .ok (.istore 5, 2) := by decide +kernel
theorem d_law_1268 : decode code 1268 = .ok (.aload_n 2, 1) := by decide +kernel
theorem d_law_1269 : decode code 1269 = .ok (.aload_n 0, 1) := by decide +kernel
theorem d_law_1270 : decode code 1270 = .ok (.iload 4, 2) := by decide +kernel
theorem d_law_1272 : decode code 1272 = .ok (.iconst 1, 1) := by decide +kernel
theorem d_law_1273 : decode code 1273 = .ok (.iadd, 1) := by decide +kernel
theorem d_law_1274 : decode code 1274 = .ok (.iaload, 1) := by decide +kernel
theorem d_law_1275 : decode code 1275 = .ok (.aload_n 0, 1) := by decide +kernel
theorem d_law_1276 : decode code 1276 = .ok (.iload 4, 2) := by decide +kernel
theorem d_law_1278 : decode code 1278 = .ok (.iconst 2, 1) := by decide +kernel
theorem d_law_1279 : decode code 1279 = .ok (.iadd, 1) := by decide +kernel
theorem d_law_1280 : decode code 1280 = .ok (.iaload, 1) := by decide +kernel
theorem d_law_1281 : decode code 1281 = .ok (.aload_n 0, 1) := by decide +kernel
theorem d_law_1282 : decode code 1282 = .ok (.iload 4, 2) := by decide +kernel
theorem d_law_1284 : decode code 1284 = .ok (.iconst 3, 1) := by decide +kernel
theorem d_law_1285 : decode code 1285 = .ok (.iadd, 1) := by decide +kernel
theorem d_law_1286 : decode code 1286 = .ok (.iaload, 1) := by decide +kernel
theorem d_law_1287 : decode code 1287 = .ok (.invokevirtual 143, 3) := by decide +kernel
theorem d_law_1290 : decode code 1290 = .ok (.istore 6, 2) := by decide +kernel
theorem d_law_1292 : decode code 1292 = .ok (.aload_n 2, 1) := by decide +kernel
theorem d_law_1293 : decode code 1293 = .ok (.invokevirtual 90, 3) := by decide +kernel
theorem d_law_1296 : decode code 1296 = .ok (.iload 5, 2) := by decide +kernel
theorem d_law_1298 : decode code 1298 = .ok (.if_icmp .eq 5, 3) := by decide +kernel
theorem d_law_1301 : decode code 1301 = .ok (.iconst 0, 1) := by decide +kernel
theorem d_law_1302 : decode code 1302 = .ok (.ireturn, 1) := by decide +kernel
theorem d_law_1303 : decode code 1303 = .ok (.iload 5, 2) := by decide +kernel
theorem d_law_1305 : decode code 1305 = .ok (.ifCond .ne 15, 3) := by decide +kernel
theorem d_law_1308 : decode code 1308 = .ok (.aload_n 3, 1) := by decide +kernel
theorem d_law_1309 : decode code 1309 = .ok (.iconst 0, 1) := by decide +kernel
theorem d_law_1310 : decode code 1310 = .ok (.laload, 1) := by decide +kernel
theorem d_law_1311 : decode code 1311 = .ok (.iload 6, 2) := by decide +kernel
theorem d_law_1313 : decode code 1313 = .ok (.i2l, 1) := by decide +kernel
theorem d_law_1314 : decode code 1314 = .ok (.lcmp, 1) := by decide +kernel
theorem d_law_1315 : decode code 1315 = .ok (.ifCond .eq 5, 3) := by decide +kernel
theorem d_law_1318 : decode code 1318 = .ok (.iconst 0, 1) := by decide +kernel
theorem d_law_1319 : decode code 1319 = .ok (.ireturn, 1) := by decide +kernel
theorem d_law_1320 : decode code 1320 = .ok (.goto 289, 3) := by decide +kernel
theorem d_law_1323 : decode code 1323 = .ok (.aload_n 1, 1) := by decide +kernel
theorem d_law_1324 : decode code 1324 = .ok (.aload_n 0, 1) := by decide +kernel
theorem d_law_1325 : decode code 1325 = .ok (.iload 4, 2) := by decide +kernel
theorem d_law_1327 : decode code 1327 = .ok (.iconst 1, 1) := by decide +kernel
theorem d_law_1328 : decode code 1328 = .ok (.iadd, 1) := by decide +kernel
theorem d_law_1329 : decode code 1329 = .ok (.iaload, 1) := by decide +kernel
theorem d_law_1330 : decode code 1330 = .ok (.aload_n 0, 1) := by decide +kernel
theorem d_law_1331 : decode code 1331 = .ok (.iload 4, 2) := by decide +kernel
theorem d_law_1333 : decode code 1333 = .ok (.iconst 2, 1) := by decide +kernel
theorem d_law_1334 : decode code 1334 = .ok (.iadd, 1) := by decide +kernel
theorem d_law_1335 : decode code 1335 = .ok (.iaload, 1) := by decide +kernel
theorem d_law_1336 : decode code 1336 = .ok (.aload_n 3, 1) := by decide +kernel
theorem d_law_1337 : decode code 1337 = .ok (.invokestatic 144, 3) := by decide +kernel
theorem d_law_1340 : decode code 1340 = .ok (.istore 5, 2) := by decide +kernel
theorem d_law_1342 : decode code 1342 = .ok (.aload_n 2, 1) := by decide +kernel
theorem d_law_1343 : decode code 1343 = .ok (.aload_n 0, 1) := by decide +kernel
theorem d_law_1344 : decode code 1344 = .ok (.iload 4, 2) := by decide +kernel
theorem d_law_1346 : decode code 1346 = .ok (.iconst 1, 1) := by decide +kernel
theorem d_law_1347 : decode code 1347 = .ok (.iadd, 1) := by decide +kernel
theorem d_law_1348 : decode code 1348 = .ok (.iaload, 1) := by decide +kernel
theorem d_law_1349 : decode code 1349 = .ok (.aload_n 0, 1) := by decide +kernel
theorem d_law_1350 : decode code 1350 = .ok (.iload 4, 2) := by decide +kernel
theorem d_law_1352 : decode code 1352 = .ok (.iconst 2, 1) := by decide +kernel
theorem d_law_1353 : decode code 1353 = .ok (.iadd, 1) := by decide +kernel
theorem d_law_1354 : decode code 1354 = .ok (.iaload, 1) := by decide +kernel
theorem d_law_1355 : decode code 1355 = .ok (.invokevirtual 146, 3) := by decide +kernel
theorem d_law_1358 : decode code 1358 = .ok (.istore 6, 2) := by decide +kernel
theorem d_law_1360 : decode code 1360 = .ok (.aload_n 2, 1) := by decide +kernel
theorem d_law_1361 : decode code 1361 = .ok (.invokevirtual 90, 3) := by decide +kernel
theorem d_law_1364 : decode code 1364 = .ok (.iload 5, 2) := by decide +kernel
theorem d_law_1366 : decode code 1366 = .ok (.if_icmp .eq 5, 3) := by decide +kernel
theorem d_law_1369 : decode code 1369 = .ok (.iconst 0, 1) := by decide +kernel
theorem d_law_1370 : decode code 1370 = .ok (.ireturn, 1) := by decide +kernel
theorem d_law_1371 : decode code 1371 = .ok (.iload 5, 2) := by decide +kernel
theorem d_law_1373 : decode code 1373 = .ok (.ifCond .ne 15, 3) := by decide +kernel
theorem d_law_1376 : decode code 1376 = .ok (.aload_n 3, 1) := by decide +kernel
theorem d_law_1377 : decode code 1377 = .ok (.iconst 0, 1) := by decide +kernel
theorem d_law_1378 : decode code 1378 = .ok (.laload, 1) := by decide +kernel
theorem d_law_1379 : decode code 1379 = .ok (.iload 6, 2) := by decide +kernel
theorem d_law_1381 : decode code 1381 = .ok (.i2l, 1) := by decide +kernel
theorem d_law_1382 : decode code 1382 = .ok (.lcmp, 1) := by decide +kernel
theorem d_law_1383 : decode code 1383 = .ok (.ifCond .eq 5, 3) := by decide +kernel
theorem d_law_1386 : decode code 1386 = .ok (.iconst 0, 1) := by decide +kernel
theorem d_law_1387 : decode code 1387 = .ok (.ireturn, 1) := by decide +kernel
theorem d_law_1388 : decode code 1388 = .ok (.goto 221, 3) := by decide +kernel
theorem d_law_1391 : decode code 1391 = .ok (.aload_n 1, 1) := by decide +kernel
theorem d_law_1392 : decode code 1392 = .ok (.aload_n 0, 1) := by decide +kernel
theorem d_law_1393 : decode code 1393 = .ok (.iload 4, 2) := by decide +kernel
theorem d_law_1395 : decode code 1395 = .ok (.iconst 1, 1) := by decide +kernel
theorem d_law_1396 : decode code 1396 = .ok (.iadd, 1) := by decide +kernel
theorem d_law_1397 : decode code 1397 = .ok (.iaload, 1) := by decide +kernel
theorem d_law_1398 : decode code 1398 = .ok (.aload_n 0, 1) := by decide +kernel
theorem d_law_1399 : decode code 1399 = .ok (.iload 4, 2) := by decide +kernel
theorem d_law_1401 : decode code 1401 = .ok (.iconst 2, 1) := by decide +kernel
theorem d_law_1402 : decode code 1402 = .ok (.iadd, 1) := by decide +kernel
theorem d_law_1403 : decode code 1403 = .ok (.iaload, 1) := by decide +kernel
theorem d_law_1404 : decode code 1404 = .ok (.aload_n 0, 1) := by decide +kernel
theorem d_law_1405 : decode code 1405 = .ok (.iload 4, 2) := by decide +kernel
theorem d_law_1407 : decode code 1407 = .ok (.iconst 3, 1) := by decide +kernel
theorem d_law_1408 : decode code 1408 = .ok (.iadd, 1) := by decide +kernel
theorem d_law_1409 : decode code 1409 = .ok (.iaload, 1) := by decide +kernel
theorem d_law_1410 : decode code 1410 = .ok (.aload_n 3, 1) := by decide +kernel
theorem d_law_1411 : decode code 1411 = .ok (.invokestatic 147, 3) := by decide +kernel
theorem d_law_1414 : decode code 1414 = .ok (.istore 5, 2) := by decide +kernel
theorem d_law_1416 : decode code 1416 = .ok (.aload_n 2, 1) := by decide +kernel
theorem d_law_1417 : decode code 1417 = .ok (.aload_n 0, 1) := by decide +kernel
theorem d_law_1418 : decode code 1418 = .ok (.iload 4, 2) := by decide +kernel
theorem d_law_1420 : decode code 1420 = .ok (.iconst 1, 1) := by decide +kernel
theorem d_law_1421 : decode code 1421 = .ok (.iadd, 1) := by decide +kernel
theorem d_law_1422 : decode code 1422 = .ok (.iaload, 1) := by decide +kernel
theorem d_law_1423 : decode code 1423 = .ok (.aload_n 0, 1) := by decide +kernel
theorem d_law_1424 : decode code 1424 = .ok (.iload 4, 2) := by decide +kernel
theorem d_law_1426 : decode code 1426 = .ok (.iconst 2, 1) := by decide +kernel
theorem d_law_1427 : decode code 1427 = .ok (.iadd, 1) := by decide +kernel
theorem d_law_1428 : decode code 1428 = .ok (.iaload, 1) := by decide +kernel
theorem d_law_1429 : decode code 1429 = .ok (.aload_n 0, 1) := by decide +kernel
theorem d_law_1430 : decode code 1430 = .ok (.iload 4, 2) := by decide +kernel
theorem d_law_1432 : decode code 1432 = .ok (.iconst 3, 1) := by decide +kernel
theorem d_law_1433 : decode code 1433 = .ok (.iadd, 1) := by decide +kernel
theorem d_law_1434 : decode code 1434 = .ok (.iaload, 1) := by decide +kernel
theorem d_law_1435 : decode code 1435 = .ok (.invokevirtual 149, 3) := by decide +kernel
theorem d_law_1438 : decode code 1438 = .ok (.istore 6, 2) := by decide +kernel
theorem d_law_1440 : decode code 1440 = .ok (.aload_n 2, 1) := by decide +kernel
theorem d_law_1441 : decode code 1441 = .ok (.invokevirtual 90, 3) := by decide +kernel
theorem d_law_1444 : decode code 1444 = .ok (.iload 5, 2) := by decide +kernel
theorem d_law_1446 : decode code 1446 = .ok (.if_icmp .eq 5, 3) := by decide +kernel
theorem d_law_1449 : decode code 1449 = .ok (.iconst 0, 1) := by decide +kernel
theorem d_law_1450 : decode code 1450 = .ok (.ireturn, 1) := by decide +kernel
theorem d_law_1451 : decode code 1451 = .ok (.iload 5, 2) := by decide +kernel
theorem d_law_1453 : decode code 1453 = .ok (.ifCond .ne 15, 3) := by decide +kernel
theorem d_law_1456 : decode code 1456 = .ok (.aload_n 3, 1) := by decide +kernel
theorem d_law_1457 : decode code 1457 = .ok (.iconst 0, 1) := by decide +kernel
theorem d_law_1458 : decode code 1458 = .ok (.laload, 1) := by decide +kernel
theorem d_law_1459 : decode code 1459 = .ok (.iload 6, 2) := by decide +kernel
theorem d_law_1461 : decode code 1461 = .ok (.i2l, 1) := by decide +kernel
theorem d_law_1462 : decode code 1462 = .ok (.lcmp, 1) := by decide +kernel
theorem d_law_1463 : decode code 1463 = .ok (.ifCond .eq 5, 3) := by decide +kernel
theorem d_law_1466 : decode code 1466 = .ok (.iconst 0, 1) := by decide +kernel
theorem d_law_1467 : decode code 1467 = .ok (.ireturn, 1) := by decide +kernel
theorem d_law_1468 : decode code 1468 = .ok (.goto 141, 3) := by decide +kernel
theorem d_law_1471 : decode code 1471 = .ok (.aload_n 1, 1) := by decide +kernel
theorem d_law_1472 : decode code 1472 = .ok (.invokevirtual 150, 3) := by decide +kernel
theorem d_law_1475 : decode code 1475 = .ok (.aload_n 2, 1) := by decide +kernel
theorem d_law_1476 : decode code 1476 = .ok (.invokevirtual 154, 3) := by decide +kernel
theorem d_law_1479 : decode code 1479 = .ok (.lcmp, 1) := by decide +kernel
theorem d_law_1480 : decode code 1480 = .ok (.ifCond .eq 129, 3) := by decide +kernel
theorem d_law_1483 : decode code 1483 = .ok (.iconst 0, 1) := by decide +kernel
theorem d_law_1484 : decode code 1484 = .ok (.ireturn, 1) := by decide +kernel
theorem d_law_1485 : decode code 1485 = .ok (.aload_n 1, 1) := by decide +kernel
theorem d_law_1486 : decode code 1486 = .ok (.aload_n 0, 1) := by decide +kernel
theorem d_law_1487 : decode code 1487 = .ok (.iload 4, 2) := by decide +kernel
theorem d_law_1489 : decode code 1489 = .ok (.iconst 1, 1) := by decide +kernel
theorem d_law_1490 : decode code 1490 = .ok (.iadd, 1) := by decide +kernel
theorem d_law_1491 : decode code 1491 = .ok (.iaload, 1) := by decide +kernel
theorem d_law_1492 : decode code 1492 = .ok (.aload_n 0, 1) := by decide +kernel
theorem d_law_1493 : decode code 1493 = .ok (.iload 4, 2) := by decide +kernel
theorem d_law_1495 : decode code 1495 = .ok (.iconst 2, 1) := by decide +kernel
theorem d_law_1496 : decode code 1496 = .ok (.iadd, 1) := by decide +kernel
theorem d_law_1497 : decode code 1497 = .ok (.iaload, 1) := by decide +kernel
theorem d_law_1498 : decode code 1498 = .ok (.aload_n 3, 1) := by decide +kernel
theorem d_law_1499 : decode code 1499 = .ok (.invokestatic 155, 3) := by decide +kernel
theorem d_law_1502 : decode code 1502 = .ok (.istore 5, 2) := by decide +kernel
theorem d_law_1504 : decode code 1504 = .ok (.aload_n 2, 1) := by decide +kernel
theorem d_law_1505 : decode code 1505 = .ok (.aload_n 0, 1) := by decide +kernel
theorem d_law_1506 : decode code 1506 = .ok (.iload 4, 2) := by decide +kernel
theorem d_law_1508 : decode code 1508 = .ok (.iconst 1, 1) := by decide +kernel
theorem d_law_1509 : decode code 1509 = .ok (.iadd, 1) := by decide +kernel
theorem d_law_1510 : decode code 1510 = .ok (.iaload, 1) := by decide +kernel
theorem d_law_1511 : decode code 1511 = .ok (.aload_n 0, 1) := by decide +kernel
theorem d_law_1512 : decode code 1512 = .ok (.iload 4, 2) := by decide +kernel
theorem d_law_1514 : decode code 1514 = .ok (.iconst 2, 1) := by decide +kernel
theorem d_law_1515 : decode code 1515 = .ok (.iadd, 1) := by decide +kernel
theorem d_law_1516 : decode code 1516 = .ok (.iaload, 1) := by decide +kernel
theorem d_law_1517 : decode code 1517 = .ok (.invokevirtual 157, 3) := by decide +kernel
theorem d_law_1520 : decode code 1520 = .ok (.istore 6, 2) := by decide +kernel
theorem d_law_1522 : decode code 1522 = .ok (.aload_n 2, 1) := by decide +kernel
theorem d_law_1523 : decode code 1523 = .ok (.invokevirtual 90, 3) := by decide +kernel
theorem d_law_1526 : decode code 1526 = .ok (.iload 5, 2) := by decide +kernel
theorem d_law_1528 : decode code 1528 = .ok (.if_icmp .eq 5, 3) := by decide +kernel
theorem d_law_1531 : decode code 1531 = .ok (.iconst 0, 1) := by decide +kernel
theorem d_law_1532 : decode code 1532 = .ok (.ireturn, 1) := by decide +kernel
theorem d_law_1533 : decode code 1533 = .ok (.iload 5, 2) := by decide +kernel
theorem d_law_1535 : decode code 1535 = .ok (.ifCond .ne 15, 3) := by decide +kernel
theorem d_law_1538 : decode code 1538 = .ok (.aload_n 3, 1) := by decide +kernel
theorem d_law_1539 : decode code 1539 = .ok (.iconst 0, 1) := by decide +kernel
theorem d_law_1540 : decode code 1540 = .ok (.laload, 1) := by decide +kernel
theorem d_law_1541 : decode code 1541 = .ok (.iload 6, 2) := by decide +kernel
theorem d_law_1543 : decode code 1543 = .ok (.i2l, 1) := by decide +kernel
theorem d_law_1544 : decode code 1544 = .ok (.lcmp, 1) := by decide +kernel
theorem d_law_1545 : decode code 1545 = .ok (.ifCond .eq 5, 3) := by decide +kernel
theorem d_law_1548 : decode code 1548 = .ok (.iconst 0, 1) := by decide +kernel
theorem d_law_1549 : decode code 1549 = .ok (.ireturn, 1) := by decide +kernel
theorem d_law_1550 : decode code 1550 = .ok (.goto 59, 3) := by decide +kernel
theorem d_law_1553 : decode code 1553 = .ok (.aload_n 1, 1) := by decide +kernel
theorem d_law_1554 : decode code 1554 = .ok (.aload_n 0, 1) := by decide +kernel
theorem d_law_1555 : decode code 1555 = .ok (.iload 4, 2) := by decide +kernel
theorem d_law_1557 : decode code 1557 = .ok (.iconst 1, 1) := by decide +kernel
theorem d_law_1558 : decode code 1558 = .ok (.iadd, 1) := by decide +kernel
theorem d_law_1559 : decode code 1559 = .ok (.iaload, 1) := by decide +kernel
theorem d_law_1560 : decode code 1560 = .ok (.aload_n 3, 1) := by decide +kernel
theorem d_law_1561 : decode code 1561 = .ok (.invokestatic 158, 3) := by decide +kernel
theorem d_law_1564 : decode code 1564 = .ok (.istore 5, 2) := by decide +kernel
theorem d_law_1566 : decode code 1566 = .ok (.aload_n 2, 1) := by decide +kernel
theorem d_law_1567 : decode code 1567 = .ok (.aload_n 0, 1) := by decide +kernel
theorem d_law_1568 : decode code 1568 = .ok (.iload 4, 2) := by decide +kernel
theorem d_law_1570 : decode code 1570 = .ok (.iconst 1, 1) := by decide +kernel
theorem d_law_1571 : decode code 1571 = .ok (.iadd, 1) := by decide +kernel
theorem d_law_1572 : decode code 1572 = .ok (.iaload, 1) := by decide +kernel
theorem d_law_1573 : decode code 1573 = .ok (.invokevirtual 160, 3) := by decide +kernel
theorem d_law_1576 : decode code 1576 = .ok (.istore 6, 2) := by decide +kernel
theorem d_law_1578 : decode code 1578 = .ok (.aload_n 2, 1) := by decide +kernel
theorem d_law_1579 : decode code 1579 = .ok (.invokevirtual 90, 3) := by decide +kernel
theorem d_law_1582 : decode code 1582 = .ok (.iload 5, 2) := by decide +kernel
theorem d_law_1584 : decode code 1584 = .ok (.if_icmp .eq 5, 3) := by decide +kernel
theorem d_law_1587 : decode code 1587 = .ok (.iconst 0, 1) := by decide +kernel
theorem d_law_1588 : decode code 1588 = .ok (.ireturn, 1) := by decide +kernel
theorem d_law_1589 : decode code 1589 = .ok (.iload 5, 2) := by decide +kernel
theorem d_law_1591 : decode code 1591 = .ok (.ifCond .ne 15, 3) := by decide +kernel
theorem d_law_1594 : decode code 1594 = .ok (.aload_n 3, 1) := by decide +kernel
theorem d_law_1595 : decode code 1595 = .ok (.iconst 0, 1) := by decide +kernel
theorem d_law_1596 : decode code 1596 = .ok (.laload, 1) := by decide +kernel
theorem d_law_1597 : decode code 1597 = .ok (.iload 6, 2) := by decide +kernel
theorem d_law_1599 : decode code 1599 = .ok (.i2l, 1) := by decide +kernel
theorem d_law_1600 : decode code 1600 = .ok (.lcmp, 1) := by decide +kernel
theorem d_law_1601 : decode code 1601 = .ok (.ifCond .eq 5, 3) := by decide +kernel
theorem d_law_1604 : decode code 1604 = .ok (.iconst 0, 1) := by decide +kernel
theorem d_law_1605 : decode code 1605 = .ok (.ireturn, 1) := by decide +kernel
theorem d_law_1606 : decode code 1606 = .ok (.goto 3, 3) := by decide +kernel
theorem d_law_1609 : decode code 1609 = .ok (.iinc 4 6, 3) := by decide +kernel
theorem d_law_1612 : decode code 1612 = .ok (.goto (-1589), 3) := by decide +kernel
theorem d_law_1615 : decode code 1615 = .ok (.iconst 1, 1) := by decide +kernel
theorem d_law_1616 : decode code 1616 = .ok (.ireturn, 1) := by decide +kernel
