/-! decode rows of the law, as printed -/
theorem dL_law_1140 : decode cL_law 1140 = .ok (.ifCond .ne 25, 3) := by decide +kernel
theorem dL_law_1143 : decode cL_law 1143 = .ok (.aload_n 2, 1) := by decide +kernel
theorem dL_law_1144 : decode cL_law 1144 = .ok (.aload_n 3, 1) := by decide +kernel
theorem dL_law_1145 : decode cL_law 1145 = .ok (.aload 4, 2) := by decide +kernel
theorem dL_law_1147 : decode cL_law 1147 = .ok (.aload 5, 2) := by decide +kernel
theorem dL_law_1149 : decode cL_law 1149 = .ok (.aload 6, 2) := by decide +kernel
theorem dL_law_1151 : decode cL_law 1151 = .ok (.aload 7, 2) := by decide +kernel
theorem dL_law_1153 : decode cL_law 1153 = .ok (.iload 18, 2) := by decide +kernel
theorem dL_law_1155 : decode cL_law 1155 = .ok (.iconst 1, 1) := by decide +kernel
theorem dL_law_1156 : decode cL_law 1156 = .ok (.iload 24, 2) := by decide +kernel
theorem dL_law_1158 : decode cL_law 1158 = .ok (.iload 20, 2) := by decide +kernel
theorem dL_law_1160 : decode cL_law 1160 = .ok (.iconst 1, 1) := by decide +kernel
theorem dL_law_1161 : decode cL_law 1161 = .ok (.iadd, 1) := by decide +kernel
theorem dL_law_1162 : decode cL_law 1162 = .ok (.invokestatic 152, 3) := by decide +kernel
theorem dL_law_1165 : decode cL_law 1165 = .ok (.iinc 24 1, 3) := by decide +kernel
theorem dL_law_1168 : decode cL_law 1168 = .ok (.goto (-66), 3) := by decide +kernel
theorem dL_law_1171 : decode cL_law 1171 = .ok (.iload 23, 2) := by decide +kernel
theorem dL_law_1173 : decode cL_law 1173 = .ok (.ifCond .lt 32, 3) := by decide +kernel
theorem dL_law_1176 : decode cL_law 1176 = .ok (.aload_n 2, 1) := by decide +kernel
theorem dL_law_1177 : decode cL_law 1177 = .ok (.aload_n 3, 1) := by decide +kernel
theorem dL_law_1178 : decode cL_law 1178 = .ok (.aload 4, 2) := by decide +kernel
theorem dL_law_1180 : decode cL_law 1180 = .ok (.aload 5, 2) := by decide +kernel
theorem dL_law_1182 : decode cL_law 1182 = .ok (.aload 6, 2) := by decide +kernel
theorem dL_law_1184 : decode cL_law 1184 = .ok (.aload 7, 2) := by decide +kernel
theorem dL_law_1186 : decode cL_law 1186 = .ok (.iload 18, 2) := by decide +kernel
theorem dL_law_1188 : decode cL_law 1188 = .ok (.iload 22, 2) := by decide +kernel
theorem dL_law_1190 : decode cL_law 1190 = .ok (.ifCond .eq 7, 3) := by decide +kernel
theorem dL_law_1193 : decode cL_law 1193 = .ok (.iconst 5, 1) := by decide +kernel
theorem dL_law_1194 : decode cL_law 1194 = .ok (.goto 5, 3) := by decide +kernel
theorem dL_law_1197 : decode cL_law 1197 = .ok (.bipush 6, 2) := by decide +kernel
theorem dL_law_1199 : decode cL_law 1199 = .ok (.iload 20, 2) := by decide +kernel
theorem dL_law_1201 : decode cL_law 1201 = .ok (.iconst 0, 1) := by decide +kernel
theorem dL_law_1202 : decode cL_law 1202 = .ok (.invokestatic 152, 3) := by decide +kernel
theorem dL_law_1205 : decode cL_law 1205 = .ok (.aload_n 1, 1) := by decide +kernel
theorem dL_law_1206 : decode cL_law 1206 = .ok (.iload 22, 2) := by decide +kernel
theorem dL_law_1208 : decode cL_law 1208 = .ok (.ifCond .eq 7, 3) := by decide +kernel
theorem dL_law_1211 : decode cL_law 1211 = .ok (.iconst 5, 1) := by decide +kernel
theorem dL_law_1212 : decode cL_law 1212 = .ok (.goto 5, 3) := by decide +kernel
theorem dL_law_1215 : decode cL_law 1215 = .ok (.bipush 6, 2) := by decide +kernel
theorem dL_law_1217 : decode cL_law 1217 = .ok (.iload 18, 2) := by decide +kernel
theorem dL_law_1219 : decode cL_law 1219 = .ok (.iload 20, 2) := by decide +kernel
theorem dL_law_1221 : decode cL_law 1221 = .ok (.iconst 0, 1) := by decide +kernel
theorem dL_law_1222 : decode cL_law 1222 = .ok (.invokestatic 148, 3) := by decide +kernel
theorem dL_law_1225 : decode cL_law 1225 = .ok (.iload 23, 2) := by decide +kernel
theorem dL_law_1227 : decode cL_law 1227 = .ok (.if_icmp .ne 7, 3) := by decide +kernel
theorem dL_law_1230 : decode cL_law 1230 = .ok (.iconst 1, 1) := by decide +kernel
theorem dL_law_1231 : decode cL_law 1231 = .ok (.goto 4, 3) := by decide +kernel
theorem dL_law_1234 : decode cL_law 1234 = .ok (.iconst 0, 1) := by decide +kernel
theorem dL_law_1235 : decode cL_law 1235 = .ok (.istore 13, 2) := by decide +kernel
theorem dL_law_1237 : decode cL_law 1237 = .ok (.goto 193, 3) := by decide +kernel
theorem dL_law_1240 : decode cL_law 1240 = .ok (.iload 17, 2) := by decide +kernel
theorem dL_law_1242 : decode cL_law 1242 = .ok (.iconst 5, 1) := by decide +kernel
theorem dL_law_1243 : decode cL_law 1243 = .ok (.idiv, 1) := by decide +kernel
theorem dL_law_1244 : decode cL_law 1244 = .ok (.iconst 5, 1) := by decide +kernel
theorem dL_law_1245 : decode cL_law 1245 = .ok (.irem, 1) := by decide +kernel
theorem dL_law_1246 : decode cL_law 1246 = .ok (.istore 22, 2) := by decide +kernel
theorem dL_law_1248 : decode cL_law 1248 = .ok (.iconst 0, 1) := by decide +kernel
theorem dL_law_1249 : decode cL_law 1249 = .ok (.istore 23, 2) := by decide +kernel
theorem dL_law_1251 : decode cL_law 1251 = .ok (.iconst 0, 1) := by decide +kernel
theorem dL_law_1252 : decode cL_law 1252 = .ok (.istore 24, 2) := by decide +kernel
theorem dL_law_1254 : decode cL_law 1254 = .ok (.iload 24, 2) := by decide +kernel
theorem dL_law_1256 : decode cL_law 1256 = .ok (.aload_n 2, 1) := by decide +kernel
theorem dL_law_1257 : decode cL_law 1257 = .ok (.iconst 0, 1) := by decide +kernel
theorem dL_law_1258 : decode cL_law 1258 = .ok (.iaload, 1) := by decide +kernel
theorem dL_law_1259 : decode cL_law 1259 = .ok (.if_icmp .ge 96, 3) := by decide +kernel
theorem dL_law_1262 : decode cL_law 1262 = .ok (.iload 18, 2) := by decide +kernel
theorem dL_law_1264 : decode cL_law 1264 = .ok (.iload 22, 2) := by decide +kernel
theorem dL_law_1266 : decode cL_law 1266 = .ok (.if_icmp .eq 89, 3) := by decide +kernel
theorem dL_law_1269 : decode cL_law 1269 = .ok (.aload 5, 2) := by decide +kernel
theorem dL_law_1271 : decode cL_law 1271 = .ok (.iload 24, 2) := by decide +kernel
theorem dL_law_1273 : decode cL_law 1273 = .ok (.iaload, 1) := by decide +kernel
theorem dL_law_1274 : decode cL_law 1274 = .ok (.iload 18, 2) := by decide +kernel
theorem dL_law_1276 : decode cL_law 1276 = .ok (.ishr, 1) := by decide +kernel
theorem dL_law_1277 : decode cL_law 1277 = .ok (.iconst 1, 1) := by decide +kernel
theorem dL_law_1278 : decode cL_law 1278 = .ok (.iand, 1) := by decide +kernel
theorem dL_law_1279 : decode cL_law 1279 = .ok (.aload 5, 2) := by decide +kernel
theorem dL_law_1281 : decode cL_law 1281 = .ok (.iload 24, 2) := by decide +kernel
theorem dL_law_1283 : decode cL_law 1283 = .ok (.iaload, 1) := by decide +kernel
theorem dL_law_1284 : decode cL_law 1284 = .ok (.iload 22, 2) := by decide +kernel
theorem dL_law_1286 : decode cL_law 1286 = .ok (.ishr, 1) := by decide +kernel
theorem dL_law_1287 : decode cL_law 1287 = .ok (.iconst 1, 1) := by decide +kernel
theorem dL_law_1288 : decode cL_law 1288 = .ok (.iand, 1) := by decide +kernel
theorem dL_law_1289 : decode cL_law 1289 = .ok (.ior, 1) := by decide +kernel
theorem dL_law_1290 : decode cL_law 1290 = .ok (.istore 25, 2) := by decide +kernel
theorem dL_law_1292 : decode cL_law 1292 = .ok (.iload 23, 2) := by decide +kernel
theorem dL_law_1294 : decode cL_law 1294 = .ok (.iload 25, 2) := by decide +kernel
theorem dL_law_1296 : decode cL_law 1296 = .ok (.iconst 1, 1) := by decide +kernel
theorem dL_law_1297 : decode cL_law 1297 = .ok (.if_icmp .ne 29, 3) := by decide +kernel
theorem dL_law_1300 : decode cL_law 1300 = .ok (.aload 5, 2) := by decide +kernel
theorem dL_law_1302 : decode cL_law 1302 = .ok (.iload 24, 2) := by decide +kernel
theorem dL_law_1304 : decode cL_law 1304 = .ok (.iaload, 1) := by decide +kernel
theorem dL_law_1305 : decode cL_law 1305 = .ok (.iload 18, 2) := by decide +kernel
theorem dL_law_1307 : decode cL_law 1307 = .ok (.ishr, 1) := by decide +kernel
theorem dL_law_1308 : decode cL_law 1308 = .ok (.aload 5, 2) := by decide +kernel
theorem dL_law_1310 : decode cL_law 1310 = .ok (.iload 24, 2) := by decide +kernel
theorem dL_law_1312 : decode cL_law 1312 = .ok (.iaload, 1) := by decide +kernel
theorem dL_law_1313 : decode cL_law 1313 = .ok (.iload 22, 2) := by decide +kernel
theorem dL_law_1315 : decode cL_law 1315 = .ok (.ishr, 1) := by decide +kernel
theorem dL_law_1316 : decode cL_law 1316 = .ok (.iand, 1) := by decide +kernel
theorem dL_law_1317 : decode cL_law 1317 = .ok (.iconst 1, 1) := by decide +kernel
theorem dL_law_1318 : decode cL_law 1318 = .ok (.iand, 1) := by decide +kernel
theorem dL_law_1319 : decode cL_law 1319 = .ok (.ifCond .ne 7, 3) := by decide +kernel
theorem dL_law_1322 : decode cL_law 1322 = .ok (.iconst 1, 1) := by decide +kernel
theorem dL_law_1323 : decode cL_law 1323 = .ok (.goto 4, 3) := by decide +kernel
theorem dL_law_1326 : decode cL_law 1326 = .ok (.iconst 0, 1) := by decide +kernel
theorem dL_law_1327 : decode cL_law 1327 = .ok (.iadd, 1) := by decide +kernel
theorem dL_law_1328 : decode cL_law 1328 = .ok (.istore 23, 2) := by decide +kernel
theorem dL_law_1330 : decode cL_law 1330 = .ok (.aload 5, 2) := by decide +kernel
theorem dL_law_1332 : decode cL_law 1332 = .ok (.iload 24, 2) := by decide +kernel
theorem dL_law_1334 : decode cL_law 1334 = .ok (.dup2, 1) := by decide +kernel
theorem dL_law_1335 : decode cL_law 1335 = .ok (.iaload, 1) := by decide +kernel
theorem dL_law_1336 : decode cL_law 1336 = .ok (.iload 25, 2) := by decide +kernel
theorem dL_law_1338 : decode cL_law 1338 = .ok (.iload 18, 2) := by decide +kernel
theorem dL_law_1340 : decode cL_law 1340 = .ok (.ishl, 1) := by decide +kernel
theorem dL_law_1341 : decode cL_law 1341 = .ok (.iload 25, 2) := by decide +kernel
theorem dL_law_1343 : decode cL_law 1343 = .ok (.iload 22, 2) := by decide +kernel
theorem dL_law_1345 : decode cL_law 1345 = .ok (.ishl, 1) := by decide +kernel
theorem dL_law_1346 : decode cL_law 1346 = .ok (.ior, 1) := by decide +kernel
theorem dL_law_1347 : decode cL_law 1347 = .ok (.ior, 1) := by decide +kernel
theorem dL_law_1348 : decode cL_law 1348 = .ok (.iastore, 1) := by decide +kernel
theorem dL_law_1349 : decode cL_law 1349 = .ok (.iinc 24 1, 3) := by decide +kernel
theorem dL_law_1352 : decode cL_law 1352 = .ok (.goto (-98), 3) := by decide +kernel
theorem dL_law_1355 : decode cL_law 1355 = .ok (.aload 7, 2) := by decide +kernel
theorem dL_law_1357 : decode cL_law 1357 = .ok (.iload 18, 2) := by decide +kernel
theorem dL_law_1359 : decode cL_law 1359 = .ok (.aload 7, 2) := by decide +kernel
theorem dL_law_1361 : decode cL_law 1361 = .ok (.iload 18, 2) := by decide +kernel
theorem dL_law_1363 : decode cL_law 1363 = .ok (.iaload, 1) := by decide +kernel
theorem dL_law_1364 : decode cL_law 1364 = .ok (.aload 7, 2) := by decide +kernel
theorem dL_law_1366 : decode cL_law 1366 = .ok (.iload 22, 2) := by decide +kernel
theorem dL_law_1368 : decode cL_law 1368 = .ok (.iaload, 1) := by decide +kernel
theorem dL_law_1369 : decode cL_law 1369 = .ok (.if_icmp .le 11, 3) := by decide +kernel
theorem dL_law_1372 : decode cL_law 1372 = .ok (.aload 7, 2) := by decide +kernel
theorem dL_law_1374 : decode cL_law 1374 = .ok (.iload 18, 2) := by decide +kernel
theorem dL_law_1376 : decode cL_law 1376 = .ok (.iaload, 1) := by decide +kernel
theorem dL_law_1377 : decode cL_law 1377 = .ok (.goto 8, 3) := by decide +kernel
theorem dL_law_1380 : decode cL_law 1380 = .ok (.aload 7, 2) := by decide +kernel
theorem dL_law_1382 : decode cL_law 1382 = .ok (.iload 22, 2) := by decide +kernel
theorem dL_law_1384 : decode cL_law 1384 = .ok (.iaload, 1) := by decide +kernel
theorem dL_law_1385 : decode cL_law 1385 = .ok (.iastore, 1) := by decide +kernel
theorem dL_law_1386 : decode cL_law 1386 = .ok (.aload 7, 2) := by decide +kernel
theorem dL_law_1388 : decode cL_law 1388 = .ok (.iload 22, 2) := by decide +kernel
theorem dL_law_1390 : decode cL_law 1390 = .ok (.aload 7, 2) := by decide +kernel
theorem dL_law_1392 : decode cL_law 1392 = .ok (.iload 18, 2) := by decide +kernel
theorem dL_law_1394 : decode cL_law 1394 = .ok (.iaload, 1) := by decide +kernel
theorem dL_law_1395 : decode cL_law 1395 = .ok (.iastore, 1) := by decide +kernel
theorem dL_law_1396 : decode cL_law 1396 = .ok (.aload_n 1, 1) := by decide +kernel
theorem dL_law_1397 : decode cL_law 1397 = .ok (.iconst 2, 1) := by decide +kernel
theorem dL_law_1398 : decode cL_law 1398 = .ok (.iload 18, 2) := by decide +kernel
theorem dL_law_1400 : decode cL_law 1400 = .ok (.iload 22, 2) := by decide +kernel
theorem dL_law_1402 : decode cL_law 1402 = .ok (.iconst 0, 1) := by decide +kernel
theorem dL_law_1403 : decode cL_law 1403 = .ok (.invokestatic 148, 3) := by decide +kernel
theorem dL_law_1406 : decode cL_law 1406 = .ok (.iload 18, 2) := by decide +kernel
theorem dL_law_1408 : decode cL_law 1408 = .ok (.iload 22, 2) := by decide +kernel
theorem dL_law_1410 : decode cL_law 1410 = .ok (.if_icmp .ne 8, 3) := by decide +kernel
theorem dL_law_1413 : decode cL_law 1413 = .ok (.bipush (-12), 2) := by decide +kernel
theorem dL_law_1415 : decode cL_law 1415 = .ok (.goto 5, 3) := by decide +kernel
theorem dL_law_1418 : decode cL_law 1418 = .ok (.iload 23, 2) := by decide +kernel
theorem dL_law_1420 : decode cL_law 1420 = .ok (.if_icmp .ne 7, 3) := by decide +kernel
theorem dL_law_1423 : decode cL_law 1423 = .ok (.iconst 1, 1) := by decide +kernel
theorem dL_law_1424 : decode cL_law 1424 = .ok (.goto 4, 3) := by decide +kernel
theorem dL_law_1427 : decode cL_law 1427 = .ok (.iconst 0, 1) := by decide +kernel
theorem dL_law_1428 : decode cL_law 1428 = .ok (.istore 13, 2) := by decide +kernel
theorem dL_law_1430 : decode cL_law 1430 = .ok (.iload 13, 2) := by decide +kernel
theorem dL_law_1432 : decode cL_law 1432 = .ok (.ifCond .eq 38, 3) := by decide +kernel
theorem dL_law_1435 : decode cL_law 1435 = .ok (.iload 14, 2) := by decide +kernel
theorem dL_law_1437 : decode cL_law 1437 = .ok (.iconst 4, 1) := by decide +kernel
theorem dL_law_1438 : decode cL_law 1438 = .ok (.irem, 1) := by decide +kernel
theorem dL_law_1439 : decode cL_law 1439 = .ok (.iconst 3, 1) := by decide +kernel
theorem dL_law_1440 : decode cL_law 1440 = .ok (.if_icmp .lt 26, 3) := by decide +kernel
theorem dL_law_1443 : decode cL_law 1443 = .ok (.aload_n 1, 1) := by decide +kernel
theorem dL_law_1444 : decode cL_law 1444 = .ok (.aload_n 2, 1) := by decide +kernel
theorem dL_law_1445 : decode cL_law 1445 = .ok (.aload_n 3, 1) := by decide +kernel
theorem dL_law_1446 : decode cL_law 1446 = .ok (.aload 4, 2) := by decide +kernel
theorem dL_law_1448 : decode cL_law 1448 = .ok (.aload 5, 2) := by decide +kernel
theorem dL_law_1450 : decode cL_law 1450 = .ok (.aload 6, 2) := by decide +kernel
theorem dL_law_1452 : decode cL_law 1452 = .ok (.aload 7, 2) := by decide +kernel
theorem dL_law_1454 : decode cL_law 1454 = .ok (.aload 8, 2) := by decide +kernel
theorem dL_law_1456 : decode cL_law 1456 = .ok (.aload 9, 2) := by decide +kernel
theorem dL_law_1458 : decode cL_law 1458 = .ok (.iload 17, 2) := by decide +kernel
theorem dL_law_1460 : decode cL_law 1460 = .ok (.invokestatic 139, 3) := by decide +kernel
theorem dL_law_1463 : decode cL_law 1463 = .ok (.ifCond .eq 7, 3) := by decide +kernel
theorem dL_law_1466 : decode cL_law 1466 = .ok (.iconst 1, 1) := by decide +kernel
theorem dL_law_1467 : decode cL_law 1467 = .ok (.goto 4, 3) := by decide +kernel
theorem dL_law_1470 : decode cL_law 1470 = .ok (.iconst 0, 1) := by decide +kernel
theorem dL_law_1471 : decode cL_law 1471 = .ok (.istore 13, 2) := by decide +kernel
theorem dL_law_1473 : decode cL_law 1473 = .ok (.iinc 14 1, 3) := by decide +kernel
theorem dL_law_1476 : decode cL_law 1476 = .ok (.goto (-1382), 3) := by decide +kernel
theorem dL_law_1479 : decode cL_law 1479 = .ok (.iload 13, 2) := by decide +kernel
theorem dL_law_1481 : decode cL_law 1481 = .ok (.ifCond .eq 30, 3) := by decide +kernel
theorem dL_law_1484 : decode cL_law 1484 = .ok (.aload_n 1, 1) := by decide +kernel
theorem dL_law_1485 : decode cL_law 1485 = .ok (.aload_n 2, 1) := by decide +kernel
theorem dL_law_1486 : decode cL_law 1486 = .ok (.aload_n 3, 1) := by decide +kernel
theorem dL_law_1487 : decode cL_law 1487 = .ok (.aload 4, 2) := by decide +kernel
theorem dL_law_1489 : decode cL_law 1489 = .ok (.aload 5, 2) := by decide +kernel
theorem dL_law_1491 : decode cL_law 1491 = .ok (.aload 6, 2) := by decide +kernel
theorem dL_law_1493 : decode cL_law 1493 = .ok (.aload 7, 2) := by decide +kernel
theorem dL_law_1495 : decode cL_law 1495 = .ok (.aload 8, 2) := by decide +kernel
theorem dL_law_1497 : decode cL_law 1497 = .ok (.aload 9, 2) := by decide +kernel
theorem dL_law_1499 : decode cL_law 1499 = .ok (.bipush 7, 2) := by decide +kernel
theorem dL_law_1501 : decode cL_law 1501 = .ok (.invokestatic 139, 3) := by decide +kernel
theorem dL_law_1504 : decode cL_law 1504 = .ok (.ifCond .eq 7, 3) := by decide +kernel
theorem dL_law_1507 : decode cL_law 1507 = .ok (.iconst 1, 1) := by decide +kernel
theorem dL_law_1508 : decode cL_law 1508 = .ok (.goto 4, 3) := by decide +kernel
theorem dL_law_1511 : decode cL_law 1511 = .ok (.iconst 0, 1) := by decide +kernel
theorem dL_law_1512 : decode cL_law 1512 = .ok (.ireturn, 1) := by decide +kernel
