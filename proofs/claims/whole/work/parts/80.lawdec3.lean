theorem d_LW_law_1166 : decode code 1166 = .ok (.aload_n 0, 1) := by decide +kernel
theorem d_LW_law_1167 : decode code 1167 = .ok (.iload 4, 2) := by decide +kernel
theorem d_LW_law_1169 : decode code 1169 = .ok (.iconst 2, 1) := by decide +kernel
theorem d_LW_law_1170 : decode code 1170 = .ok (.iadd, 1) := by decide +kernel
theorem d_LW_law_1171 : decode code 1171 = .ok (.iaload, 1) := by decide +kernel
theorem d_LW_law_1172 : decode code 1172 = .ok (.invokevirtual 135, 3) := by decide +kernel
theorem d_LW_law_1175 : decode code 1175 = .ok (.istore 6, 2) := by decide +kernel
theorem d_LW_law_1177 : decode code 1177 = .ok (.aload_n 2, 1) := by decide +kernel
theorem d_LW_law_1178 : decode code 1178 = .ok (.invokevirtual 88, 3) := by decide +kernel
theorem d_LW_law_1181 : decode code 1181 = .ok (.iload 5, 2) := by decide +kernel
theorem d_LW_law_1183 : decode code 1183 = .ok (.if_icmp .eq 5, 3) := by decide +kernel
theorem d_LW_law_1186 : decode code 1186 = .ok (.iconst 0, 1) := by decide +kernel
theorem d_LW_law_1187 : decode code 1187 = .ok (.ireturn, 1) := by decide +kernel
theorem d_LW_law_1188 : decode code 1188 = .ok (.iload 5, 2) := by decide +kernel
theorem d_LW_law_1190 : decode code 1190 = .ok (.ifCond .ne 15, 3) := by decide +kernel
theorem d_LW_law_1193 : decode code 1193 = .ok (.aload_n 3, 1) := by decide +kernel
theorem d_LW_law_1194 : decode code 1194 = .ok (.iconst 0, 1) := by decide +kernel
theorem d_LW_law_1195 : decode code 1195 = .ok (.laload, 1) := by decide +kernel
theorem d_LW_law_1196 : decode code 1196 = .ok (.iload 6, 2) := by decide +kernel
theorem d_LW_law_1198 : decode code 1198 = .ok (.i2l, 1) := by decide +kernel
theorem d_LW_law_1199 : decode code 1199 = .ok (.lcmp, 1) := by decide +kernel
theorem d_LW_law_1200 : decode code 1200 = .ok (.ifCond .eq 5, 3) := by decide +kernel
theorem d_LW_law_1203 : decode code 1203 = .ok (.iconst 0, 1) := by decide +kernel
theorem d_LW_law_1204 : decode code 1204 = .ok (.ireturn, 1) := by decide +kernel
theorem d_LW_law_1205 : decode code 1205 = .ok (.goto 279, 3) := by decide +kernel
theorem d_LW_law_1208 : decode code 1208 = .ok (.aload_n 1, 1) := by decide +kernel
theorem d_LW_law_1209 : decode code 1209 = .ok (.aload_n 0, 1) := by decide +kernel
theorem d_LW_law_1210 : decode code 1210 = .ok (.iload 4, 2) := by decide +kernel
theorem d_LW_law_1212 : decode code 1212 = .ok (.iconst 1, 1) := by decide +kernel
theorem d_LW_law_1213 : decode code 1213 = .ok (.iadd, 1) := by decide +kernel
theorem d_LW_law_1214 : decode code 1214 = .ok (.iaload, 1) := by decide +kernel
theorem d_LW_law_1215 : decode code 1215 = .ok (.aload_n 0, 1) := by decide +kernel
theorem d_LW_law_1216 : decode code 1216 = .ok (.iload 4, 2) := by decide +kernel
theorem d_LW_law_1218 : decode code 1218 = .ok (.iconst 2, 1) := by decide +kernel
theorem d_LW_law_1219 : decode code 1219 = .ok (.iadd, 1) := by decide +kernel
theorem d_LW_law_1220 : decode code 1220 = .ok (.iaload, 1) := by decide +kernel
theorem d_LW_law_1221 : decode code 1221 = .ok (.aload_n 0, 1) := by decide +kernel
theorem d_LW_law_1222 : decode code 1222 = .ok (.iload 4, 2) := by decide +kernel
theorem d_LW_law_1224 : decode code 1224 = .ok (.iconst 3, 1) := by decide +kernel
theorem d_LW_law_1225 : decode code 1225 = .ok (.iadd, 1) := by decide +kernel
theorem d_LW_law_1226 : decode code 1226 = .ok (.iaload, 1) := by decide +kernel
theorem d_LW_law_1227 : decode code 1227 = .ok (.aload_n 0, 1) := by decide +kernel
theorem d_LW_law_1228 : decode code 1228 = .ok (.iload 4, 2) := by decide +kernel
theorem d_LW_law_1230 : decode code 1230 = .ok (.iconst 4, 1) := by decide +kernel
theorem d_LW_law_1231 : decode code 1231 = .ok (.iadd, 1) := by decide +kernel
theorem d_LW_law_1232 : decode code 1232 = .ok (.iaload, 1) := by decide +kernel
theorem d_LW_law_1233 : decode code 1233 = .ok (.aload_n 3, 1) := by decide +kernel
theorem d_LW_law_1234 : decode code 1234 = .ok (.invokestatic 136, 3) := by decide +kernel
theorem d_LW_law_1237 : decode code 1237 = .ok (.istore 5, 2) := by decide +kernel
theorem d_LW_law_1239 : decode code 1239 = .ok (.aload_n 2, 1) := by decide +kernel
theorem d_LW_law_1240 : decode code 1240 = .ok (.aload_n 0, 1) := by decide +kernel
theorem d_LW_law_1241 : decode code 1241 = .ok (.iload 4, 2) := by decide +kernel
theorem d_LW_law_1243 : decode code 1243 = .ok (.iconst 1, 1) := by decide +kernel
theorem d_LW_law_1244 : decode code 1244 = .ok (.iadd, 1) := by decide +kernel
theorem d_LW_law_1245 : decode code 1245 = .ok (.iaload, 1) := by decide +kernel
theorem d_LW_law_1246 : decode code 1246 = .ok (.aload_n 0, 1) := by decide +kernel
theorem d_LW_law_1247 : decode code 1247 = .ok (.iload 4, 2) := by decide +kernel
theorem d_LW_law_1249 : decode code 1249 = .ok (.iconst 2, 1) := by decide +kernel
theorem d_LW_law_1250 : decode code 1250 = .ok (.iadd, 1) := by decide +kernel
theorem d_LW_law_1251 : decode code 1251 = .ok (.iaload, 1) := by decide +kernel
theorem d_LW_law_1252 : decode code 1252 = .ok (.aload_n 0, 1) := by decide +kernel
theorem d_LW_law_1253 : decode code 1253 = .ok (.iload 4, 2) := by decide +kernel
theorem d_LW_law_1255 : decode code 1255 = .ok (.iconst 3, 1) := by decide +kernel
theorem d_LW_law_1256 : decode code 1256 = .ok (.iadd, 1) := by decide +kernel
theorem d_LW_law_1257 : decode code 1257 = .ok (.iaload, 1) := by decide +kernel
theorem d_LW_law_1258 : decode code 1258 = .ok (.aload_n 0, 1) := by decide +kernel
theorem d_LW_law_1259 : decode code 1259 = .ok (.iload 4, 2) := by decide +kernel
theorem d_LW_law_1261 : decode code 1261 = .ok (.iconst 4, 1) := by decide +kernel
theorem d_LW_law_1262 : decode code 1262 = .ok (.iadd, 1) := by decide +kernel
theorem d_LW_law_1263 : decode code 1263 = .ok (.iaload, 1) := by decide +kernel
theorem d_LW_law_1264 : decode code 1264 = .ok (.invokevirtual 138, 3) := by decide +kernel
theorem d_LW_law_1267 : decode code 1267 = .ok (.istore 6, 2) := by decide +kernel
theorem d_LW_law_1269 : decode code 1269 = .ok (.aload_n 2, 1) := by decide +kernel
theorem d_LW_law_1270 : decode code 1270 = .ok (.invokevirtual 88, 3) := by decide +kernel
theorem d_LW_law_1273 : decode code 1273 = .ok (.iload 5, 2) := by decide +kernel
theorem d_LW_law_1275 : decode code 1275 = .ok (.if_icmp .eq 5, 3) := by decide +kernel
theorem d_LW_law_1278 : decode code 1278 = .ok (.iconst 0, 1) := by decide +kernel
theorem d_LW_law_1279 : decode code 1279 = .ok (.ireturn, 1) := by decide +kernel
theorem d_LW_law_1280 : decode code 1280 = .ok (.iload 5, 2) := by decide +kernel
theorem d_LW_law_1282 : decode code 1282 = .ok (.ifCond .ne 15, 3) := by decide +kernel
theorem d_LW_law_1285 : decode code 1285 = .ok (.aload_n 3, 1) := by decide +kernel
theorem d_LW_law_1286 : decode code 1286 = .ok (.iconst 0, 1) := by decide +kernel
theorem d_LW_law_1287 : decode code 1287 = .ok (.laload, 1) := by decide +kernel
theorem d_LW_law_1288 : decode code 1288 = .ok (.iload 6, 2) := by decide +kernel
theorem d_LW_law_1290 : decode code 1290 = .ok (.i2l, 1) := by decide +kernel
theorem d_LW_law_1291 : decode code 1291 = .ok (.lcmp, 1) := by decide +kernel
theorem d_LW_law_1292 : decode code 1292 = .ok (.ifCond .eq 5, 3) := by decide +kernel
theorem d_LW_law_1295 : decode code 1295 = .ok (.iconst 0, 1) := by decide +kernel
theorem d_LW_law_1296 : decode code 1296 = .ok (.ireturn, 1) := by decide +kernel
theorem d_LW_law_1297 : decode code 1297 = .ok (.goto 187, 3) := by decide +kernel
theorem d_LW_law_1300 : decode code 1300 = .ok (.aload_n 1, 1) := by decide +kernel
theorem d_LW_law_1301 : decode code 1301 = .ok (.aload_n 0, 1) := by decide +kernel
theorem d_LW_law_1302 : decode code 1302 = .ok (.iload 4, 2) := by decide +kernel
theorem d_LW_law_1304 : decode code 1304 = .ok (.iconst 1, 1) := by decide +kernel
theorem d_LW_law_1305 : decode code 1305 = .ok (.iadd, 1) := by decide +kernel
theorem d_LW_law_1306 : decode code 1306 = .ok (.iaload, 1) := by decide +kernel
theorem d_LW_law_1307 : decode code 1307 = .ok (.aload_n 0, 1) := by decide +kernel
theorem d_LW_law_1308 : decode code 1308 = .ok (.iload 4, 2) := by decide +kernel
theorem d_LW_law_1310 : decode code 1310 = .ok (.iconst 2, 1) := by decide +kernel
theorem d_LW_law_1311 : decode code 1311 = .ok (.iadd, 1) := by decide +kernel
theorem d_LW_law_1312 : decode code 1312 = .ok (.iaload, 1) := by decide +kernel
theorem d_LW_law_1313 : decode code 1313 = .ok (.aload_n 3, 1) := by decide +kernel
theorem d_LW_law_1314 : decode code 1314 = .ok (.invokestatic 139, 3) := by decide +kernel
theorem d_LW_law_1317 : decode code 1317 = .ok (.istore 5, 2) := by decide +kernel
theorem d_LW_law_1319 : decode code 1319 = .ok (.aload_n 2, 1) := by decide +kernel
theorem d_LW_law_1320 : decode code 1320 = .ok (.aload_n 0, 1) := by decide +kernel
theorem d_LW_law_1321 : decode code 1321 = .ok (.iload 4, 2) := by decide +kernel
theorem d_LW_law_1323 : decode code 1323 = .ok (.iconst 1, 1) := by decide +kernel
theorem d_LW_law_1324 : decode code 1324 = .ok (.iadd, 1) := by decide +kernel
theorem d_LW_law_1325 : decode code 1325 = .ok (.iaload, 1) := by decide +kernel
theorem d_LW_law_1326 : decode code 1326 = .ok (.aload_n 0, 1) := by decide +kernel
theorem d_LW_law_1327 : decode code 1327 = .ok (.iload 4, 2) := by decide +kernel
theorem d_LW_law_1329 : decode code 1329 = .ok (.iconst 2, 1) := by decide +kernel
theorem d_LW_law_1330 : decode code 1330 = .ok (.iadd, 1) := by decide +kernel
theorem d_LW_law_1331 : decode code 1331 = .ok (.iaload, 1) := by decide +kernel
theorem d_LW_law_1332 : decode code 1332 = .ok (.invokevirtual 141, 3) := by decide +kernel
theorem d_LW_law_1335 : decode code 1335 = .ok (.istore 6, 2) := by decide +kernel
theorem d_LW_law_1337 : decode code 1337 = .ok (.aload_n 2, 1) := by decide +kernel
theorem d_LW_law_1338 : decode code 1338 = .ok (.invokevirtual 88, 3) := by decide +kernel
theorem d_LW_law_1341 : decode code 1341 = .ok (.iload 5, 2) := by decide +kernel
theorem d_LW_law_1343 : decode code 1343 = .ok (.if_icmp .eq 5, 3) := by decide +kernel
theorem d_LW_law_1346 : decode code 1346 = .ok (.iconst 0, 1) := by decide +kernel
theorem d_LW_law_1347 : decode code 1347 = .ok (.ireturn, 1) := by decide +kernel
theorem d_LW_law_1348 : decode code 1348 = .ok (.iload 5, 2) := by decide +kernel
theorem d_LW_law_1350 : decode code 1350 = .ok (.ifCond .ne 15, 3) := by decide +kernel
theorem d_LW_law_1353 : decode code 1353 = .ok (.aload_n 3, 1) := by decide +kernel
theorem d_LW_law_1354 : decode code 1354 = .ok (.iconst 0, 1) := by decide +kernel
theorem d_LW_law_1355 : decode code 1355 = .ok (.laload, 1) := by decide +kernel
theorem d_LW_law_1356 : decode code 1356 = .ok (.iload 6, 2) := by decide +kernel
theorem d_LW_law_1358 : decode code 1358 = .ok (.i2l, 1) := by decide +kernel
theorem d_LW_law_1359 : decode code 1359 = .ok (.lcmp, 1) := by decide +kernel
theorem d_LW_law_1360 : decode code 1360 = .ok (.ifCond .eq 5, 3) := by decide +kernel
theorem d_LW_law_1363 : decode code 1363 = .ok (.iconst 0, 1) := by decide +kernel
theorem d_LW_law_1364 : decode code 1364 = .ok (.ireturn, 1) := by decide +kernel
theorem d_LW_law_1365 : decode code 1365 = .ok (.goto 119, 3) := by decide +kernel
theorem d_LW_law_1368 : decode code 1368 = .ok (.aload_n 1, 1) := by decide +kernel
theorem d_LW_law_1369 : decode code 1369 = .ok (.aload_n 0, 1) := by decide +kernel
theorem d_LW_law_1370 : decode code 1370 = .ok (.iload 4, 2) := by decide +kernel
theorem d_LW_law_1372 : decode code 1372 = .ok (.iconst 1, 1) := by decide +kernel
theorem d_LW_law_1373 : decode code 1373 = .ok (.iadd, 1) := by decide +kernel
theorem d_LW_law_1374 : decode code 1374 = .ok (.iaload, 1) := by decide +kernel
theorem d_LW_law_1375 : decode code 1375 = .ok (.aload_n 0, 1) := by decide +kernel
theorem d_LW_law_1376 : decode code 1376 = .ok (.iload 4, 2) := by decide +kernel
theorem d_LW_law_1378 : decode code 1378 = .ok (.iconst 2, 1) := by decide +kernel
theorem d_LW_law_1379 : decode code 1379 = .ok (.iadd, 1) := by decide +kernel
theorem d_LW_law_1380 : decode code 1380 = .ok (.iaload, 1) := by decide +kernel
theorem d_LW_law_1381 : decode code 1381 = .ok (.aload_n 0, 1) := by decide +kernel
theorem d_LW_law_1382 : decode code 1382 = .ok (.iload 4, 2) := by decide +kernel
theorem d_LW_law_1384 : decode code 1384 = .ok (.iconst 3, 1) := by decide +kernel
theorem d_LW_law_1385 : decode code 1385 = .ok (.iadd, 1) := by decide +kernel
theorem d_LW_law_1386 : decode code 1386 = .ok (.iaload, 1) := by decide +kernel
theorem d_LW_law_1387 : decode code 1387 = .ok (.invokestatic 142, 3) := by decide +kernel
theorem d_LW_law_1390 : decode code 1390 = .ok (.istore 5, 2) := by decide +kernel
theorem d_LW_law_1392 : decode code 1392 = .ok (.aload_n 2, 1) := by decide +kernel
theorem d_LW_law_1393 : decode code 1393 = .ok (.aload_n 0, 1) := by decide +kernel
theorem d_LW_law_1394 : decode code 1394 = .ok (.iload 4, 2) := by decide +kernel
theorem d_LW_law_1396 : decode code 1396 = .ok (.iconst 1, 1) := by decide +kernel
theorem d_LW_law_1397 : decode code 1397 = .ok (.iadd, 1) := by decide +kernel
theorem d_LW_law_1398 : decode code 1398 = .ok (.iaload, 1) := by decide +kernel
theorem d_LW_law_1399 : decode code 1399 = .ok (.aload_n 0, 1) := by decide +kernel
theorem d_LW_law_1400 : decode code 1400 = .ok (.iload 4, 2) := by decide +kernel
theorem d_LW_law_1402 : decode code 1402 = .ok (.iconst 2, 1) := by decide +kernel
theorem d_LW_law_1403 : decode code 1403 = .ok (.iadd, 1) := by decide +kernel
theorem d_LW_law_1404 : decode code 1404 = .ok (.iaload, 1) := by decide +kernel
theorem d_LW_law_1405 : decode code 1405 = .ok (.aload_n 0, 1) := by decide +kernel
theorem d_LW_law_1406 : decode code 1406 = .ok (.iload 4, 2) := by decide +kernel
theorem d_LW_law_1408 : decode code 1408 = .ok (.iconst 3, 1) := by decide +kernel
theorem d_LW_law_1409 : decode code 1409 = .ok (.iadd, 1) := by decide +kernel
theorem d_LW_law_1410 : decode code 1410 = .ok (.iaload, 1) := by decide +kernel
theorem d_LW_law_1411 : decode code 1411 = .ok (.invokevirtual 145, 3) := by decide +kernel
theorem d_LW_law_1414 : decode code 1414 = .ok (.aload_n 2, 1) := by decide +kernel
theorem d_LW_law_1415 : decode code 1415 = .ok (.invokevirtual 88, 3) := by decide +kernel
theorem d_LW_law_1418 : decode code 1418 = .ok (.iload 5, 2) := by decide +kernel
theorem d_LW_law_1420 : decode code 1420 = .ok (.if_icmp .eq 5, 3) := by decide +kernel
theorem d_LW_law_1423 : decode code 1423 = .ok (.iconst 0, 1) := by decide +kernel
theorem d_LW_law_1424 : decode code 1424 = .ok (.ireturn, 1) := by decide +kernel
theorem d_LW_law_1425 : decode code 1425 = .ok (.goto 59, 3) := by decide +kernel
theorem d_LW_law_1428 : decode code 1428 = .ok (.aload_n 1, 1) := by decide +kernel
theorem d_LW_law_1429 : decode code 1429 = .ok (.aload_n 0, 1) := by decide +kernel
theorem d_LW_law_1430 : decode code 1430 = .ok (.iload 4, 2) := by decide +kernel
theorem d_LW_law_1432 : decode code 1432 = .ok (.iconst 1, 1) := by decide +kernel
theorem d_LW_law_1433 : decode code 1433 = .ok (.iadd, 1) := by decide +kernel
theorem d_LW_law_1434 : decode code 1434 = .ok (.iaload, 1) := by decide +kernel
theorem d_LW_law_1435 : decode code 1435 = .ok (.aload_n 3, 1) := by decide +kernel
theorem d_LW_law_1436 : decode code 1436 = .ok (.invokestatic 146, 3) := by decide +kernel
theorem d_LW_law_1439 : decode code 1439 = .ok (.istore 5, 2) := by decide +kernel
theorem d_LW_law_1441 : decode code 1441 = .ok (.aload_n 2, 1) := by decide +kernel
theorem d_LW_law_1442 : decode code 1442 = .ok (.aload_n 0, 1) := by decide +kernel
theorem d_LW_law_1443 : decode code 1443 = .ok (.iload 4, 2) := by decide +kernel
theorem d_LW_law_1445 : decode code 1445 = .ok (.iconst 1, 1) := by decide +kernel
theorem d_LW_law_1446 : decode code 1446 = .ok (.iadd, 1) := by decide +kernel
theorem d_LW_law_1447 : decode code 1447 = .ok (.iaload, 1) := by decide +kernel
theorem d_LW_law_1448 : decode code 1448 = .ok (.invokevirtual 148, 3) := by decide +kernel
theorem d_LW_law_1451 : decode code 1451 = .ok (.istore 6, 2) := by decide +kernel
theorem d_LW_law_1453 : decode code 1453 = .ok (.aload_n 2, 1) := by decide +kernel
theorem d_LW_law_1454 : decode code 1454 = .ok (.invokevirtual 88, 3) := by decide +kernel
theorem d_LW_law_1457 : decode code 1457 = .ok (.iload 5, 2) := by decide +kernel
theorem d_LW_law_1459 : decode code 1459 = .ok (.if_icmp .eq 5, 3) := by decide +kernel
theorem d_LW_law_1462 : decode code 1462 = .ok (.iconst 0, 1) := by decide +kernel
theorem d_LW_law_1463 : decode code 1463 = .ok (.ireturn, 1) := by decide +kernel
theorem d_LW_law_1464 : decode code 1464 = .ok (.iload 5, 2) := by decide +kernel
theorem d_LW_law_1466 : decode code 1466 = .ok (.ifCond .ne 15, 3) := by decide +kernel
theorem d_LW_law_1469 : decode code 1469 = .ok (.aload_n 3, 1) := by decide +kernel
theorem d_LW_law_1470 : decode code 1470 = .ok (.iconst 0, 1) := by decide +kernel
theorem d_LW_law_1471 : decode code 1471 = .ok (.laload, 1) := by decide +kernel
theorem d_LW_law_1472 : decode code 1472 = .ok (.iload 6, 2) := by decide +kernel
theorem d_LW_law_1474 : decode code 1474 = .ok (.i2l, 1) := by decide +kernel
theorem d_LW_law_1475 : decode code 1475 = .ok (.lcmp, 1) := by decide +kernel
theorem d_LW_law_1476 : decode code 1476 = .ok (.ifCond .eq 5, 3) := by decide +kernel
theorem d_LW_law_1479 : decode code 1479 = .ok (.iconst 0, 1) := by decide +kernel
theorem d_LW_law_1480 : decode code 1480 = .ok (.ireturn, 1) := by decide +kernel
theorem d_LW_law_1481 : decode code 1481 = .ok (.goto 3, 3) := by decide +kernel
theorem d_LW_law_1484 : decode code 1484 = .ok (.iinc 4 6, 3) := by decide +kernel
theorem d_LW_law_1487 : decode code 1487 = .ok (.goto (-1464), 3) := by decide +kernel
theorem d_LW_law_1490 : decode code 1490 = .ok (.iconst 1, 1) := by decide +kernel
theorem d_LW_law_1491 : decode code 1491 = .ok (.ireturn, 1) := by decide +kernel
