/-! decode rows of the law, by program: 3 -/
theorem dW_law_1237 : decode (zby mW_law) 1237 = .ok (.iconst 1, 1) := by decide +kernel
theorem dW_law_1238 : decode (zby mW_law) 1238 = .ok (.iadd, 1) := by decide +kernel
theorem dW_law_1239 : decode (zby mW_law) 1239 = .ok (.iaload, 1) := by decide +kernel
theorem dW_law_1240 : decode (zby mW_law) 1240 = .ok (.aload_n 3, 1) := by decide +kernel
theorem dW_law_1241 : decode (zby mW_law) 1241 = .ok (.invokestatic 237, 3) := by decide +kernel
theorem dW_law_1244 : decode (zby mW_law) 1244 = .ok (.istore 6, 2) := by decide +kernel
theorem dW_law_1246 : decode (zby mW_law) 1246 = .ok (.aload_n 2, 1) := by decide +kernel
theorem dW_law_1247 : decode (zby mW_law) 1247 = .ok (.aload_n 0, 1) := by decide +kernel
theorem dW_law_1248 : decode (zby mW_law) 1248 = .ok (.iload 5, 2) := by decide +kernel
theorem dW_law_1250 : decode (zby mW_law) 1250 = .ok (.iconst 1, 1) := by decide +kernel
theorem dW_law_1251 : decode (zby mW_law) 1251 = .ok (.iadd, 1) := by decide +kernel
theorem dW_law_1252 : decode (zby mW_law) 1252 = .ok (.iaload, 1) := by decide +kernel
theorem dW_law_1253 : decode (zby mW_law) 1253 = .ok (.invokevirtual 239, 3) := by decide +kernel
theorem dW_law_1256 : decode (zby mW_law) 1256 = .ok (.istore 7, 2) := by decide +kernel
theorem dW_law_1258 : decode (zby mW_law) 1258 = .ok (.aload_n 2, 1) := by decide +kernel
theorem dW_law_1259 : decode (zby mW_law) 1259 = .ok (.invokevirtual 183, 3) := by decide +kernel
theorem dW_law_1262 : decode (zby mW_law) 1262 = .ok (.iload 6, 2) := by decide +kernel
theorem dW_law_1264 : decode (zby mW_law) 1264 = .ok (.if_icmp .eq 5, 3) := by decide +kernel
theorem dW_law_1269 : decode (zby mW_law) 1269 = .ok (.iload 6, 2) := by decide +kernel
theorem dW_law_1271 : decode (zby mW_law) 1271 = .ok (.ifCond .ne 15, 3) := by decide +kernel
theorem dW_law_1274 : decode (zby mW_law) 1274 = .ok (.aload_n 3, 1) := by decide +kernel
theorem dW_law_1275 : decode (zby mW_law) 1275 = .ok (.iconst 0, 1) := by decide +kernel
theorem dW_law_1276 : decode (zby mW_law) 1276 = .ok (.laload, 1) := by decide +kernel
theorem dW_law_1277 : decode (zby mW_law) 1277 = .ok (.iload 7, 2) := by decide +kernel
theorem dW_law_1279 : decode (zby mW_law) 1279 = .ok (.i2l, 1) := by decide +kernel
theorem dW_law_1280 : decode (zby mW_law) 1280 = .ok (.lcmp, 1) := by decide +kernel
theorem dW_law_1281 : decode (zby mW_law) 1281 = .ok (.ifCond .eq 5, 3) := by decide +kernel
theorem dW_law_1286 : decode (zby mW_law) 1286 = .ok (.goto 1974, 3) := by decide +kernel
theorem dW_law_1289 : decode (zby mW_law) 1289 = .ok (.aload_n 1, 1) := by decide +kernel
theorem dW_law_1290 : decode (zby mW_law) 1290 = .ok (.aload_n 0, 1) := by decide +kernel
theorem dW_law_1291 : decode (zby mW_law) 1291 = .ok (.iload 5, 2) := by decide +kernel
theorem dW_law_1293 : decode (zby mW_law) 1293 = .ok (.iconst 1, 1) := by decide +kernel
theorem dW_law_1294 : decode (zby mW_law) 1294 = .ok (.iadd, 1) := by decide +kernel
theorem dW_law_1295 : decode (zby mW_law) 1295 = .ok (.iaload, 1) := by decide +kernel
theorem dW_law_1296 : decode (zby mW_law) 1296 = .ok (.aload_n 0, 1) := by decide +kernel
theorem dW_law_1297 : decode (zby mW_law) 1297 = .ok (.iload 5, 2) := by decide +kernel
theorem dW_law_1299 : decode (zby mW_law) 1299 = .ok (.iconst 2, 1) := by decide +kernel
theorem dW_law_1300 : decode (zby mW_law) 1300 = .ok (.iadd, 1) := by decide +kernel
theorem dW_law_1301 : decode (zby mW_law) 1301 = .ok (.iaload, 1) := by decide +kernel
theorem dW_law_1302 : decode (zby mW_law) 1302 = .ok (.aload_n 3, 1) := by decide +kernel
theorem dW_law_1303 : decode (zby mW_law) 1303 = .ok (.invokestatic 240, 3) := by decide +kernel
theorem dW_law_1306 : decode (zby mW_law) 1306 = .ok (.istore 6, 2) := by decide +kernel
theorem dW_law_1308 : decode (zby mW_law) 1308 = .ok (.aload_n 2, 1) := by decide +kernel
theorem dW_law_1309 : decode (zby mW_law) 1309 = .ok (.aload_n 0, 1) := by decide +kernel
theorem dW_law_1310 : decode (zby mW_law) 1310 = .ok (.iload 5, 2) := by decide +kernel
theorem dW_law_1312 : decode (zby mW_law) 1312 = .ok (.iconst 1, 1) := by decide +kernel
theorem dW_law_1313 : decode (zby mW_law) 1313 = .ok (.iadd, 1) := by decide +kernel
theorem dW_law_1314 : decode (zby mW_law) 1314 = .ok (.iaload, 1) := by decide +kernel
theorem dW_law_1315 : decode (zby mW_law) 1315 = .ok (.aload_n 0, 1) := by decide +kernel
theorem dW_law_1316 : decode (zby mW_law) 1316 = .ok (.iload 5, 2) := by decide +kernel
theorem dW_law_1318 : decode (zby mW_law) 1318 = .ok (.iconst 2, 1) := by decide +kernel
theorem dW_law_1319 : decode (zby mW_law) 1319 = .ok (.iadd, 1) := by decide +kernel
theorem dW_law_1320 : decode (zby mW_law) 1320 = .ok (.iaload, 1) := by decide +kernel
theorem dW_law_1321 : decode (zby mW_law) 1321 = .ok (.invokevirtual 242, 3) := by decide +kernel
theorem dW_law_1324 : decode (zby mW_law) 1324 = .ok (.istore 7, 2) := by decide +kernel
theorem dW_law_1326 : decode (zby mW_law) 1326 = .ok (.aload_n 2, 1) := by decide +kernel
theorem dW_law_1327 : decode (zby mW_law) 1327 = .ok (.invokevirtual 183, 3) := by decide +kernel
theorem dW_law_1330 : decode (zby mW_law) 1330 = .ok (.iload 6, 2) := by decide +kernel
theorem dW_law_1332 : decode (zby mW_law) 1332 = .ok (.if_icmp .eq 5, 3) := by decide +kernel
theorem dW_law_1337 : decode (zby mW_law) 1337 = .ok (.iload 6, 2) := by decide +kernel
theorem dW_law_1339 : decode (zby mW_law) 1339 = .ok (.ifCond .ne 15, 3) := by decide +kernel
theorem dW_law_1342 : decode (zby mW_law) 1342 = .ok (.aload_n 3, 1) := by decide +kernel
theorem dW_law_1343 : decode (zby mW_law) 1343 = .ok (.iconst 0, 1) := by decide +kernel
theorem dW_law_1344 : decode (zby mW_law) 1344 = .ok (.laload, 1) := by decide +kernel
theorem dW_law_1345 : decode (zby mW_law) 1345 = .ok (.iload 7, 2) := by decide +kernel
theorem dW_law_1347 : decode (zby mW_law) 1347 = .ok (.i2l, 1) := by decide +kernel
theorem dW_law_1348 : decode (zby mW_law) 1348 = .ok (.lcmp, 1) := by decide +kernel
theorem dW_law_1349 : decode (zby mW_law) 1349 = .ok (.ifCond .eq 5, 3) := by decide +kernel
theorem dW_law_1354 : decode (zby mW_law) 1354 = .ok (.goto 1906, 3) := by decide +kernel
theorem dW_law_1357 : decode (zby mW_law) 1357 = .ok (.aload_n 1, 1) := by decide +kernel
theorem dW_law_1358 : decode (zby mW_law) 1358 = .ok (.aload_n 0, 1) := by decide +kernel
theorem dW_law_1359 : decode (zby mW_law) 1359 = .ok (.iload 5, 2) := by decide +kernel
theorem dW_law_1361 : decode (zby mW_law) 1361 = .ok (.iconst 1, 1) := by decide +kernel
theorem dW_law_1362 : decode (zby mW_law) 1362 = .ok (.iadd, 1) := by decide +kernel
theorem dW_law_1363 : decode (zby mW_law) 1363 = .ok (.iaload, 1) := by decide +kernel
theorem dW_law_1364 : decode (zby mW_law) 1364 = .ok (.aload_n 0, 1) := by decide +kernel
theorem dW_law_1365 : decode (zby mW_law) 1365 = .ok (.iload 5, 2) := by decide +kernel
theorem dW_law_1367 : decode (zby mW_law) 1367 = .ok (.iconst 2, 1) := by decide +kernel
theorem dW_law_1368 : decode (zby mW_law) 1368 = .ok (.iadd, 1) := by decide +kernel
theorem dW_law_1369 : decode (zby mW_law) 1369 = .ok (.iaload, 1) := by decide +kernel
theorem dW_law_1370 : decode (zby mW_law) 1370 = .ok (.aload_n 3, 1) := by decide +kernel
theorem dW_law_1371 : decode (zby mW_law) 1371 = .ok (.invokestatic 243, 3) := by decide +kernel
theorem dW_law_1374 : decode (zby mW_law) 1374 = .ok (.istore 6, 2) := by decide +kernel
theorem dW_law_1376 : decode (zby mW_law) 1376 = .ok (.aload_n 2, 1) := by decide +kernel
theorem dW_law_1377 : decode (zby mW_law) 1377 = .ok (.aload_n 0, 1) := by decide +kernel
theorem dW_law_1378 : decode (zby mW_law) 1378 = .ok (.iload 5, 2) := by decide +kernel
theorem dW_law_1380 : decode (zby mW_law) 1380 = .ok (.iconst 1, 1) := by decide +kernel
theorem dW_law_1381 : decode (zby mW_law) 1381 = .ok (.iadd, 1) := by decide +kernel
theorem dW_law_1382 : decode (zby mW_law) 1382 = .ok (.iaload, 1) := by decide +kernel
theorem dW_law_1383 : decode (zby mW_law) 1383 = .ok (.aload_n 0, 1) := by decide +kernel
theorem dW_law_1384 : decode (zby mW_law) 1384 = .ok (.iload 5, 2) := by decide +kernel
theorem dW_law_1386 : decode (zby mW_law) 1386 = .ok (.iconst 2, 1) := by decide +kernel
theorem dW_law_1387 : decode (zby mW_law) 1387 = .ok (.iadd, 1) := by decide +kernel
theorem dW_law_1388 : decode (zby mW_law) 1388 = .ok (.iaload, 1) := by decide +kernel
theorem dW_law_1389 : decode (zby mW_law) 1389 = .ok (.invokevirtual 245, 3) := by decide +kernel
theorem dW_law_1392 : decode (zby mW_law) 1392 = .ok (.istore 7, 2) := by decide +kernel
theorem dW_law_1394 : decode (zby mW_law) 1394 = .ok (.aload_n 2, 1) := by decide +kernel
theorem dW_law_1395 : decode (zby mW_law) 1395 = .ok (.invokevirtual 183, 3) := by decide +kernel
theorem dW_law_1398 : decode (zby mW_law) 1398 = .ok (.iload 6, 2) := by decide +kernel
theorem dW_law_1400 : decode (zby mW_law) 1400 = .ok (.if_icmp .eq 5, 3) := by decide +kernel
theorem dW_law_1405 : decode (zby mW_law) 1405 = .ok (.iload 6, 2) := by decide +kernel
theorem dW_law_1407 : decode (zby mW_law) 1407 = .ok (.ifCond .ne 22, 3) := by decide +kernel
theorem dW_law_1410 : decode (zby mW_law) 1410 = .ok (.aload_n 3, 1) := by decide +kernel
theorem dW_law_1411 : decode (zby mW_law) 1411 = .ok (.iconst 0, 1) := by decide +kernel
theorem dW_law_1412 : decode (zby mW_law) 1412 = .ok (.laload, 1) := by decide +kernel
theorem dW_law_1413 : decode (zby mW_law) 1413 = .ok (.iload 7, 2) := by decide +kernel
theorem dW_law_1415 : decode (zby mW_law) 1415 = .ok (.ifCond .eq 7, 3) := by decide +kernel
theorem dW_law_1418 : decode (zby mW_law) 1418 = .ok (.lconst 1, 1) := by decide +kernel
theorem dW_law_1419 : decode (zby mW_law) 1419 = .ok (.goto 4, 3) := by decide +kernel
theorem dW_law_1422 : decode (zby mW_law) 1422 = .ok (.lconst 0, 1) := by decide +kernel
theorem dW_law_1423 : decode (zby mW_law) 1423 = .ok (.lcmp, 1) := by decide +kernel
theorem dW_law_1424 : decode (zby mW_law) 1424 = .ok (.ifCond .eq 5, 3) := by decide +kernel
theorem dW_law_1429 : decode (zby mW_law) 1429 = .ok (.goto 1831, 3) := by decide +kernel
theorem dW_law_1432 : decode (zby mW_law) 1432 = .ok (.aload_n 1, 1) := by decide +kernel
theorem dW_law_1433 : decode (zby mW_law) 1433 = .ok (.aload_n 0, 1) := by decide +kernel
theorem dW_law_1434 : decode (zby mW_law) 1434 = .ok (.iload 5, 2) := by decide +kernel
theorem dW_law_1436 : decode (zby mW_law) 1436 = .ok (.iconst 1, 1) := by decide +kernel
theorem dW_law_1437 : decode (zby mW_law) 1437 = .ok (.iadd, 1) := by decide +kernel
theorem dW_law_1438 : decode (zby mW_law) 1438 = .ok (.iaload, 1) := by decide +kernel
theorem dW_law_1439 : decode (zby mW_law) 1439 = .ok (.aload_n 0, 1) := by decide +kernel
theorem dW_law_1440 : decode (zby mW_law) 1440 = .ok (.iload 5, 2) := by decide +kernel
theorem dW_law_1442 : decode (zby mW_law) 1442 = .ok (.iconst 2, 1) := by decide +kernel
theorem dW_law_1443 : decode (zby mW_law) 1443 = .ok (.iadd, 1) := by decide +kernel
theorem dW_law_1444 : decode (zby mW_law) 1444 = .ok (.iaload, 1) := by decide +kernel
theorem dW_law_1445 : decode (zby mW_law) 1445 = .ok (.aload_n 0, 1) := by decide +kernel
theorem dW_law_1446 : decode (zby mW_law) 1446 = .ok (.iload 5, 2) := by decide +kernel
theorem dW_law_1448 : decode (zby mW_law) 1448 = .ok (.iconst 3, 1) := by decide +kernel
theorem dW_law_1449 : decode (zby mW_law) 1449 = .ok (.iadd, 1) := by decide +kernel
theorem dW_law_1450 : decode (zby mW_law) 1450 = .ok (.iaload, 1) := by decide +kernel
theorem dW_law_1451 : decode (zby mW_law) 1451 = .ok (.aload_n 3, 1) := by decide +kernel
theorem dW_law_1452 : decode (zby mW_law) 1452 = .ok (.invokestatic 246, 3) := by decide +kernel
theorem dW_law_1455 : decode (zby mW_law) 1455 = .ok (.istore 6, 2) := by decide +kernel
theorem dW_law_1457 : decode (zby mW_law) 1457 = .ok (.aload_n 2, 1) := by decide +kernel
theorem dW_law_1458 : decode (zby mW_law) 1458 = .ok (.aload_n 0, 1) := by decide +kernel
theorem dW_law_1459 : decode (zby mW_law) 1459 = .ok (.iload 5, 2) := by decide +kernel
theorem dW_law_1461 : decode (zby mW_law) 1461 = .ok (.iconst 1, 1) := by decide +kernel
theorem dW_law_1462 : decode (zby mW_law) 1462 = .ok (.iadd, 1) := by decide +kernel
theorem dW_law_1463 : decode (zby mW_law) 1463 = .ok (.iaload, 1) := by decide +kernel
theorem dW_law_1464 : decode (zby mW_law) 1464 = .ok (.aload_n 0, 1) := by decide +kernel
theorem dW_law_1465 : decode (zby mW_law) 1465 = .ok (.iload 5, 2) := by decide +kernel
theorem dW_law_1467 : decode (zby mW_law) 1467 = .ok (.iconst 2, 1) := by decide +kernel
theorem dW_law_1468 : decode (zby mW_law) 1468 = .ok (.iadd, 1) := by decide +kernel
theorem dW_law_1469 : decode (zby mW_law) 1469 = .ok (.iaload, 1) := by decide +kernel
theorem dW_law_1470 : decode (zby mW_law) 1470 = .ok (.aload_n 0, 1) := by decide +kernel
theorem dW_law_1471 : decode (zby mW_law) 1471 = .ok (.iload 5, 2) := by decide +kernel
theorem dW_law_1473 : decode (zby mW_law) 1473 = .ok (.iconst 3, 1) := by decide +kernel
theorem dW_law_1474 : decode (zby mW_law) 1474 = .ok (.iadd, 1) := by decide +kernel
theorem dW_law_1475 : decode (zby mW_law) 1475 = .ok (.iaload, 1) := by decide +kernel
theorem dW_law_1476 : decode (zby mW_law) 1476 = .ok (.invokevirtual 249, 3) := by decide +kernel
theorem dW_law_1479 : decode (zby mW_law) 1479 = .ok (.istore 7, 2) := by decide +kernel
theorem dW_law_1481 : decode (zby mW_law) 1481 = .ok (.aload_n 2, 1) := by decide +kernel
theorem dW_law_1482 : decode (zby mW_law) 1482 = .ok (.invokevirtual 183, 3) := by decide +kernel
theorem dW_law_1485 : decode (zby mW_law) 1485 = .ok (.iload 6, 2) := by decide +kernel
theorem dW_law_1487 : decode (zby mW_law) 1487 = .ok (.if_icmp .eq 5, 3) := by decide +kernel
theorem dW_law_1492 : decode (zby mW_law) 1492 = .ok (.iload 6, 2) := by decide +kernel
theorem dW_law_1494 : decode (zby mW_law) 1494 = .ok (.ifCond .ne 22, 3) := by decide +kernel
theorem dW_law_1497 : decode (zby mW_law) 1497 = .ok (.aload_n 3, 1) := by decide +kernel
theorem dW_law_1498 : decode (zby mW_law) 1498 = .ok (.iconst 0, 1) := by decide +kernel
theorem dW_law_1499 : decode (zby mW_law) 1499 = .ok (.laload, 1) := by decide +kernel
theorem dW_law_1500 : decode (zby mW_law) 1500 = .ok (.iload 7, 2) := by decide +kernel
theorem dW_law_1502 : decode (zby mW_law) 1502 = .ok (.ifCond .eq 7, 3) := by decide +kernel
theorem dW_law_1505 : decode (zby mW_law) 1505 = .ok (.lconst 1, 1) := by decide +kernel
theorem dW_law_1506 : decode (zby mW_law) 1506 = .ok (.goto 4, 3) := by decide +kernel
theorem dW_law_1509 : decode (zby mW_law) 1509 = .ok (.lconst 0, 1) := by decide +kernel
theorem dW_law_1510 : decode (zby mW_law) 1510 = .ok (.lcmp, 1) := by decide +kernel
theorem dW_law_1511 : decode (zby mW_law) 1511 = .ok (.ifCond .eq 5, 3) := by decide +kernel
theorem dW_law_1516 : decode (zby mW_law) 1516 = .ok (.goto 1744, 3) := by decide +kernel
theorem dW_law_1519 : decode (zby mW_law) 1519 = .ok (.aload_n 1, 1) := by decide +kernel
theorem dW_law_1520 : decode (zby mW_law) 1520 = .ok (.invokevirtual 250, 3) := by decide +kernel
theorem dW_law_1523 : decode (zby mW_law) 1523 = .ok (.aload_n 2, 1) := by decide +kernel
theorem dW_law_1524 : decode (zby mW_law) 1524 = .ok (.invokevirtual 253, 3) := by decide +kernel
theorem dW_law_1527 : decode (zby mW_law) 1527 = .ok (.if_icmp .eq 1733, 3) := by decide +kernel
theorem dW_law_1532 : decode (zby mW_law) 1532 = .ok (.aload_n 1, 1) := by decide +kernel
theorem dW_law_1533 : decode (zby mW_law) 1533 = .ok (.aload_n 0, 1) := by decide +kernel
theorem dW_law_1534 : decode (zby mW_law) 1534 = .ok (.iload 5, 2) := by decide +kernel
theorem dW_law_1536 : decode (zby mW_law) 1536 = .ok (.iconst 1, 1) := by decide +kernel
theorem dW_law_1537 : decode (zby mW_law) 1537 = .ok (.iadd, 1) := by decide +kernel
theorem dW_law_1538 : decode (zby mW_law) 1538 = .ok (.iaload, 1) := by decide +kernel
theorem dW_law_1539 : decode (zby mW_law) 1539 = .ok (.aload_n 3, 1) := by decide +kernel
theorem dW_law_1540 : decode (zby mW_law) 1540 = .ok (.invokestatic 254, 3) := by decide +kernel
theorem dW_law_1543 : decode (zby mW_law) 1543 = .ok (.istore 6, 2) := by decide +kernel
theorem dW_law_1545 : decode (zby mW_law) 1545 = .ok (.aload_n 2, 1) := by decide +kernel
theorem dW_law_1546 : decode (zby mW_law) 1546 = .ok (.aload_n 0, 1) := by decide +kernel
theorem dW_law_1547 : decode (zby mW_law) 1547 = .ok (.iload 5, 2) := by decide +kernel
theorem dW_law_1549 : decode (zby mW_law) 1549 = .ok (.iconst 1, 1) := by decide +kernel
theorem dW_law_1550 : decode (zby mW_law) 1550 = .ok (.iadd, 1) := by decide +kernel
theorem dW_law_1551 : decode (zby mW_law) 1551 = .ok (.iaload, 1) := by decide +kernel
theorem dW_law_1552 : decode (zby mW_law) 1552 = .ok (.invokevirtual 256, 3) := by decide +kernel
theorem dW_law_1555 : decode (zby mW_law) 1555 = .ok (.istore 7, 2) := by decide +kernel
theorem dW_law_1557 : decode (zby mW_law) 1557 = .ok (.aload_n 2, 1) := by decide +kernel
theorem dW_law_1558 : decode (zby mW_law) 1558 = .ok (.invokevirtual 183, 3) := by decide +kernel
theorem dW_law_1561 : decode (zby mW_law) 1561 = .ok (.iload 6, 2) := by decide +kernel
theorem dW_law_1563 : decode (zby mW_law) 1563 = .ok (.if_icmp .eq 5, 3) := by decide +kernel
theorem dW_law_1568 : decode (zby mW_law) 1568 = .ok (.iload 6, 2) := by decide +kernel
theorem dW_law_1570 : decode (zby mW_law) 1570 = .ok (.ifCond .ne 15, 3) := by decide +kernel
theorem dW_law_1573 : decode (zby mW_law) 1573 = .ok (.aload_n 3, 1) := by decide +kernel
theorem dW_law_1574 : decode (zby mW_law) 1574 = .ok (.iconst 0, 1) := by decide +kernel
theorem dW_law_1575 : decode (zby mW_law) 1575 = .ok (.laload, 1) := by decide +kernel
theorem dW_law_1576 : decode (zby mW_law) 1576 = .ok (.iload 7, 2) := by decide +kernel
theorem dW_law_1578 : decode (zby mW_law) 1578 = .ok (.i2l, 1) := by decide +kernel
theorem dW_law_1579 : decode (zby mW_law) 1579 = .ok (.lcmp, 1) := by decide +kernel
theorem dW_law_1580 : decode (zby mW_law) 1580 = .ok (.ifCond .eq 5, 3) := by decide +kernel
theorem dW_law_1585 : decode (zby mW_law) 1585 = .ok (.goto 1675, 3) := by decide +kernel
theorem dW_law_1588 : decode (zby mW_law) 1588 = .ok (.aload_n 1, 1) := by decide +kernel
theorem dW_law_1589 : decode (zby mW_law) 1589 = .ok (.aload_n 0, 1) := by decide +kernel
theorem dW_law_1590 : decode (zby mW_law) 1590 = .ok (.iload 5, 2) := by decide +kernel
theorem dW_law_1592 : decode (zby mW_law) 1592 = .ok (.iconst 1, 1) := by decide +kernel
theorem dW_law_1593 : decode (zby mW_law) 1593 = .ok (.iadd, 1) := by decide +kernel
theorem dW_law_1594 : decode (zby mW_law) 1594 = .ok (.iaload, 1) := by decide +kernel
theorem dW_law_1595 : decode (zby mW_law) 1595 = .ok (.aload_n 0, 1) := by decide +kernel
theorem dW_law_1596 : decode (zby mW_law) 1596 = .ok (.iload 5, 2) := by decide +kernel
theorem dW_law_1598 : decode (zby mW_law) 1598 = .ok (.iconst 2, 1) := by decide +kernel
theorem dW_law_1599 : decode (zby mW_law) 1599 = .ok (.iadd, 1) := by decide +kernel
theorem dW_law_1600 : decode (zby mW_law) 1600 = .ok (.iaload, 1) := by decide +kernel
theorem dW_law_1601 : decode (zby mW_law) 1601 = .ok (.aload_n 3, 1) := by decide +kernel
theorem dW_law_1602 : decode (zby mW_law) 1602 = .ok (.invokestatic 257, 3) := by decide +kernel
theorem dW_law_1605 : decode (zby mW_law) 1605 = .ok (.istore 6, 2) := by decide +kernel
theorem dW_law_1607 : decode (zby mW_law) 1607 = .ok (.aload_n 2, 1) := by decide +kernel
theorem dW_law_1608 : decode (zby mW_law) 1608 = .ok (.aload_n 0, 1) := by decide +kernel
theorem dW_law_1609 : decode (zby mW_law) 1609 = .ok (.iload 5, 2) := by decide +kernel
theorem dW_law_1611 : decode (zby mW_law) 1611 = .ok (.iconst 1, 1) := by decide +kernel
theorem dW_law_1612 : decode (zby mW_law) 1612 = .ok (.iadd, 1) := by decide +kernel
theorem dW_law_1613 : decode (zby mW_law) 1613 = .ok (.iaload, 1) := by decide +kernel
theorem dW_law_1614 : decode (zby mW_law) 1614 = .ok (.aload_n 0, 1) := by decide +kernel
theorem dW_law_1615 : decode (zby mW_law) 1615 = .ok (.iload 5, 2) := by decide +kernel
theorem dW_law_1617 : decode (zby mW_law) 1617 = .ok (.iconst 2, 1) := by decide +kernel
theorem dW_law_1618 : decode (zby mW_law) 1618 = .ok (.iadd, 1) := by decide +kernel
theorem dW_law_1619 : decode (zby mW_law) 1619 = .ok (.iaload, 1) := by decide +kernel
theorem dW_law_1620 : decode (zby mW_law) 1620 = .ok (.invokevirtual 259, 3) := by decide +kernel
theorem dW_law_1623 : decode (zby mW_law) 1623 = .ok (.istore 7, 2) := by decide +kernel
theorem dW_law_1625 : decode (zby mW_law) 1625 = .ok (.aload_n 2, 1) := by decide +kernel
theorem dW_law_1626 : decode (zby mW_law) 1626 = .ok (.invokevirtual 183, 3) := by decide +kernel
theorem dW_law_1629 : decode (zby mW_law) 1629 = .ok (.iload 6, 2) := by decide +kernel
theorem dW_law_1631 : decode (zby mW_law) 1631 = .ok (.if_icmp .eq 5, 3) := by decide +kernel
theorem dW_law_1636 : decode (zby mW_law) 1636 = .ok (.iload 6, 2) := by decide +kernel
theorem dW_law_1638 : decode (zby mW_law) 1638 = .ok (.ifCond .ne 15, 3) := by decide +kernel
theorem dW_law_1641 : decode (zby mW_law) 1641 = .ok (.aload_n 3, 1) := by decide +kernel
theorem dW_law_1642 : decode (zby mW_law) 1642 = .ok (.iconst 0, 1) := by decide +kernel
theorem dW_law_1643 : decode (zby mW_law) 1643 = .ok (.laload, 1) := by decide +kernel
theorem dW_law_1644 : decode (zby mW_law) 1644 = .ok (.iload 7, 2) := by decide +kernel
theorem dW_law_1646 : decode (zby mW_law) 1646 = .ok (.i2l, 1) := by decide +kernel
theorem dW_law_1647 : decode (zby mW_law) 1647 = .ok (.lcmp, 1) := by decide +kernel
theorem dW_law_1648 : decode (zby mW_law) 1648 = .ok (.ifCond .eq 5, 3) := by decide +kernel
theorem dW_law_1653 : decode (zby mW_law) 1653 = .ok (.goto 1607, 3) := by decide +kernel
theorem dW_law_1656 : decode (zby mW_law) 1656 = .ok (.aload_n 1, 1) := by decide +kernel
theorem dW_law_1657 : decode (zby mW_law) 1657 = .ok (.aload_n 0, 1) := by decide +kernel
theorem dW_law_1658 : decode (zby mW_law) 1658 = .ok (.iload 5, 2) := by decide +kernel
theorem dW_law_1660 : decode (zby mW_law) 1660 = .ok (.iconst 1, 1) := by decide +kernel
theorem dW_law_1661 : decode (zby mW_law) 1661 = .ok (.iadd, 1) := by decide +kernel
theorem dW_law_1662 : decode (zby mW_law) 1662 = .ok (.iaload, 1) := by decide +kernel
theorem dW_law_1663 : decode (zby mW_law) 1663 = .ok (.aload_n 0, 1) := by decide +kernel
theorem dW_law_1664 : decode (zby mW_law) 1664 = .ok (.iload 5, 2) := by decide +kernel
theorem dW_law_1666 : decode (zby mW_law) 1666 = .ok (.iconst 2, 1) := by decide +kernel
theorem dW_law_1667 : decode (zby mW_law) 1667 = .ok (.iadd, 1) := by decide +kernel
theorem dW_law_1668 : decode (zby mW_law) 1668 = .ok (.iaload, 1) := by decide +kernel
theorem dW_law_1669 : decode (zby mW_law) 1669 = .ok (.aload_n 3, 1) := by decide +kernel
theorem dW_law_1670 : decode (zby mW_law) 1670 = .ok (.invokestatic 260, 3) := by decide +kernel
theorem dW_law_1673 : decode (zby mW_law) 1673 = .ok (.istore 6, 2) := by decide +kernel
theorem dW_law_1675 : decode (zby mW_law) 1675 = .ok (.aload_n 2, 1) := by decide +kernel
theorem dW_law_1676 : decode (zby mW_law) 1676 = .ok (.aload_n 0, 1) := by decide +kernel
theorem dW_law_1677 : decode (zby mW_law) 1677 = .ok (.iload 5, 2) := by decide +kernel
theorem dW_law_1679 : decode (zby mW_law) 1679 = .ok (.iconst 1, 1) := by decide +kernel
theorem dW_law_1680 : decode (zby mW_law) 1680 = .ok (.iadd, 1) := by decide +kernel
theorem dW_law_1681 : decode (zby mW_law) 1681 = .ok (.iaload, 1) := by decide +kernel
theorem dW_law_1682 : decode (zby mW_law) 1682 = .ok (.aload_n 0, 1) := by decide +kernel
theorem dW_law_1683 : decode (zby mW_law) 1683 = .ok (.iload 5, 2) := by decide +kernel
theorem dW_law_1685 : decode (zby mW_law) 1685 = .ok (.iconst 2, 1) := by decide +kernel
theorem dW_law_1686 : decode (zby mW_law) 1686 = .ok (.iadd, 1) := by decide +kernel
theorem dW_law_1687 : decode (zby mW_law) 1687 = .ok (.iaload, 1) := by decide +kernel
theorem dW_law_1688 : decode (zby mW_law) 1688 = .ok (.invokevirtual 262, 3) := by decide +kernel
theorem dW_law_1691 : decode (zby mW_law) 1691 = .ok (.istore 7, 2) := by decide +kernel
theorem dW_law_1693 : decode (zby mW_law) 1693 = .ok (.aload_n 2, 1) := by decide +kernel
theorem dW_law_1694 : decode (zby mW_law) 1694 = .ok (.invokevirtual 183, 3) := by decide +kernel
theorem dW_law_1697 : decode (zby mW_law) 1697 = .ok (.iload 6, 2) := by decide +kernel
theorem dW_law_1699 : decode (zby mW_law) 1699 = .ok (.if_icmp .eq 5, 3) := by decide +kernel
theorem dW_law_1704 : decode (zby mW_law) 1704 = .ok (.iload 6, 2) := by decide +kernel
theorem dW_law_1706 : decode (zby mW_law) 1706 = .ok (.ifCond .ne 15, 3) := by decide +kernel
theorem dW_law_1709 : decode (zby mW_law) 1709 = .ok (.aload_n 3, 1) := by decide +kernel
theorem dW_law_1710 : decode (zby mW_law) 1710 = .ok (.iconst 0, 1) := by decide +kernel
theorem dW_law_1711 : decode (zby mW_law) 1711 = .ok (.laload, 1) := by decide +kernel
theorem dW_law_1712 : decode (zby mW_law) 1712 = .ok (.iload 7, 2) := by decide +kernel
