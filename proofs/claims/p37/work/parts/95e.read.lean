/-! The law's instructions. -/
theorem zqd_1276 : decode code 1276 = .ok (.invokevirtual 137, 3) := by decide +kernel
theorem zqd_1279 : decode code 1279 = .ok (.pop, 1) := by decide +kernel
theorem zqd_1280 : decode code 1280 = .ok (.aload_n 2, 1) := by decide +kernel
theorem zqd_1281 : decode code 1281 = .ok (.aload_n 0, 1) := by decide +kernel
theorem zqd_1282 : decode code 1282 = .ok (.iload_n 3, 1) := by decide +kernel
theorem zqd_1283 : decode code 1283 = .ok (.iconst 1, 1) := by decide +kernel
theorem zqd_1284 : decode code 1284 = .ok (.iadd, 1) := by decide +kernel
theorem zqd_1285 : decode code 1285 = .ok (.iaload, 1) := by decide +kernel
theorem zqd_1286 : decode code 1286 = .ok (.aload_n 0, 1) := by decide +kernel
theorem zqd_1287 : decode code 1287 = .ok (.iload_n 3, 1) := by decide +kernel
theorem zqd_1288 : decode code 1288 = .ok (.iconst 2, 1) := by decide +kernel
theorem zqd_1289 : decode code 1289 = .ok (.iadd, 1) := by decide +kernel
theorem zqd_1290 : decode code 1290 = .ok (.iaload, 1) := by decide +kernel
theorem zqd_1291 : decode code 1291 = .ok (.aload_n 0, 1) := by decide +kernel
theorem zqd_1292 : decode code 1292 = .ok (.iload_n 3, 1) := by decide +kernel
theorem zqd_1293 : decode code 1293 = .ok (.iconst 3, 1) := by decide +kernel
theorem zqd_1294 : decode code 1294 = .ok (.iadd, 1) := by decide +kernel
theorem zqd_1295 : decode code 1295 = .ok (.iaload, 1) := by decide +kernel
theorem zqd_1296 : decode code 1296 = .ok (.aload_n 0, 1) := by decide +kernel
theorem zqd_1297 : decode code 1297 = .ok (.iload_n 3, 1) := by decide +kernel
theorem zqd_1298 : decode code 1298 = .ok (.iconst 4, 1) := by decide +kernel
theorem zqd_1299 : decode code 1299 = .ok (.iadd, 1) := by decide +kernel
theorem zqd_1300 : decode code 1300 = .ok (.iaload, 1) := by decide +kernel
theorem zqd_1301 : decode code 1301 = .ok (.aload_n 0, 1) := by decide +kernel
theorem zqd_1302 : decode code 1302 = .ok (.iload_n 3, 1) := by decide +kernel
theorem zqd_1303 : decode code 1303 = .ok (.iconst 5, 1) := by decide +kernel
theorem zqd_1304 : decode code 1304 = .ok (.iadd, 1) := by decide +kernel
theorem zqd_1305 : decode code 1305 = .ok (.iaload, 1) := by decide +kernel
theorem zqd_1306 : decode code 1306 = .ok (.invokevirtual 140, 3) := by decide +kernel
theorem zqd_1309 : decode code 1309 = .ok (.pop, 1) := by decide +kernel
theorem zqd_1310 : decode code 1310 = .ok (.goto 283, 3) := by decide +kernel
theorem zqd_1313 : decode code 1313 = .ok (.aload_n 1, 1) := by decide +kernel
theorem zqd_1314 : decode code 1314 = .ok (.aload_n 0, 1) := by decide +kernel
theorem zqd_1315 : decode code 1315 = .ok (.iload_n 3, 1) := by decide +kernel
theorem zqd_1316 : decode code 1316 = .ok (.iconst 1, 1) := by decide +kernel
theorem zqd_1317 : decode code 1317 = .ok (.iadd, 1) := by decide +kernel
theorem zqd_1318 : decode code 1318 = .ok (.iaload, 1) := by decide +kernel
theorem zqd_1319 : decode code 1319 = .ok (.aload_n 0, 1) := by decide +kernel
theorem zqd_1320 : decode code 1320 = .ok (.iload_n 3, 1) := by decide +kernel
theorem zqd_1321 : decode code 1321 = .ok (.iconst 2, 1) := by decide +kernel
theorem zqd_1322 : decode code 1322 = .ok (.iadd, 1) := by decide +kernel
theorem zqd_1323 : decode code 1323 = .ok (.iaload, 1) := by decide +kernel
theorem zqd_1324 : decode code 1324 = .ok (.aload_n 0, 1) := by decide +kernel
theorem zqd_1325 : decode code 1325 = .ok (.iload_n 3, 1) := by decide +kernel
theorem zqd_1326 : decode code 1326 = .ok (.iconst 3, 1) := by decide +kernel
theorem zqd_1327 : decode code 1327 = .ok (.iadd, 1) := by decide +kernel
theorem zqd_1328 : decode code 1328 = .ok (.iaload, 1) := by decide +kernel
theorem zqd_1329 : decode code 1329 = .ok (.invokevirtual 141, 3) := by decide +kernel
theorem zqd_1332 : decode code 1332 = .ok (.pop, 1) := by decide +kernel
theorem zqd_1333 : decode code 1333 = .ok (.aload_n 2, 1) := by decide +kernel
theorem zqd_1334 : decode code 1334 = .ok (.aload_n 0, 1) := by decide +kernel
theorem zqd_1335 : decode code 1335 = .ok (.iload_n 3, 1) := by decide +kernel
theorem zqd_1336 : decode code 1336 = .ok (.iconst 1, 1) := by decide +kernel
theorem zqd_1337 : decode code 1337 = .ok (.iadd, 1) := by decide +kernel
theorem zqd_1338 : decode code 1338 = .ok (.iaload, 1) := by decide +kernel
theorem zqd_1339 : decode code 1339 = .ok (.aload_n 0, 1) := by decide +kernel
theorem zqd_1340 : decode code 1340 = .ok (.iload_n 3, 1) := by decide +kernel
theorem zqd_1341 : decode code 1341 = .ok (.iconst 2, 1) := by decide +kernel
theorem zqd_1342 : decode code 1342 = .ok (.iadd, 1) := by decide +kernel
theorem zqd_1343 : decode code 1343 = .ok (.iaload, 1) := by decide +kernel
theorem zqd_1344 : decode code 1344 = .ok (.aload_n 0, 1) := by decide +kernel
theorem zqd_1345 : decode code 1345 = .ok (.iload_n 3, 1) := by decide +kernel
theorem zqd_1346 : decode code 1346 = .ok (.iconst 3, 1) := by decide +kernel
theorem zqd_1347 : decode code 1347 = .ok (.iadd, 1) := by decide +kernel
theorem zqd_1348 : decode code 1348 = .ok (.iaload, 1) := by decide +kernel
theorem zqd_1349 : decode code 1349 = .ok (.invokevirtual 144, 3) := by decide +kernel
theorem zqd_1352 : decode code 1352 = .ok (.pop, 1) := by decide +kernel
theorem zqd_1353 : decode code 1353 = .ok (.goto 240, 3) := by decide +kernel
theorem zqd_1356 : decode code 1356 = .ok (.aload_n 1, 1) := by decide +kernel
theorem zqd_1357 : decode code 1357 = .ok (.aload_n 0, 1) := by decide +kernel
theorem zqd_1358 : decode code 1358 = .ok (.iload_n 3, 1) := by decide +kernel
theorem zqd_1359 : decode code 1359 = .ok (.iconst 1, 1) := by decide +kernel
theorem zqd_1360 : decode code 1360 = .ok (.iadd, 1) := by decide +kernel
theorem zqd_1361 : decode code 1361 = .ok (.iaload, 1) := by decide +kernel
theorem zqd_1362 : decode code 1362 = .ok (.aload_n 0, 1) := by decide +kernel
theorem zqd_1363 : decode code 1363 = .ok (.iload_n 3, 1) := by decide +kernel
theorem zqd_1364 : decode code 1364 = .ok (.iconst 2, 1) := by decide +kernel
theorem zqd_1365 : decode code 1365 = .ok (.iadd, 1) := by decide +kernel
theorem zqd_1366 : decode code 1366 = .ok (.iaload, 1) := by decide +kernel
theorem zqd_1367 : decode code 1367 = .ok (.aload_n 0, 1) := by decide +kernel
theorem zqd_1368 : decode code 1368 = .ok (.iload_n 3, 1) := by decide +kernel
theorem zqd_1369 : decode code 1369 = .ok (.iconst 3, 1) := by decide +kernel
theorem zqd_1370 : decode code 1370 = .ok (.iadd, 1) := by decide +kernel
theorem zqd_1371 : decode code 1371 = .ok (.iaload, 1) := by decide +kernel
theorem zqd_1372 : decode code 1372 = .ok (.invokevirtual 145, 3) := by decide +kernel
theorem zqd_1375 : decode code 1375 = .ok (.pop, 1) := by decide +kernel
theorem zqd_1376 : decode code 1376 = .ok (.aload_n 2, 1) := by decide +kernel
theorem zqd_1377 : decode code 1377 = .ok (.aload_n 0, 1) := by decide +kernel
theorem zqd_1378 : decode code 1378 = .ok (.iload_n 3, 1) := by decide +kernel
theorem zqd_1379 : decode code 1379 = .ok (.iconst 1, 1) := by decide +kernel
theorem zqd_1380 : decode code 1380 = .ok (.iadd, 1) := by decide +kernel
theorem zqd_1381 : decode code 1381 = .ok (.iaload, 1) := by decide +kernel
theorem zqd_1382 : decode code 1382 = .ok (.aload_n 0, 1) := by decide +kernel
theorem zqd_1383 : decode code 1383 = .ok (.iload_n 3, 1) := by decide +kernel
theorem zqd_1384 : decode code 1384 = .ok (.iconst 2, 1) := by decide +kernel
theorem zqd_1385 : decode code 1385 = .ok (.iadd, 1) := by decide +kernel
theorem zqd_1386 : decode code 1386 = .ok (.iaload, 1) := by decide +kernel
theorem zqd_1387 : decode code 1387 = .ok (.aload_n 0, 1) := by decide +kernel
theorem zqd_1388 : decode code 1388 = .ok (.iload_n 3, 1) := by decide +kernel
theorem zqd_1389 : decode code 1389 = .ok (.iconst 3, 1) := by decide +kernel
theorem zqd_1390 : decode code 1390 = .ok (.iadd, 1) := by decide +kernel
theorem zqd_1391 : decode code 1391 = .ok (.iaload, 1) := by decide +kernel
theorem zqd_1392 : decode code 1392 = .ok (.invokevirtual 148, 3) := by decide +kernel
theorem zqd_1395 : decode code 1395 = .ok (.pop, 1) := by decide +kernel
theorem zqd_1396 : decode code 1396 = .ok (.goto 197, 3) := by decide +kernel
theorem zqd_1399 : decode code 1399 = .ok (.aload_n 1, 1) := by decide +kernel
theorem zqd_1400 : decode code 1400 = .ok (.aload_n 0, 1) := by decide +kernel
theorem zqd_1401 : decode code 1401 = .ok (.iload_n 3, 1) := by decide +kernel
theorem zqd_1402 : decode code 1402 = .ok (.iconst 1, 1) := by decide +kernel
theorem zqd_1403 : decode code 1403 = .ok (.iadd, 1) := by decide +kernel
theorem zqd_1404 : decode code 1404 = .ok (.iaload, 1) := by decide +kernel
theorem zqd_1405 : decode code 1405 = .ok (.aload_n 0, 1) := by decide +kernel
theorem zqd_1406 : decode code 1406 = .ok (.iload_n 3, 1) := by decide +kernel
theorem zqd_1407 : decode code 1407 = .ok (.iconst 2, 1) := by decide +kernel
theorem zqd_1408 : decode code 1408 = .ok (.iadd, 1) := by decide +kernel
theorem zqd_1409 : decode code 1409 = .ok (.iaload, 1) := by decide +kernel
theorem zqd_1410 : decode code 1410 = .ok (.invokevirtual 149, 3) := by decide +kernel
theorem zqd_1413 : decode code 1413 = .ok (.pop, 1) := by decide +kernel
theorem zqd_1414 : decode code 1414 = .ok (.aload_n 2, 1) := by decide +kernel
theorem zqd_1415 : decode code 1415 = .ok (.aload_n 0, 1) := by decide +kernel
theorem zqd_1416 : decode code 1416 = .ok (.iload_n 3, 1) := by decide +kernel
theorem zqd_1417 : decode code 1417 = .ok (.iconst 1, 1) := by decide +kernel
theorem zqd_1418 : decode code 1418 = .ok (.iadd, 1) := by decide +kernel
theorem zqd_1419 : decode code 1419 = .ok (.iaload, 1) := by decide +kernel
theorem zqd_1420 : decode code 1420 = .ok (.aload_n 0, 1) := by decide +kernel
theorem zqd_1421 : decode code 1421 = .ok (.iload_n 3, 1) := by decide +kernel
theorem zqd_1422 : decode code 1422 = .ok (.iconst 2, 1) := by decide +kernel
theorem zqd_1423 : decode code 1423 = .ok (.iadd, 1) := by decide +kernel
theorem zqd_1424 : decode code 1424 = .ok (.iaload, 1) := by decide +kernel
theorem zqd_1425 : decode code 1425 = .ok (.invokevirtual 152, 3) := by decide +kernel
theorem zqd_1428 : decode code 1428 = .ok (.pop, 1) := by decide +kernel
theorem zqd_1429 : decode code 1429 = .ok (.goto 164, 3) := by decide +kernel
theorem zqd_1432 : decode code 1432 = .ok (.aload_n 1, 1) := by decide +kernel
theorem zqd_1433 : decode code 1433 = .ok (.aload_n 0, 1) := by decide +kernel
theorem zqd_1434 : decode code 1434 = .ok (.iload_n 3, 1) := by decide +kernel
theorem zqd_1435 : decode code 1435 = .ok (.iconst 1, 1) := by decide +kernel
theorem zqd_1436 : decode code 1436 = .ok (.iadd, 1) := by decide +kernel
theorem zqd_1437 : decode code 1437 = .ok (.iaload, 1) := by decide +kernel
theorem zqd_1438 : decode code 1438 = .ok (.aload_n 0, 1) := by decide +kernel
theorem zqd_1439 : decode code 1439 = .ok (.iload_n 3, 1) := by decide +kernel
theorem zqd_1440 : decode code 1440 = .ok (.iconst 2, 1) := by decide +kernel
theorem zqd_1441 : decode code 1441 = .ok (.iadd, 1) := by decide +kernel
theorem zqd_1442 : decode code 1442 = .ok (.iaload, 1) := by decide +kernel
theorem zqd_1443 : decode code 1443 = .ok (.invokevirtual 153, 3) := by decide +kernel
theorem zqd_1446 : decode code 1446 = .ok (.pop, 1) := by decide +kernel
theorem zqd_1447 : decode code 1447 = .ok (.aload_n 2, 1) := by decide +kernel
theorem zqd_1448 : decode code 1448 = .ok (.aload_n 0, 1) := by decide +kernel
theorem zqd_1449 : decode code 1449 = .ok (.iload_n 3, 1) := by decide +kernel
theorem zqd_1450 : decode code 1450 = .ok (.iconst 1, 1) := by decide +kernel
theorem zqd_1451 : decode code 1451 = .ok (.iadd, 1) := by decide +kernel
theorem zqd_1452 : decode code 1452 = .ok (.iaload, 1) := by decide +kernel
theorem zqd_1453 : decode code 1453 = .ok (.aload_n 0, 1) := by decide +kernel
theorem zqd_1454 : decode code 1454 = .ok (.iload_n 3, 1) := by decide +kernel
theorem zqd_1455 : decode code 1455 = .ok (.iconst 2, 1) := by decide +kernel
theorem zqd_1456 : decode code 1456 = .ok (.iadd, 1) := by decide +kernel
theorem zqd_1457 : decode code 1457 = .ok (.iaload, 1) := by decide +kernel
theorem zqd_1458 : decode code 1458 = .ok (.invokevirtual 156, 3) := by decide +kernel
theorem zqd_1461 : decode code 1461 = .ok (.pop, 1) := by decide +kernel
theorem zqd_1462 : decode code 1462 = .ok (.goto 131, 3) := by decide +kernel
theorem zqd_1465 : decode code 1465 = .ok (.aload_n 1, 1) := by decide +kernel
theorem zqd_1466 : decode code 1466 = .ok (.aload_n 0, 1) := by decide +kernel
theorem zqd_1467 : decode code 1467 = .ok (.iload_n 3, 1) := by decide +kernel
theorem zqd_1468 : decode code 1468 = .ok (.iconst 1, 1) := by decide +kernel
theorem zqd_1469 : decode code 1469 = .ok (.iadd, 1) := by decide +kernel
theorem zqd_1470 : decode code 1470 = .ok (.iaload, 1) := by decide +kernel
theorem zqd_1471 : decode code 1471 = .ok (.aload_n 0, 1) := by decide +kernel
theorem zqd_1472 : decode code 1472 = .ok (.iload_n 3, 1) := by decide +kernel
theorem zqd_1473 : decode code 1473 = .ok (.iconst 2, 1) := by decide +kernel
theorem zqd_1474 : decode code 1474 = .ok (.iadd, 1) := by decide +kernel
theorem zqd_1475 : decode code 1475 = .ok (.iaload, 1) := by decide +kernel
theorem zqd_1476 : decode code 1476 = .ok (.invokevirtual 157, 3) := by decide +kernel
theorem zqd_1479 : decode code 1479 = .ok (.pop, 1) := by decide +kernel
theorem zqd_1480 : decode code 1480 = .ok (.aload_n 2, 1) := by decide +kernel
theorem zqd_1481 : decode code 1481 = .ok (.aload_n 0, 1) := by decide +kernel
theorem zqd_1482 : decode code 1482 = .ok (.iload_n 3, 1) := by decide +kernel
theorem zqd_1483 : decode code 1483 = .ok (.iconst 1, 1) := by decide +kernel
theorem zqd_1484 : decode code 1484 = .ok (.iadd, 1) := by decide +kernel
theorem zqd_1485 : decode code 1485 = .ok (.iaload, 1) := by decide +kernel
theorem zqd_1486 : decode code 1486 = .ok (.aload_n 0, 1) := by decide +kernel
theorem zqd_1487 : decode code 1487 = .ok (.iload_n 3, 1) := by decide +kernel
theorem zqd_1488 : decode code 1488 = .ok (.iconst 2, 1) := by decide +kernel
theorem zqd_1489 : decode code 1489 = .ok (.iadd, 1) := by decide +kernel
theorem zqd_1490 : decode code 1490 = .ok (.iaload, 1) := by decide +kernel
theorem zqd_1491 : decode code 1491 = .ok (.invokevirtual 160, 3) := by decide +kernel
theorem zqd_1494 : decode code 1494 = .ok (.pop, 1) := by decide +kernel
theorem zqd_1495 : decode code 1495 = .ok (.goto 98, 3) := by decide +kernel
theorem zqd_1498 : decode code 1498 = .ok (.aload_n 1, 1) := by decide +kernel
theorem zqd_1499 : decode code 1499 = .ok (.aload_n 0, 1) := by decide +kernel
theorem zqd_1500 : decode code 1500 = .ok (.iload_n 3, 1) := by decide +kernel
theorem zqd_1501 : decode code 1501 = .ok (.iconst 1, 1) := by decide +kernel
theorem zqd_1502 : decode code 1502 = .ok (.iadd, 1) := by decide +kernel
theorem zqd_1503 : decode code 1503 = .ok (.iaload, 1) := by decide +kernel
theorem zqd_1504 : decode code 1504 = .ok (.invokevirtual 161, 3) := by decide +kernel
theorem zqd_1507 : decode code 1507 = .ok (.pop, 1) := by decide +kernel
theorem zqd_1508 : decode code 1508 = .ok (.aload_n 2, 1) := by decide +kernel
theorem zqd_1509 : decode code 1509 = .ok (.aload_n 0, 1) := by decide +kernel
theorem zqd_1510 : decode code 1510 = .ok (.iload_n 3, 1) := by decide +kernel
theorem zqd_1511 : decode code 1511 = .ok (.iconst 1, 1) := by decide +kernel
theorem zqd_1512 : decode code 1512 = .ok (.iadd, 1) := by decide +kernel
theorem zqd_1513 : decode code 1513 = .ok (.iaload, 1) := by decide +kernel
theorem zqd_1514 : decode code 1514 = .ok (.invokevirtual 164, 3) := by decide +kernel
theorem zqd_1517 : decode code 1517 = .ok (.pop, 1) := by decide +kernel
theorem zqd_1518 : decode code 1518 = .ok (.goto 75, 3) := by decide +kernel
theorem zqd_1521 : decode code 1521 = .ok (.aload_n 1, 1) := by decide +kernel
theorem zqd_1522 : decode code 1522 = .ok (.invokevirtual 165, 3) := by decide +kernel
theorem zqd_1525 : decode code 1525 = .ok (.aload_n 2, 1) := by decide +kernel
theorem zqd_1526 : decode code 1526 = .ok (.invokevirtual 168, 3) := by decide +kernel
theorem zqd_1529 : decode code 1529 = .ok (.if_icmp .eq 64, 3) := by decide +kernel
theorem zqd_1534 : decode code 1534 = .ok (.aload_n 1, 1) := by decide +kernel
theorem zqd_1535 : decode code 1535 = .ok (.invokevirtual 169, 3) := by decide +kernel
theorem zqd_1538 : decode code 1538 = .ok (.pop, 1) := by decide +kernel
theorem zqd_1539 : decode code 1539 = .ok (.aload_n 2, 1) := by decide +kernel
theorem zqd_1540 : decode code 1540 = .ok (.invokevirtual 173, 3) := by decide +kernel
theorem zqd_1543 : decode code 1543 = .ok (.pop, 1) := by decide +kernel
theorem zqd_1544 : decode code 1544 = .ok (.goto 49, 3) := by decide +kernel
theorem zqd_1547 : decode code 1547 = .ok (.aload_n 1, 1) := by decide +kernel
theorem zqd_1548 : decode code 1548 = .ok (.aload_n 0, 1) := by decide +kernel
theorem zqd_1549 : decode code 1549 = .ok (.iload_n 3, 1) := by decide +kernel
theorem zqd_1550 : decode code 1550 = .ok (.iconst 1, 1) := by decide +kernel
theorem zqd_1551 : decode code 1551 = .ok (.iadd, 1) := by decide +kernel
theorem zqd_1552 : decode code 1552 = .ok (.iaload, 1) := by decide +kernel
theorem zqd_1553 : decode code 1553 = .ok (.invokevirtual 174, 3) := by decide +kernel
theorem zqd_1556 : decode code 1556 = .ok (.pop, 1) := by decide +kernel
theorem zqd_1557 : decode code 1557 = .ok (.aload_n 2, 1) := by decide +kernel
theorem zqd_1558 : decode code 1558 = .ok (.aload_n 0, 1) := by decide +kernel
theorem zqd_1559 : decode code 1559 = .ok (.iload_n 3, 1) := by decide +kernel
theorem zqd_1560 : decode code 1560 = .ok (.iconst 1, 1) := by decide +kernel
theorem zqd_1561 : decode code 1561 = .ok (.iadd, 1) := by decide +kernel
theorem zqd_1562 : decode code 1562 = .ok (.iaload, 1) := by decide +kernel
theorem zqd_1563 : decode code 1563 = .ok (.invokevirtual 177, 3) := by decide +kernel
theorem zqd_1566 : decode code 1566 = .ok (.pop, 1) := by decide +kernel
theorem zqd_1567 : decode code 1567 = .ok (.goto 26, 3) := by decide +kernel
theorem zqd_1570 : decode code 1570 = .ok (.aload_n 1, 1) := by decide +kernel
theorem zqd_1571 : decode code 1571 = .ok (.aload_n 0, 1) := by decide +kernel
theorem zqd_1572 : decode code 1572 = .ok (.iload_n 3, 1) := by decide +kernel
theorem zqd_1573 : decode code 1573 = .ok (.iconst 1, 1) := by decide +kernel
theorem zqd_1574 : decode code 1574 = .ok (.iadd, 1) := by decide +kernel
theorem zqd_1575 : decode code 1575 = .ok (.iaload, 1) := by decide +kernel
theorem zqd_1576 : decode code 1576 = .ok (.invokevirtual 178, 3) := by decide +kernel
theorem zqd_1579 : decode code 1579 = .ok (.pop, 1) := by decide +kernel
theorem zqd_1580 : decode code 1580 = .ok (.aload_n 2, 1) := by decide +kernel
theorem zqd_1581 : decode code 1581 = .ok (.aload_n 0, 1) := by decide +kernel
theorem zqd_1582 : decode code 1582 = .ok (.iload_n 3, 1) := by decide +kernel
theorem zqd_1583 : decode code 1583 = .ok (.iconst 1, 1) := by decide +kernel
theorem zqd_1584 : decode code 1584 = .ok (.iadd, 1) := by decide +kernel
theorem zqd_1585 : decode code 1585 = .ok (.iaload, 1) := by decide +kernel
theorem zqd_1586 : decode code 1586 = .ok (.invokevirtual 181, 3) := by decide +kernel
theorem zqd_1589 : decode code 1589 = .ok (.pop, 1) := by decide +kernel
theorem zqd_1590 : decode code 1590 = .ok (.goto 3, 3) := by decide +kernel
theorem zqd_1593 : decode code 1593 = .ok (.iinc 3 6, 3) := by decide +kernel
theorem zqd_1596 : decode code 1596 = .ok (.goto (-1578), 3) := by decide +kernel
theorem zqd_1599 : decode code 1599 = .ok (.iconst 1, 1) := by decide +kernel
theorem zqd_1600 : decode code 1600 = .ok (.ireturn, 1) := by decide +kernel
