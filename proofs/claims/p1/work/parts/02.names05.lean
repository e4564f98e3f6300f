theorem dL_law_1295 : decode cL_law 1295 = .ok (.iconst 1, 1) := by decide +kernel
theorem dL_law_1296 : decode cL_law 1296 = .ok (.iadd, 1) := by decide +kernel
theorem dL_law_1297 : decode cL_law 1297 = .ok (.iaload, 1) := by decide +kernel
theorem dL_law_1298 : decode cL_law 1298 = .ok (.aload_n 0, 1) := by decide +kernel
theorem dL_law_1299 : decode cL_law 1299 = .ok (.iload_n 3, 1) := by decide +kernel
theorem dL_law_1300 : decode cL_law 1300 = .ok (.iconst 2, 1) := by decide +kernel
theorem dL_law_1301 : decode cL_law 1301 = .ok (.iadd, 1) := by decide +kernel
theorem dL_law_1302 : decode cL_law 1302 = .ok (.iaload, 1) := by decide +kernel
theorem dL_law_1303 : decode cL_law 1303 = .ok (.aload_n 0, 1) := by decide +kernel
theorem dL_law_1304 : decode cL_law 1304 = .ok (.iload_n 3, 1) := by decide +kernel
theorem dL_law_1305 : decode cL_law 1305 = .ok (.iconst 3, 1) := by decide +kernel
theorem dL_law_1306 : decode cL_law 1306 = .ok (.iadd, 1) := by decide +kernel
theorem dL_law_1307 : decode cL_law 1307 = .ok (.iaload, 1) := by decide +kernel
theorem dL_law_1308 : decode cL_law 1308 = .ok (.invokevirtual 115, 3) := by decide +kernel
theorem dL_law_1311 : decode cL_law 1311 = .ok (.aload_n 2, 1) := by decide +kernel
theorem dL_law_1312 : decode cL_law 1312 = .ok (.aload_n 0, 1) := by decide +kernel
theorem dL_law_1313 : decode cL_law 1313 = .ok (.iload_n 3, 1) := by decide +kernel
theorem dL_law_1314 : decode cL_law 1314 = .ok (.iconst 1, 1) := by decide +kernel
theorem dL_law_1315 : decode cL_law 1315 = .ok (.iadd, 1) := by decide +kernel
theorem dL_law_1316 : decode cL_law 1316 = .ok (.iaload, 1) := by decide +kernel
theorem dL_law_1317 : decode cL_law 1317 = .ok (.aload_n 0, 1) := by decide +kernel
theorem dL_law_1318 : decode cL_law 1318 = .ok (.iload_n 3, 1) := by decide +kernel
theorem dL_law_1319 : decode cL_law 1319 = .ok (.iconst 2, 1) := by decide +kernel
theorem dL_law_1320 : decode cL_law 1320 = .ok (.iadd, 1) := by decide +kernel
theorem dL_law_1321 : decode cL_law 1321 = .ok (.iaload, 1) := by decide +kernel
theorem dL_law_1322 : decode cL_law 1322 = .ok (.aload_n 0, 1) := by decide +kernel
theorem dL_law_1323 : decode cL_law 1323 = .ok (.iload_n 3, 1) := by decide +kernel
theorem dL_law_1324 : decode cL_law 1324 = .ok (.iconst 3, 1) := by decide +kernel
theorem dL_law_1325 : decode cL_law 1325 = .ok (.iadd, 1) := by decide +kernel
theorem dL_law_1326 : decode cL_law 1326 = .ok (.iaload, 1) := by decide +kernel
theorem dL_law_1327 : decode cL_law 1327 = .ok (.invokevirtual 118, 3) := by decide +kernel
theorem dL_law_1330 : decode cL_law 1330 = .ok (.if_icmp .eq 764, 3) := by decide +kernel
theorem dL_law_1335 : decode cL_law 1335 = .ok (.aload_n 1, 1) := by decide +kernel
theorem dL_law_1336 : decode cL_law 1336 = .ok (.aload_n 0, 1) := by decide +kernel
theorem dL_law_1337 : decode cL_law 1337 = .ok (.iload_n 3, 1) := by decide +kernel
theorem dL_law_1338 : decode cL_law 1338 = .ok (.iconst 1, 1) := by decide +kernel
theorem dL_law_1339 : decode cL_law 1339 = .ok (.iadd, 1) := by decide +kernel
theorem dL_law_1340 : decode cL_law 1340 = .ok (.iaload, 1) := by decide +kernel
theorem dL_law_1341 : decode cL_law 1341 = .ok (.aload_n 0, 1) := by decide +kernel
theorem dL_law_1342 : decode cL_law 1342 = .ok (.iload_n 3, 1) := by decide +kernel
theorem dL_law_1343 : decode cL_law 1343 = .ok (.iconst 2, 1) := by decide +kernel
theorem dL_law_1344 : decode cL_law 1344 = .ok (.iadd, 1) := by decide +kernel
theorem dL_law_1345 : decode cL_law 1345 = .ok (.iaload, 1) := by decide +kernel
theorem dL_law_1346 : decode cL_law 1346 = .ok (.invokevirtual 119, 3) := by decide +kernel
theorem dL_law_1349 : decode cL_law 1349 = .ok (.aload_n 2, 1) := by decide +kernel
theorem dL_law_1350 : decode cL_law 1350 = .ok (.aload_n 0, 1) := by decide +kernel
theorem dL_law_1351 : decode cL_law 1351 = .ok (.iload_n 3, 1) := by decide +kernel
theorem dL_law_1352 : decode cL_law 1352 = .ok (.iconst 1, 1) := by decide +kernel
theorem dL_law_1353 : decode cL_law 1353 = .ok (.iadd, 1) := by decide +kernel
theorem dL_law_1354 : decode cL_law 1354 = .ok (.iaload, 1) := by decide +kernel
theorem dL_law_1355 : decode cL_law 1355 = .ok (.aload_n 0, 1) := by decide +kernel
theorem dL_law_1356 : decode cL_law 1356 = .ok (.iload_n 3, 1) := by decide +kernel
theorem dL_law_1357 : decode cL_law 1357 = .ok (.iconst 2, 1) := by decide +kernel
theorem dL_law_1358 : decode cL_law 1358 = .ok (.iadd, 1) := by decide +kernel
theorem dL_law_1359 : decode cL_law 1359 = .ok (.iaload, 1) := by decide +kernel
theorem dL_law_1360 : decode cL_law 1360 = .ok (.invokevirtual 122, 3) := by decide +kernel
theorem dL_law_1363 : decode cL_law 1363 = .ok (.if_icmp .eq 731, 3) := by decide +kernel
theorem dL_law_1368 : decode cL_law 1368 = .ok (.aload_n 1, 1) := by decide +kernel
theorem dL_law_1369 : decode cL_law 1369 = .ok (.aload_n 0, 1) := by decide +kernel
theorem dL_law_1370 : decode cL_law 1370 = .ok (.iload_n 3, 1) := by decide +kernel
theorem dL_law_1371 : decode cL_law 1371 = .ok (.iconst 1, 1) := by decide +kernel
theorem dL_law_1372 : decode cL_law 1372 = .ok (.iadd, 1) := by decide +kernel
theorem dL_law_1373 : decode cL_law 1373 = .ok (.iaload, 1) := by decide +kernel
theorem dL_law_1374 : decode cL_law 1374 = .ok (.aload_n 0, 1) := by decide +kernel
theorem dL_law_1375 : decode cL_law 1375 = .ok (.iload_n 3, 1) := by decide +kernel
theorem dL_law_1376 : decode cL_law 1376 = .ok (.iconst 2, 1) := by decide +kernel
theorem dL_law_1377 : decode cL_law 1377 = .ok (.iadd, 1) := by decide +kernel
theorem dL_law_1378 : decode cL_law 1378 = .ok (.iaload, 1) := by decide +kernel
theorem dL_law_1379 : decode cL_law 1379 = .ok (.invokevirtual 123, 3) := by decide +kernel
theorem dL_law_1382 : decode cL_law 1382 = .ok (.aload_n 2, 1) := by decide +kernel
theorem dL_law_1383 : decode cL_law 1383 = .ok (.aload_n 0, 1) := by decide +kernel
theorem dL_law_1384 : decode cL_law 1384 = .ok (.iload_n 3, 1) := by decide +kernel
theorem dL_law_1385 : decode cL_law 1385 = .ok (.iconst 1, 1) := by decide +kernel
theorem dL_law_1386 : decode cL_law 1386 = .ok (.iadd, 1) := by decide +kernel
theorem dL_law_1387 : decode cL_law 1387 = .ok (.iaload, 1) := by decide +kernel
theorem dL_law_1388 : decode cL_law 1388 = .ok (.aload_n 0, 1) := by decide +kernel
theorem dL_law_1389 : decode cL_law 1389 = .ok (.iload_n 3, 1) := by decide +kernel
theorem dL_law_1390 : decode cL_law 1390 = .ok (.iconst 2, 1) := by decide +kernel
theorem dL_law_1391 : decode cL_law 1391 = .ok (.iadd, 1) := by decide +kernel
theorem dL_law_1392 : decode cL_law 1392 = .ok (.iaload, 1) := by decide +kernel
theorem dL_law_1393 : decode cL_law 1393 = .ok (.invokevirtual 126, 3) := by decide +kernel
theorem dL_law_1396 : decode cL_law 1396 = .ok (.if_icmp .eq 698, 3) := by decide +kernel
theorem dL_law_1401 : decode cL_law 1401 = .ok (.aload_n 1, 1) := by decide +kernel
theorem dL_law_1402 : decode cL_law 1402 = .ok (.aload_n 0, 1) := by decide +kernel
theorem dL_law_1403 : decode cL_law 1403 = .ok (.iload_n 3, 1) := by decide +kernel
theorem dL_law_1404 : decode cL_law 1404 = .ok (.iconst 1, 1) := by decide +kernel
theorem dL_law_1405 : decode cL_law 1405 = .ok (.iadd, 1) := by decide +kernel
theorem dL_law_1406 : decode cL_law 1406 = .ok (.iaload, 1) := by decide +kernel
theorem dL_law_1407 : decode cL_law 1407 = .ok (.aload_n 0, 1) := by decide +kernel
theorem dL_law_1408 : decode cL_law 1408 = .ok (.iload_n 3, 1) := by decide +kernel
theorem dL_law_1409 : decode cL_law 1409 = .ok (.iconst 2, 1) := by decide +kernel
theorem dL_law_1410 : decode cL_law 1410 = .ok (.iadd, 1) := by decide +kernel
theorem dL_law_1411 : decode cL_law 1411 = .ok (.iaload, 1) := by decide +kernel
theorem dL_law_1412 : decode cL_law 1412 = .ok (.invokevirtual 127, 3) := by decide +kernel
theorem dL_law_1415 : decode cL_law 1415 = .ok (.aload_n 2, 1) := by decide +kernel
theorem dL_law_1416 : decode cL_law 1416 = .ok (.aload_n 0, 1) := by decide +kernel
theorem dL_law_1417 : decode cL_law 1417 = .ok (.iload_n 3, 1) := by decide +kernel
theorem dL_law_1418 : decode cL_law 1418 = .ok (.iconst 1, 1) := by decide +kernel
theorem dL_law_1419 : decode cL_law 1419 = .ok (.iadd, 1) := by decide +kernel
theorem dL_law_1420 : decode cL_law 1420 = .ok (.iaload, 1) := by decide +kernel
theorem dL_law_1421 : decode cL_law 1421 = .ok (.aload_n 0, 1) := by decide +kernel
theorem dL_law_1422 : decode cL_law 1422 = .ok (.iload_n 3, 1) := by decide +kernel
theorem dL_law_1423 : decode cL_law 1423 = .ok (.iconst 2, 1) := by decide +kernel
theorem dL_law_1424 : decode cL_law 1424 = .ok (.iadd, 1) := by decide +kernel
theorem dL_law_1425 : decode cL_law 1425 = .ok (.iaload, 1) := by decide +kernel
theorem dL_law_1426 : decode cL_law 1426 = .ok (.invokevirtual 130, 3) := by decide +kernel
theorem dL_law_1429 : decode cL_law 1429 = .ok (.if_icmp .eq 665, 3) := by decide +kernel
theorem dL_law_1434 : decode cL_law 1434 = .ok (.aload_n 1, 1) := by decide +kernel
theorem dL_law_1435 : decode cL_law 1435 = .ok (.aload_n 0, 1) := by decide +kernel
theorem dL_law_1436 : decode cL_law 1436 = .ok (.iload_n 3, 1) := by decide +kernel
theorem dL_law_1437 : decode cL_law 1437 = .ok (.iconst 1, 1) := by decide +kernel
theorem dL_law_1438 : decode cL_law 1438 = .ok (.iadd, 1) := by decide +kernel
theorem dL_law_1439 : decode cL_law 1439 = .ok (.iaload, 1) := by decide +kernel
theorem dL_law_1440 : decode cL_law 1440 = .ok (.invokevirtual 131, 3) := by decide +kernel
theorem dL_law_1443 : decode cL_law 1443 = .ok (.aload_n 2, 1) := by decide +kernel
theorem dL_law_1444 : decode cL_law 1444 = .ok (.aload_n 0, 1) := by decide +kernel
theorem dL_law_1445 : decode cL_law 1445 = .ok (.iload_n 3, 1) := by decide +kernel
theorem dL_law_1446 : decode cL_law 1446 = .ok (.iconst 1, 1) := by decide +kernel
theorem dL_law_1447 : decode cL_law 1447 = .ok (.iadd, 1) := by decide +kernel
theorem dL_law_1448 : decode cL_law 1448 = .ok (.iaload, 1) := by decide +kernel
theorem dL_law_1449 : decode cL_law 1449 = .ok (.invokevirtual 134, 3) := by decide +kernel
theorem dL_law_1452 : decode cL_law 1452 = .ok (.if_icmp .eq 642, 3) := by decide +kernel
theorem dL_law_1457 : decode cL_law 1457 = .ok (.aload_n 1, 1) := by decide +kernel
theorem dL_law_1458 : decode cL_law 1458 = .ok (.invokevirtual 135, 3) := by decide +kernel
theorem dL_law_1461 : decode cL_law 1461 = .ok (.aload_n 2, 1) := by decide +kernel
theorem dL_law_1462 : decode cL_law 1462 = .ok (.invokevirtual 138, 3) := by decide +kernel
theorem dL_law_1465 : decode cL_law 1465 = .ok (.if_icmp .eq 629, 3) := by decide +kernel
theorem dL_law_1470 : decode cL_law 1470 = .ok (.aload_n 1, 1) := by decide +kernel
theorem dL_law_1471 : decode cL_law 1471 = .ok (.aload_n 0, 1) := by decide +kernel
theorem dL_law_1472 : decode cL_law 1472 = .ok (.iload_n 3, 1) := by decide +kernel
theorem dL_law_1473 : decode cL_law 1473 = .ok (.iconst 1, 1) := by decide +kernel
theorem dL_law_1474 : decode cL_law 1474 = .ok (.iadd, 1) := by decide +kernel
theorem dL_law_1475 : decode cL_law 1475 = .ok (.iaload, 1) := by decide +kernel
theorem dL_law_1476 : decode cL_law 1476 = .ok (.invokevirtual 139, 3) := by decide +kernel
theorem dL_law_1479 : decode cL_law 1479 = .ok (.aload_n 2, 1) := by decide +kernel
theorem dL_law_1480 : decode cL_law 1480 = .ok (.aload_n 0, 1) := by decide +kernel
theorem dL_law_1481 : decode cL_law 1481 = .ok (.iload_n 3, 1) := by decide +kernel
theorem dL_law_1482 : decode cL_law 1482 = .ok (.iconst 1, 1) := by decide +kernel
theorem dL_law_1483 : decode cL_law 1483 = .ok (.iadd, 1) := by decide +kernel
theorem dL_law_1484 : decode cL_law 1484 = .ok (.iaload, 1) := by decide +kernel
theorem dL_law_1485 : decode cL_law 1485 = .ok (.invokevirtual 142, 3) := by decide +kernel
theorem dL_law_1488 : decode cL_law 1488 = .ok (.if_icmp .eq 606, 3) := by decide +kernel
theorem dL_law_1493 : decode cL_law 1493 = .ok (.aload_n 1, 1) := by decide +kernel
theorem dL_law_1494 : decode cL_law 1494 = .ok (.aload_n 0, 1) := by decide +kernel
theorem dL_law_1495 : decode cL_law 1495 = .ok (.iload_n 3, 1) := by decide +kernel
theorem dL_law_1496 : decode cL_law 1496 = .ok (.iconst 1, 1) := by decide +kernel
theorem dL_law_1497 : decode cL_law 1497 = .ok (.iadd, 1) := by decide +kernel
theorem dL_law_1498 : decode cL_law 1498 = .ok (.iaload, 1) := by decide +kernel
theorem dL_law_1499 : decode cL_law 1499 = .ok (.aload_n 0, 1) := by decide +kernel
theorem dL_law_1500 : decode cL_law 1500 = .ok (.iload_n 3, 1) := by decide +kernel
theorem dL_law_1501 : decode cL_law 1501 = .ok (.iconst 2, 1) := by decide +kernel
theorem dL_law_1502 : decode cL_law 1502 = .ok (.iadd, 1) := by decide +kernel
theorem dL_law_1503 : decode cL_law 1503 = .ok (.iaload, 1) := by decide +kernel
theorem dL_law_1504 : decode cL_law 1504 = .ok (.invokevirtual 143, 3) := by decide +kernel
theorem dL_law_1507 : decode cL_law 1507 = .ok (.aload_n 2, 1) := by decide +kernel
theorem dL_law_1508 : decode cL_law 1508 = .ok (.aload_n 0, 1) := by decide +kernel
theorem dL_law_1509 : decode cL_law 1509 = .ok (.iload_n 3, 1) := by decide +kernel
theorem dL_law_1510 : decode cL_law 1510 = .ok (.iconst 1, 1) := by decide +kernel
theorem dL_law_1511 : decode cL_law 1511 = .ok (.iadd, 1) := by decide +kernel
theorem dL_law_1512 : decode cL_law 1512 = .ok (.iaload, 1) := by decide +kernel
theorem dL_law_1513 : decode cL_law 1513 = .ok (.aload_n 0, 1) := by decide +kernel
theorem dL_law_1514 : decode cL_law 1514 = .ok (.iload_n 3, 1) := by decide +kernel
theorem dL_law_1515 : decode cL_law 1515 = .ok (.iconst 2, 1) := by decide +kernel
theorem dL_law_1516 : decode cL_law 1516 = .ok (.iadd, 1) := by decide +kernel
theorem dL_law_1517 : decode cL_law 1517 = .ok (.iaload, 1) := by decide +kernel
theorem dL_law_1518 : decode cL_law 1518 = .ok (.invokevirtual 146, 3) := by decide +kernel
theorem dL_law_1521 : decode cL_law 1521 = .ok (.if_icmp .eq 573, 3) := by decide +kernel
theorem dL_law_1526 : decode cL_law 1526 = .ok (.aload_n 1, 1) := by decide +kernel
theorem dL_law_1527 : decode cL_law 1527 = .ok (.aload_n 0, 1) := by decide +kernel
theorem dL_law_1528 : decode cL_law 1528 = .ok (.iload_n 3, 1) := by decide +kernel
theorem dL_law_1529 : decode cL_law 1529 = .ok (.iconst 1, 1) := by decide +kernel
theorem dL_law_1530 : decode cL_law 1530 = .ok (.iadd, 1) := by decide +kernel
theorem dL_law_1531 : decode cL_law 1531 = .ok (.iaload, 1) := by decide +kernel
theorem dL_law_1532 : decode cL_law 1532 = .ok (.invokevirtual 147, 3) := by decide +kernel
theorem dL_law_1535 : decode cL_law 1535 = .ok (.aload_n 2, 1) := by decide +kernel
theorem dL_law_1536 : decode cL_law 1536 = .ok (.aload_n 0, 1) := by decide +kernel
theorem dL_law_1537 : decode cL_law 1537 = .ok (.iload_n 3, 1) := by decide +kernel
theorem dL_law_1538 : decode cL_law 1538 = .ok (.iconst 1, 1) := by decide +kernel
theorem dL_law_1539 : decode cL_law 1539 = .ok (.iadd, 1) := by decide +kernel
theorem dL_law_1540 : decode cL_law 1540 = .ok (.iaload, 1) := by decide +kernel
theorem dL_law_1541 : decode cL_law 1541 = .ok (.invokevirtual 150, 3) := by decide +kernel
theorem dL_law_1544 : decode cL_law 1544 = .ok (.if_icmp .eq 550, 3) := by decide +kernel
theorem dL_law_1549 : decode cL_law 1549 = .ok (.aload_n 1, 1) := by decide +kernel
theorem dL_law_1550 : decode cL_law 1550 = .ok (.aload_n 0, 1) := by decide +kernel
theorem dL_law_1551 : decode cL_law 1551 = .ok (.iload_n 3, 1) := by decide +kernel
theorem dL_law_1552 : decode cL_law 1552 = .ok (.iconst 1, 1) := by decide +kernel
theorem dL_law_1553 : decode cL_law 1553 = .ok (.iadd, 1) := by decide +kernel
theorem dL_law_1554 : decode cL_law 1554 = .ok (.iaload, 1) := by decide +kernel
theorem dL_law_1555 : decode cL_law 1555 = .ok (.invokevirtual 151, 3) := by decide +kernel
theorem dL_law_1558 : decode cL_law 1558 = .ok (.aload_n 2, 1) := by decide +kernel
theorem dL_law_1559 : decode cL_law 1559 = .ok (.aload_n 0, 1) := by decide +kernel
theorem dL_law_1560 : decode cL_law 1560 = .ok (.iload_n 3, 1) := by decide +kernel
theorem dL_law_1561 : decode cL_law 1561 = .ok (.iconst 1, 1) := by decide +kernel
theorem dL_law_1562 : decode cL_law 1562 = .ok (.iadd, 1) := by decide +kernel
theorem dL_law_1563 : decode cL_law 1563 = .ok (.iaload, 1) := by decide +kernel
theorem dL_law_1564 : decode cL_law 1564 = .ok (.invokevirtual 154, 3) := by decide +kernel
theorem dL_law_1567 : decode cL_law 1567 = .ok (.if_icmp .eq 527, 3) := by decide +kernel
theorem dL_law_1572 : decode cL_law 1572 = .ok (.aload_n 1, 1) := by decide +kernel
theorem dL_law_1573 : decode cL_law 1573 = .ok (.aload_n 0, 1) := by decide +kernel
theorem dL_law_1574 : decode cL_law 1574 = .ok (.iload_n 3, 1) := by decide +kernel
theorem dL_law_1575 : decode cL_law 1575 = .ok (.iconst 1, 1) := by decide +kernel
theorem dL_law_1576 : decode cL_law 1576 = .ok (.iadd, 1) := by decide +kernel
theorem dL_law_1577 : decode cL_law 1577 = .ok (.iaload, 1) := by decide +kernel
theorem dL_law_1578 : decode cL_law 1578 = .ok (.aload_n 0, 1) := by decide +kernel
theorem dL_law_1579 : decode cL_law 1579 = .ok (.iload_n 3, 1) := by decide +kernel
theorem dL_law_1580 : decode cL_law 1580 = .ok (.iconst 2, 1) := by decide +kernel
theorem dL_law_1581 : decode cL_law 1581 = .ok (.iadd, 1) := by decide +kernel
theorem dL_law_1582 : decode cL_law 1582 = .ok (.iaload, 1) := by decide +kernel
theorem dL_law_1583 : decode cL_law 1583 = .ok (.invokevirtual 155, 3) := by decide +kernel
theorem dL_law_1586 : decode cL_law 1586 = .ok (.aload_n 2, 1) := by decide +kernel
theorem dL_law_1587 : decode cL_law 1587 = .ok (.aload_n 0, 1) := by decide +kernel
theorem dL_law_1588 : decode cL_law 1588 = .ok (.iload_n 3, 1) := by decide +kernel
theorem dL_law_1589 : decode cL_law 1589 = .ok (.iconst 1, 1) := by decide +kernel
theorem dL_law_1590 : decode cL_law 1590 = .ok (.iadd, 1) := by decide +kernel
theorem dL_law_1591 : decode cL_law 1591 = .ok (.iaload, 1) := by decide +kernel
theorem dL_law_1592 : decode cL_law 1592 = .ok (.aload_n 0, 1) := by decide +kernel
theorem dL_law_1593 : decode cL_law 1593 = .ok (.iload_n 3, 1) := by decide +kernel
theorem dL_law_1594 : decode cL_law 1594 = .ok (.iconst 2, 1) := by decide +kernel
theorem dL_law_1595 : decode cL_law 1595 = .ok (.iadd, 1) := by decide +kernel
theorem dL_law_1596 : decode cL_law 1596 = .ok (.iaload, 1) := by decide +kernel
theorem dL_law_1597 : decode cL_law 1597 = .ok (.invokevirtual 158, 3) := by decide +kernel
theorem dL_law_1600 : decode cL_law 1600 = .ok (.if_icmp .eq 494, 3) := by decide +kernel
theorem dL_law_1605 : decode cL_law 1605 = .ok (.aload_n 1, 1) := by decide +kernel
theorem dL_law_1606 : decode cL_law 1606 = .ok (.aload_n 0, 1) := by decide +kernel
theorem dL_law_1607 : decode cL_law 1607 = .ok (.iload_n 3, 1) := by decide +kernel
theorem dL_law_1608 : decode cL_law 1608 = .ok (.iconst 1, 1) := by decide +kernel
theorem dL_law_1609 : decode cL_law 1609 = .ok (.iadd, 1) := by decide +kernel
theorem dL_law_1610 : decode cL_law 1610 = .ok (.iaload, 1) := by decide +kernel
theorem dL_law_1611 : decode cL_law 1611 = .ok (.aload_n 0, 1) := by decide +kernel
theorem dL_law_1612 : decode cL_law 1612 = .ok (.iload_n 3, 1) := by decide +kernel
theorem dL_law_1613 : decode cL_law 1613 = .ok (.iconst 2, 1) := by decide +kernel
theorem dL_law_1614 : decode cL_law 1614 = .ok (.iadd, 1) := by decide +kernel
theorem dL_law_1615 : decode cL_law 1615 = .ok (.iaload, 1) := by decide +kernel
theorem dL_law_1616 : decode cL_law 1616 = .ok (.invokevirtual 159, 3) := by decide +kernel
theorem dL_law_1619 : decode cL_law 1619 = .ok (.aload_n 2, 1) := by decide +kernel
theorem dL_law_1620 : decode cL_law 1620 = .ok (.aload_n 0, 1) := by decide +kernel
theorem dL_law_1621 : decode cL_law 1621 = .ok (.iload_n 3, 1) := by decide +kernel
theorem dL_law_1622 : decode cL_law 1622 = .ok (.iconst 1, 1) := by decide +kernel
theorem dL_law_1623 : decode cL_law 1623 = .ok (.iadd, 1) := by decide +kernel
theorem dL_law_1624 : decode cL_law 1624 = .ok (.iaload, 1) := by decide +kernel
theorem dL_law_1625 : decode cL_law 1625 = .ok (.aload_n 0, 1) := by decide +kernel
theorem dL_law_1626 : decode cL_law 1626 = .ok (.iload_n 3, 1) := by decide +kernel
theorem dL_law_1627 : decode cL_law 1627 = .ok (.iconst 2, 1) := by decide +kernel
theorem dL_law_1628 : decode cL_law 1628 = .ok (.iadd, 1) := by decide +kernel
theorem dL_law_1629 : decode cL_law 1629 = .ok (.iaload, 1) := by decide +kernel
theorem dL_law_1630 : decode cL_law 1630 = .ok (.invokevirtual 162, 3) := by decide +kernel
theorem dL_law_1633 : decode cL_law 1633 = .ok (.if_icmp .eq 461, 3) := by decide +kernel
theorem dL_law_1638 : decode cL_law 1638 = .ok (.aload_n 1, 1) := by decide +kernel
theorem dL_law_1639 : decode cL_law 1639 = .ok (.aload_n 0, 1) := by decide +kernel
theorem dL_law_1640 : decode cL_law 1640 = .ok (.iload_n 3, 1) := by decide +kernel
theorem dL_law_1641 : decode cL_law 1641 = .ok (.iconst 1, 1) := by decide +kernel
theorem dL_law_1642 : decode cL_law 1642 = .ok (.iadd, 1) := by decide +kernel
theorem dL_law_1643 : decode cL_law 1643 = .ok (.iaload, 1) := by decide +kernel
theorem dL_law_1644 : decode cL_law 1644 = .ok (.invokevirtual 163, 3) := by decide +kernel
theorem dL_law_1647 : decode cL_law 1647 = .ok (.aload_n 2, 1) := by decide +kernel
theorem dL_law_1648 : decode cL_law 1648 = .ok (.aload_n 0, 1) := by decide +kernel
theorem dL_law_1649 : decode cL_law 1649 = .ok (.iload_n 3, 1) := by decide +kernel
theorem dL_law_1650 : decode cL_law 1650 = .ok (.iconst 1, 1) := by decide +kernel
theorem dL_law_1651 : decode cL_law 1651 = .ok (.iadd, 1) := by decide +kernel
theorem dL_law_1652 : decode cL_law 1652 = .ok (.iaload, 1) := by decide +kernel
theorem dL_law_1653 : decode cL_law 1653 = .ok (.invokevirtual 166, 3) := by decide +kernel
theorem dL_law_1656 : decode cL_law 1656 = .ok (.if_icmp .eq 438, 3) := by decide +kernel
theorem dL_law_1661 : decode cL_law 1661 = .ok (.aload_n 1, 1) := by decide +kernel
theorem dL_law_1662 : decode cL_law 1662 = .ok (.aload_n 0, 1) := by decide +kernel
theorem dL_law_1663 : decode cL_law 1663 = .ok (.iload_n 3, 1) := by decide +kernel
theorem dL_law_1664 : decode cL_law 1664 = .ok (.iconst 1, 1) := by decide +kernel
theorem dL_law_1665 : decode cL_law 1665 = .ok (.iadd, 1) := by decide +kernel
theorem dL_law_1666 : decode cL_law 1666 = .ok (.iaload, 1) := by decide +kernel
theorem dL_law_1667 : decode cL_law 1667 = .ok (.aload_n 0, 1) := by decide +kernel
theorem dL_law_1668 : decode cL_law 1668 = .ok (.iload_n 3, 1) := by decide +kernel
theorem dL_law_1669 : decode cL_law 1669 = .ok (.iconst 2, 1) := by decide +kernel
theorem dL_law_1670 : decode cL_law 1670 = .ok (.iadd, 1) := by decide +kernel
theorem dL_law_1671 : decode cL_law 1671 = .ok (.iaload, 1) := by decide +kernel
theorem dL_law_1672 : decode cL_law 1672 = .ok (.invokevirtual 167, 3) := by decide +kernel
theorem dL_law_1675 : decode cL_law 1675 = .ok (.aload_n 2, 1) := by decide +kernel
theorem dL_law_1676 : decode cL_law 1676 = .ok (.aload_n 0, 1) := by decide +kernel
theorem dL_law_1677 : decode cL_law 1677 = .ok (.iload_n 3, 1) := by decide +kernel
theorem dL_law_1678 : decode cL_law 1678 = .ok (.iconst 1, 1) := by decide +kernel
theorem dL_law_1679 : decode cL_law 1679 = .ok (.iadd, 1) := by decide +kernel
theorem dL_law_1680 : decode cL_law 1680 = .ok (.iaload, 1) := by decide +kernel
theorem dL_law_1681 : decode cL_law 1681 = .ok (.aload_n 0, 1) := by decide +kernel
theorem dL_law_1682 : decode cL_law 1682 = .ok (.iload_n 3, 1) := by decide +kernel
theorem dL_law_1683 : decode cL_law 1683 = .ok (.iconst 2, 1) := by decide +kernel
theorem dL_law_1684 : decode cL_law 1684 = .ok (.iadd, 1) := by decide +kernel
theorem dL_law_1685 : decode cL_law 1685 = .ok (.iaload, 1) := by decide +kernel
theorem dL_law_1686 : decode cL_law 1686 = .ok (.invokevirtual 170, 3) := by decide +kernel
theorem dL_law_1689 : decode cL_law 1689 = .ok (.if_icmp .eq 405, 3) := by decide +kernel
theorem dL_law_1694 : decode cL_law 1694 = .ok (.aload_n 1, 1) := by decide +kernel
theorem dL_law_1695 : decode cL_law 1695 = .ok (.aload_n 0, 1) := by decide +kernel
theorem dL_law_1696 : decode cL_law 1696 = .ok (.iload_n 3, 1) := by decide +kernel
theorem dL_law_1697 : decode cL_law 1697 = .ok (.iconst 1, 1) := by decide +kernel
theorem dL_law_1698 : decode cL_law 1698 = .ok (.iadd, 1) := by decide +kernel
theorem dL_law_1699 : decode cL_law 1699 = .ok (.iaload, 1) := by decide +kernel
theorem dL_law_1700 : decode cL_law 1700 = .ok (.invokevirtual 171, 3) := by decide +kernel
theorem dL_law_1703 : decode cL_law 1703 = .ok (.aload_n 2, 1) := by decide +kernel
theorem dL_law_1704 : decode cL_law 1704 = .ok (.aload_n 0, 1) := by decide +kernel
theorem dL_law_1705 : decode cL_law 1705 = .ok (.iload_n 3, 1) := by decide +kernel
theorem dL_law_1706 : decode cL_law 1706 = .ok (.iconst 1, 1) := by decide +kernel
theorem dL_law_1707 : decode cL_law 1707 = .ok (.iadd, 1) := by decide +kernel
theorem dL_law_1708 : decode cL_law 1708 = .ok (.iaload, 1) := by decide +kernel
theorem dL_law_1709 : decode cL_law 1709 = .ok (.invokevirtual 174, 3) := by decide +kernel
theorem dL_law_1712 : decode cL_law 1712 = .ok (.if_icmp .eq 382, 3) := by decide +kernel
theorem dL_law_1717 : decode cL_law 1717 = .ok (.aload_n 1, 1) := by decide +kernel
theorem dL_law_1718 : decode cL_law 1718 = .ok (.aload_n 0, 1) := by decide +kernel
theorem dL_law_1719 : decode cL_law 1719 = .ok (.iload_n 3, 1) := by decide +kernel
theorem dL_law_1720 : decode cL_law 1720 = .ok (.iconst 1, 1) := by decide +kernel
theorem dL_law_1721 : decode cL_law 1721 = .ok (.iadd, 1) := by decide +kernel
theorem dL_law_1722 : decode cL_law 1722 = .ok (.iaload, 1) := by decide +kernel
theorem dL_law_1723 : decode cL_law 1723 = .ok (.aload_n 0, 1) := by decide +kernel
theorem dL_law_1724 : decode cL_law 1724 = .ok (.iload_n 3, 1) := by decide +kernel
theorem dL_law_1725 : decode cL_law 1725 = .ok (.iconst 2, 1) := by decide +kernel
theorem dL_law_1726 : decode cL_law 1726 = .ok (.iadd, 1) := by decide +kernel
theorem dL_law_1727 : decode cL_law 1727 = .ok (.iaload, 1) := by decide +kernel
theorem dL_law_1728 : decode cL_law 1728 = .ok (.invokevirtual 175, 3) := by decide +kernel
theorem dL_law_1731 : decode cL_law 1731 = .ok (.aload_n 2, 1) := by decide +kernel
theorem dL_law_1732 : decode cL_law 1732 = .ok (.aload_n 0, 1) := by decide +kernel
theorem dL_law_1733 : decode cL_law 1733 = .ok (.iload_n 3, 1) := by decide +kernel
theorem dL_law_1734 : decode cL_law 1734 = .ok (.iconst 1, 1) := by decide +kernel
theorem dL_law_1735 : decode cL_law 1735 = .ok (.iadd, 1) := by decide +kernel
theorem dL_law_1736 : decode cL_law 1736 = .ok (.iaload, 1) := by decide +kernel
theorem dL_law_1737 : decode cL_law 1737 = .ok (.aload_n 0, 1) := by decide +kernel
theorem dL_law_1738 : decode cL_law 1738 = .ok (.iload_n 3, 1) := by decide +kernel
theorem dL_law_1739 : decode cL_law 1739 = .ok (.iconst 2, 1) := by decide +kernel
theorem dL_law_1740 : decode cL_law 1740 = .ok (.iadd, 1) := by decide +kernel
theorem dL_law_1741 : decode cL_law 1741 = .ok (.iaload, 1) := by decide +kernel
theorem dL_law_1742 : decode cL_law 1742 = .ok (.invokevirtual 178, 3) := by decide +kernel
theorem dL_law_1745 : decode cL_law 1745 = .ok (.if_icmp .eq 349, 3) := by decide +kernel
theorem dL_law_1750 : decode cL_law 1750 = .ok (.aload_n 1, 1) := by decide +kernel
theorem dL_law_1751 : decode cL_law 1751 = .ok (.aload_n 0, 1) := by decide +kernel
theorem dL_law_1752 : decode cL_law 1752 = .ok (.iload_n 3, 1) := by decide +kernel
theorem dL_law_1753 : decode cL_law 1753 = .ok (.iconst 1, 1) := by decide +kernel
theorem dL_law_1754 : decode cL_law 1754 = .ok (.iadd, 1) := by decide +kernel
theorem dL_law_1755 : decode cL_law 1755 = .ok (.iaload, 1) := by decide +kernel
theorem dL_law_1756 : decode cL_law 1756 = .ok (.aload_n 0, 1) := by decide +kernel
theorem dL_law_1757 : decode cL_law 1757 = .ok (.iload_n 3, 1) := by decide +kernel
theorem dL_law_1758 : decode cL_law 1758 = .ok (.iconst 2, 1) := by decide +kernel
theorem dL_law_1759 : decode cL_law 1759 = .ok (.iadd, 1) := by decide +kernel
theorem dL_law_1760 : decode cL_law 1760 = .ok (.iaload, 1) := by decide +kernel
theorem dL_law_1761 : decode cL_law 1761 = .ok (.aload_n 0, 1) := by decide +kernel
theorem dL_law_1762 : decode cL_law 1762 = .ok (.iload_n 3, 1) := by decide +kernel
theorem dL_law_1763 : decode cL_law 1763 = .ok (.iconst 3, 1) := by decide +kernel
theorem dL_law_1764 : decode cL_law 1764 = .ok (.iadd, 1) := by decide +kernel
theorem dL_law_1765 : decode cL_law 1765 = .ok (.iaload, 1) := by decide +kernel
theorem dL_law_1766 : decode cL_law 1766 = .ok (.aload_n 0, 1) := by decide +kernel
theorem dL_law_1767 : decode cL_law 1767 = .ok (.iload_n 3, 1) := by decide +kernel
theorem dL_law_1768 : decode cL_law 1768 = .ok (.iconst 4, 1) := by decide +kernel
theorem dL_law_1769 : decode cL_law 1769 = .ok (.iadd, 1) := by decide +kernel
theorem dL_law_1770 : decode cL_law 1770 = .ok (.iaload, 1) := by decide +kernel
theorem dL_law_1771 : decode cL_law 1771 = .ok (.invokevirtual 179, 3) := by decide +kernel
theorem dL_law_1774 : decode cL_law 1774 = .ok (.aload_n 2, 1) := by decide +kernel
theorem dL_law_1775 : decode cL_law 1775 = .ok (.aload_n 0, 1) := by decide +kernel
theorem dL_law_1776 : decode cL_law 1776 = .ok (.iload_n 3, 1) := by decide +kernel
theorem dL_law_1777 : decode cL_law 1777 = .ok (.iconst 1, 1) := by decide +kernel
theorem dL_law_1778 : decode cL_law 1778 = .ok (.iadd, 1) := by decide +kernel
theorem dL_law_1779 : decode cL_law 1779 = .ok (.iaload, 1) := by decide +kernel
theorem dL_law_1780 : decode cL_law 1780 = .ok (.aload_n 0, 1) := by decide +kernel
theorem dL_law_1781 : decode cL_law 1781 = .ok (.iload_n 3, 1) := by decide +kernel
theorem dL_law_1782 : decode cL_law 1782 = .ok (.iconst 2, 1) := by decide +kernel
theorem dL_law_1783 : decode cL_law 1783 = .ok (.iadd, 1) := by decide +kernel
theorem dL_law_1784 : decode cL_law 1784 = .ok (.iaload, 1) := by decide +kernel
theorem dL_law_1785 : decode cL_law 1785 = .ok (.aload_n 0, 1) := by decide +kernel
theorem dL_law_1786 : decode cL_law 1786 = .ok (.iload_n 3, 1) := by decide +kernel
theorem dL_law_1787 : decode cL_law 1787 = .ok (.iconst 3, 1) := by decide +kernel
theorem dL_law_1788 : decode cL_law 1788 = .ok (.iadd, 1) := by decide +kernel
theorem dL_law_1789 : decode cL_law 1789 = .ok (.iaload, 1) := by decide +kernel
theorem dL_law_1790 : decode cL_law 1790 = .ok (.aload_n 0, 1) := by decide +kernel
theorem dL_law_1791 : decode cL_law 1791 = .ok (.iload_n 3, 1) := by decide +kernel
theorem dL_law_1792 : decode cL_law 1792 = .ok (.iconst 4, 1) := by decide +kernel
theorem dL_law_1793 : decode cL_law 1793 = .ok (.iadd, 1) := by decide +kernel
theorem dL_law_1794 : decode cL_law 1794 = .ok (.iaload, 1) := by decide +kernel
theorem dL_law_1795 : decode cL_law 1795 = .ok (.invokevirtual 182, 3) := by decide +kernel
theorem dL_law_1798 : decode cL_law 1798 = .ok (.if_icmp .eq 296, 3) := by decide +kernel
theorem dL_law_1803 : decode cL_law 1803 = .ok (.aload_n 1, 1) := by decide +kernel
theorem dL_law_1804 : decode cL_law 1804 = .ok (.aload_n 0, 1) := by decide +kernel
theorem dL_law_1805 : decode cL_law 1805 = .ok (.iload_n 3, 1) := by decide +kernel
theorem dL_law_1806 : decode cL_law 1806 = .ok (.iconst 1, 1) := by decide +kernel
theorem dL_law_1807 : decode cL_law 1807 = .ok (.iadd, 1) := by decide +kernel
theorem dL_law_1808 : decode cL_law 1808 = .ok (.iaload, 1) := by decide +kernel
theorem dL_law_1809 : decode cL_law 1809 = .ok (.aload_n 0, 1) := by decide +kernel
theorem dL_law_1810 : decode cL_law 1810 = .ok (.iload_n 3, 1) := by decide +kernel
theorem dL_law_1811 : decode cL_law 1811 = .ok (.iconst 2, 1) := by decide +kernel
theorem dL_law_1812 : decode cL_law 1812 = .ok (.iadd, 1) := by decide +kernel
theorem dL_law_1813 : decode cL_law 1813 = .ok (.iaload, 1) := by decide +kernel
theorem dL_law_1814 : decode cL_law 1814 = .ok (.aload_n 0, 1) := by decide +kernel
theorem dL_law_1815 : decode cL_law 1815 = .ok (.iload_n 3, 1) := by decide +kernel
theorem dL_law_1816 : decode cL_law 1816 = .ok (.iconst 3, 1) := by decide +kernel
theorem dL_law_1817 : decode cL_law 1817 = .ok (.iadd, 1) := by decide +kernel
theorem dL_law_1818 : decode cL_law 1818 = .ok (.iaload, 1) := by decide +kernel
theorem dL_law_1819 : decode cL_law 1819 = .ok (.invokevirtual 183, 3) := by decide +kernel
theorem dL_law_1822 : decode cL_law 1822 = .ok (.aload_n 2, 1) := by decide +kernel
theorem dL_law_1823 : decode cL_law 1823 = .ok (.aload_n 0, 1) := by decide +kernel
theorem dL_law_1824 : decode cL_law 1824 = .ok (.iload_n 3, 1) := by decide +kernel
theorem dL_law_1825 : decode cL_law 1825 = .ok (.iconst 1, 1) := by decide +kernel
theorem dL_law_1826 : decode cL_law 1826 = .ok (.iadd, 1) := by decide +kernel
theorem dL_law_1827 : decode cL_law 1827 = .ok (.iaload, 1) := by decide +kernel
theorem dL_law_1828 : decode cL_law 1828 = .ok (.aload_n 0, 1) := by decide +kernel
theorem dL_law_1829 : decode cL_law 1829 = .ok (.iload_n 3, 1) := by decide +kernel
theorem dL_law_1830 : decode cL_law 1830 = .ok (.iconst 2, 1) := by decide +kernel
theorem dL_law_1831 : decode cL_law 1831 = .ok (.iadd, 1) := by decide +kernel
theorem dL_law_1832 : decode cL_law 1832 = .ok (.iaload, 1) := by decide +kernel
theorem dL_law_1833 : decode cL_law 1833 = .ok (.aload_n 0, 1) := by decide +kernel
theorem dL_law_1834 : decode cL_law 1834 = .ok (.iload_n 3, 1) := by decide +kernel
theorem dL_law_1835 : decode cL_law 1835 = .ok (.iconst 3, 1) := by decide +kernel
theorem dL_law_1836 : decode cL_law 1836 = .ok (.iadd, 1) := by decide +kernel
theorem dL_law_1837 : decode cL_law 1837 = .ok (.iaload, 1) := by decide +kernel
theorem dL_law_1838 : decode cL_law 1838 = .ok (.invokevirtual 186, 3) := by decide +kernel
theorem dL_law_1841 : decode cL_law 1841 = .ok (.if_icmp .eq 253, 3) := by decide +kernel
theorem dL_law_1846 : decode cL_law 1846 = .ok (.aload_n 1, 1) := by decide +kernel
theorem dL_law_1847 : decode cL_law 1847 = .ok (.aload_n 0, 1) := by decide +kernel
theorem dL_law_1848 : decode cL_law 1848 = .ok (.iload_n 3, 1) := by decide +kernel
theorem dL_law_1849 : decode cL_law 1849 = .ok (.iconst 1, 1) := by decide +kernel
theorem dL_law_1850 : decode cL_law 1850 = .ok (.iadd, 1) := by decide +kernel
theorem dL_law_1851 : decode cL_law 1851 = .ok (.iaload, 1) := by decide +kernel
theorem dL_law_1852 : decode cL_law 1852 = .ok (.invokevirtual 187, 3) := by decide +kernel
theorem dL_law_1855 : decode cL_law 1855 = .ok (.aload_n 2, 1) := by decide +kernel
theorem dL_law_1856 : decode cL_law 1856 = .ok (.aload_n 0, 1) := by decide +kernel
theorem dL_law_1857 : decode cL_law 1857 = .ok (.iload_n 3, 1) := by decide +kernel
theorem dL_law_1858 : decode cL_law 1858 = .ok (.iconst 1, 1) := by decide +kernel
theorem dL_law_1859 : decode cL_law 1859 = .ok (.iadd, 1) := by decide +kernel
theorem dL_law_1860 : decode cL_law 1860 = .ok (.iaload, 1) := by decide +kernel
theorem dL_law_1861 : decode cL_law 1861 = .ok (.invokevirtual 190, 3) := by decide +kernel
theorem dL_law_1864 : decode cL_law 1864 = .ok (.if_icmp .eq 230, 3) := by decide +kernel
theorem dL_law_1869 : decode cL_law 1869 = .ok (.aload_n 1, 1) := by decide +kernel
theorem dL_law_1870 : decode cL_law 1870 = .ok (.aload_n 0, 1) := by decide +kernel
theorem dL_law_1871 : decode cL_law 1871 = .ok (.iload_n 3, 1) := by decide +kernel
theorem dL_law_1872 : decode cL_law 1872 = .ok (.iconst 1, 1) := by decide +kernel
theorem dL_law_1873 : decode cL_law 1873 = .ok (.iadd, 1) := by decide +kernel
theorem dL_law_1874 : decode cL_law 1874 = .ok (.iaload, 1) := by decide +kernel
theorem dL_law_1875 : decode cL_law 1875 = .ok (.invokevirtual 191, 3) := by decide +kernel
theorem dL_law_1878 : decode cL_law 1878 = .ok (.aload_n 2, 1) := by decide +kernel
theorem dL_law_1879 : decode cL_law 1879 = .ok (.aload_n 0, 1) := by decide +kernel
theorem dL_law_1880 : decode cL_law 1880 = .ok (.iload_n 3, 1) := by decide +kernel
theorem dL_law_1881 : decode cL_law 1881 = .ok (.iconst 1, 1) := by decide +kernel
theorem dL_law_1882 : decode cL_law 1882 = .ok (.iadd, 1) := by decide +kernel
theorem dL_law_1883 : decode cL_law 1883 = .ok (.iaload, 1) := by decide +kernel
theorem dL_law_1884 : decode cL_law 1884 = .ok (.invokevirtual 194, 3) := by decide +kernel
theorem dL_law_1887 : decode cL_law 1887 = .ok (.if_icmp .eq 207, 3) := by decide +kernel
theorem dL_law_1892 : decode cL_law 1892 = .ok (.aload_n 1, 1) := by decide +kernel
theorem dL_law_1893 : decode cL_law 1893 = .ok (.aload_n 0, 1) := by decide +kernel
theorem dL_law_1894 : decode cL_law 1894 = .ok (.iload_n 3, 1) := by decide +kernel
theorem dL_law_1895 : decode cL_law 1895 = .ok (.iconst 1, 1) := by decide +kernel
theorem dL_law_1896 : decode cL_law 1896 = .ok (.iadd, 1) := by decide +kernel
theorem dL_law_1897 : decode cL_law 1897 = .ok (.iaload, 1) := by decide +kernel
theorem dL_law_1898 : decode cL_law 1898 = .ok (.invokevirtual 195, 3) := by decide +kernel
theorem dL_law_1901 : decode cL_law 1901 = .ok (.aload_n 2, 1) := by decide +kernel
theorem dL_law_1902 : decode cL_law 1902 = .ok (.aload_n 0, 1) := by decide +kernel
theorem dL_law_1903 : decode cL_law 1903 = .ok (.iload_n 3, 1) := by decide +kernel
theorem dL_law_1904 : decode cL_law 1904 = .ok (.iconst 1, 1) := by decide +kernel
theorem dL_law_1905 : decode cL_law 1905 = .ok (.iadd, 1) := by decide +kernel
theorem dL_law_1906 : decode cL_law 1906 = .ok (.iaload, 1) := by decide +kernel
theorem dL_law_1907 : decode cL_law 1907 = .ok (.invokevirtual 198, 3) := by decide +kernel
theorem dL_law_1910 : decode cL_law 1910 = .ok (.if_icmp .eq 184, 3) := by decide +kernel
theorem dL_law_1915 : decode cL_law 1915 = .ok (.aload_n 1, 1) := by decide +kernel
theorem dL_law_1916 : decode cL_law 1916 = .ok (.aload_n 0, 1) := by decide +kernel
theorem dL_law_1917 : decode cL_law 1917 = .ok (.iload_n 3, 1) := by decide +kernel
theorem dL_law_1918 : decode cL_law 1918 = .ok (.iconst 1, 1) := by decide +kernel
theorem dL_law_1919 : decode cL_law 1919 = .ok (.iadd, 1) := by decide +kernel
theorem dL_law_1920 : decode cL_law 1920 = .ok (.iaload, 1) := by decide +kernel
theorem dL_law_1921 : decode cL_law 1921 = .ok (.aload_n 0, 1) := by decide +kernel
theorem dL_law_1922 : decode cL_law 1922 = .ok (.iload_n 3, 1) := by decide +kernel
theorem dL_law_1923 : decode cL_law 1923 = .ok (.iconst 2, 1) := by decide +kernel
theorem dL_law_1924 : decode cL_law 1924 = .ok (.iadd, 1) := by decide +kernel
theorem dL_law_1925 : decode cL_law 1925 = .ok (.iaload, 1) := by decide +kernel
theorem dL_law_1926 : decode cL_law 1926 = .ok (.aload_n 0, 1) := by decide +kernel
theorem dL_law_1927 : decode cL_law 1927 = .ok (.iload_n 3, 1) := by decide +kernel
theorem dL_law_1928 : decode cL_law 1928 = .ok (.iconst 3, 1) := by decide +kernel
theorem dL_law_1929 : decode cL_law 1929 = .ok (.iadd, 1) := by decide +kernel
theorem dL_law_1930 : decode cL_law 1930 = .ok (.iaload, 1) := by decide +kernel
theorem dL_law_1931 : decode cL_law 1931 = .ok (.invokevirtual 199, 3) := by decide +kernel
theorem dL_law_1934 : decode cL_law 1934 = .ok (.aload_n 2, 1) := by decide +kernel
theorem dL_law_1935 : decode cL_law 1935 = .ok (.aload_n 0, 1) := by decide +kernel
theorem dL_law_1936 : decode cL_law 1936 = .ok (.iload_n 3, 1) := by decide +kernel
theorem dL_law_1937 : decode cL_law 1937 = .ok (.iconst 1, 1) := by decide +kernel
theorem dL_law_1938 : decode cL_law 1938 = .ok (.iadd, 1) := by decide +kernel
theorem dL_law_1939 : decode cL_law 1939 = .ok (.iaload, 1) := by decide +kernel
theorem dL_law_1940 : decode cL_law 1940 = .ok (.aload_n 0, 1) := by decide +kernel
theorem dL_law_1941 : decode cL_law 1941 = .ok (.iload_n 3, 1) := by decide +kernel
theorem dL_law_1942 : decode cL_law 1942 = .ok (.iconst 2, 1) := by decide +kernel
theorem dL_law_1943 : decode cL_law 1943 = .ok (.iadd, 1) := by decide +kernel
theorem dL_law_1944 : decode cL_law 1944 = .ok (.iaload, 1) := by decide +kernel
theorem dL_law_1945 : decode cL_law 1945 = .ok (.aload_n 0, 1) := by decide +kernel
theorem dL_law_1946 : decode cL_law 1946 = .ok (.iload_n 3, 1) := by decide +kernel
theorem dL_law_1947 : decode cL_law 1947 = .ok (.iconst 3, 1) := by decide +kernel
theorem dL_law_1948 : decode cL_law 1948 = .ok (.iadd, 1) := by decide +kernel
theorem dL_law_1949 : decode cL_law 1949 = .ok (.iaload, 1) := by decide +kernel
theorem dL_law_1950 : decode cL_law 1950 = .ok (.invokevirtual 202, 3) := by decide +kernel
theorem dL_law_1953 : decode cL_law 1953 = .ok (.if_icmp .eq 141, 3) := by decide +kernel
theorem dL_law_1958 : decode cL_law 1958 = .ok (.aload_n 1, 1) := by decide +kernel
theorem dL_law_1959 : decode cL_law 1959 = .ok (.aload_n 0, 1) := by decide +kernel
theorem dL_law_1960 : decode cL_law 1960 = .ok (.iload_n 3, 1) := by decide +kernel
theorem dL_law_1961 : decode cL_law 1961 = .ok (.iconst 1, 1) := by decide +kernel
theorem dL_law_1962 : decode cL_law 1962 = .ok (.iadd, 1) := by decide +kernel
theorem dL_law_1963 : decode cL_law 1963 = .ok (.iaload, 1) := by decide +kernel
theorem dL_law_1964 : decode cL_law 1964 = .ok (.aload_n 0, 1) := by decide +kernel
theorem dL_law_1965 : decode cL_law 1965 = .ok (.iload_n 3, 1) := by decide +kernel
theorem dL_law_1966 : decode cL_law 1966 = .ok (.iconst 2, 1) := by decide +kernel
theorem dL_law_1967 : decode cL_law 1967 = .ok (.iadd, 1) := by decide +kernel
theorem dL_law_1968 : decode cL_law 1968 = .ok (.iaload, 1) := by decide +kernel
theorem dL_law_1969 : decode cL_law 1969 = .ok (.aload_n 0, 1) := by decide +kernel
theorem dL_law_1970 : decode cL_law 1970 = .ok (.iload_n 3, 1) := by decide +kernel
theorem dL_law_1971 : decode cL_law 1971 = .ok (.iconst 3, 1) := by decide +kernel
theorem dL_law_1972 : decode cL_law 1972 = .ok (.iadd, 1) := by decide +kernel
theorem dL_law_1973 : decode cL_law 1973 = .ok (.iaload, 1) := by decide +kernel
theorem dL_law_1974 : decode cL_law 1974 = .ok (.i2l, 1) := by decide +kernel
theorem dL_law_1975 : decode cL_law 1975 = .ok (.bipush 32, 2) := by decide +kernel
theorem dL_law_1977 : decode cL_law 1977 = .ok (.lshl, 1) := by decide +kernel
theorem dL_law_1978 : decode cL_law 1978 = .ok (.aload_n 0, 1) := by decide +kernel
theorem dL_law_1979 : decode cL_law 1979 = .ok (.iload_n 3, 1) := by decide +kernel
theorem dL_law_1980 : decode cL_law 1980 = .ok (.iconst 4, 1) := by decide +kernel
theorem dL_law_1981 : decode cL_law 1981 = .ok (.iadd, 1) := by decide +kernel
theorem dL_law_1982 : decode cL_law 1982 = .ok (.iaload, 1) := by decide +kernel
theorem dL_law_1983 : decode cL_law 1983 = .ok (.i2l, 1) := by decide +kernel
theorem dL_law_1984 : decode cL_law 1984 = .ok (.ldc2_w 203, 3) := by decide +kernel
theorem dL_law_1987 : decode cL_law 1987 = .ok (.land, 1) := by decide +kernel
theorem dL_law_1988 : decode cL_law 1988 = .ok (.lor, 1) := by decide +kernel
theorem dL_law_1989 : decode cL_law 1989 = .ok (.invokevirtual 205, 3) := by decide +kernel
theorem dL_law_1992 : decode cL_law 1992 = .ok (.aload_n 2, 1) := by decide +kernel
theorem dL_law_1993 : decode cL_law 1993 = .ok (.aload_n 0, 1) := by decide +kernel
theorem dL_law_1994 : decode cL_law 1994 = .ok (.iload_n 3, 1) := by decide +kernel
theorem dL_law_1995 : decode cL_law 1995 = .ok (.iconst 1, 1) := by decide +kernel
theorem dL_law_1996 : decode cL_law 1996 = .ok (.iadd, 1) := by decide +kernel
theorem dL_law_1997 : decode cL_law 1997 = .ok (.iaload, 1) := by decide +kernel
theorem dL_law_1998 : decode cL_law 1998 = .ok (.aload_n 0, 1) := by decide +kernel
theorem dL_law_1999 : decode cL_law 1999 = .ok (.iload_n 3, 1) := by decide +kernel
theorem dL_law_2000 : decode cL_law 2000 = .ok (.iconst 2, 1) := by decide +kernel
theorem dL_law_2001 : decode cL_law 2001 = .ok (.iadd, 1) := by decide +kernel
theorem dL_law_2002 : decode cL_law 2002 = .ok (.iaload, 1) := by decide +kernel
theorem dL_law_2003 : decode cL_law 2003 = .ok (.aload_n 0, 1) := by decide +kernel
theorem dL_law_2004 : decode cL_law 2004 = .ok (.iload_n 3, 1) := by decide +kernel
theorem dL_law_2005 : decode cL_law 2005 = .ok (.iconst 3, 1) := by decide +kernel
theorem dL_law_2006 : decode cL_law 2006 = .ok (.iadd, 1) := by decide +kernel
theorem dL_law_2007 : decode cL_law 2007 = .ok (.iaload, 1) := by decide +kernel
theorem dL_law_2008 : decode cL_law 2008 = .ok (.i2l, 1) := by decide +kernel
theorem dL_law_2009 : decode cL_law 2009 = .ok (.bipush 32, 2) := by decide +kernel
theorem dL_law_2011 : decode cL_law 2011 = .ok (.lshl, 1) := by decide +kernel
theorem dL_law_2012 : decode cL_law 2012 = .ok (.aload_n 0, 1) := by decide +kernel
theorem dL_law_2013 : decode cL_law 2013 = .ok (.iload_n 3, 1) := by decide +kernel
theorem dL_law_2014 : decode cL_law 2014 = .ok (.iconst 4, 1) := by decide +kernel
theorem dL_law_2015 : decode cL_law 2015 = .ok (.iadd, 1) := by decide +kernel
theorem dL_law_2016 : decode cL_law 2016 = .ok (.iaload, 1) := by decide +kernel
theorem dL_law_2017 : decode cL_law 2017 = .ok (.i2l, 1) := by decide +kernel
theorem dL_law_2018 : decode cL_law 2018 = .ok (.ldc2_w 203, 3) := by decide +kernel
theorem dL_law_2021 : decode cL_law 2021 = .ok (.land, 1) := by decide +kernel
theorem dL_law_2022 : decode cL_law 2022 = .ok (.lor, 1) := by decide +kernel
theorem dL_law_2023 : decode cL_law 2023 = .ok (.invokevirtual 209, 3) := by decide +kernel
theorem dL_law_2026 : decode cL_law 2026 = .ok (.if_icmp .eq 68, 3) := by decide +kernel
theorem dL_law_2031 : decode cL_law 2031 = .ok (.aload_n 1, 1) := by decide +kernel
theorem dL_law_2032 : decode cL_law 2032 = .ok (.aload_n 0, 1) := by decide +kernel
theorem dL_law_2033 : decode cL_law 2033 = .ok (.iload_n 3, 1) := by decide +kernel
theorem dL_law_2034 : decode cL_law 2034 = .ok (.iconst 1, 1) := by decide +kernel
theorem dL_law_2035 : decode cL_law 2035 = .ok (.iadd, 1) := by decide +kernel
theorem dL_law_2036 : decode cL_law 2036 = .ok (.iaload, 1) := by decide +kernel
theorem dL_law_2037 : decode cL_law 2037 = .ok (.aload_n 0, 1) := by decide +kernel
theorem dL_law_2038 : decode cL_law 2038 = .ok (.iload_n 3, 1) := by decide +kernel
theorem dL_law_2039 : decode cL_law 2039 = .ok (.iconst 2, 1) := by decide +kernel
theorem dL_law_2040 : decode cL_law 2040 = .ok (.iadd, 1) := by decide +kernel
theorem dL_law_2041 : decode cL_law 2041 = .ok (.iaload, 1) := by decide +kernel
theorem dL_law_2042 : decode cL_law 2042 = .ok (.aload_n 0, 1) := by decide +kernel
theorem dL_law_2043 : decode cL_law 2043 = .ok (.iload_n 3, 1) := by decide +kernel
theorem dL_law_2044 : decode cL_law 2044 = .ok (.iconst 3, 1) := by decide +kernel
theorem dL_law_2045 : decode cL_law 2045 = .ok (.iadd, 1) := by decide +kernel
theorem dL_law_2046 : decode cL_law 2046 = .ok (.iaload, 1) := by decide +kernel
theorem dL_law_2047 : decode cL_law 2047 = .ok (.aload_n 0, 1) := by decide +kernel
theorem dL_law_2048 : decode cL_law 2048 = .ok (.iload_n 3, 1) := by decide +kernel
theorem dL_law_2049 : decode cL_law 2049 = .ok (.iconst 4, 1) := by decide +kernel
theorem dL_law_2050 : decode cL_law 2050 = .ok (.iadd, 1) := by decide +kernel
theorem dL_law_2051 : decode cL_law 2051 = .ok (.iaload, 1) := by decide +kernel
theorem dL_law_2052 : decode cL_law 2052 = .ok (.aload_n 0, 1) := by decide +kernel
theorem dL_law_2053 : decode cL_law 2053 = .ok (.iload_n 3, 1) := by decide +kernel
theorem dL_law_2054 : decode cL_law 2054 = .ok (.iconst 5, 1) := by decide +kernel
theorem dL_law_2055 : decode cL_law 2055 = .ok (.iadd, 1) := by decide +kernel
theorem dL_law_2056 : decode cL_law 2056 = .ok (.iaload, 1) := by decide +kernel
theorem dL_law_2057 : decode cL_law 2057 = .ok (.invokevirtual 210, 3) := by decide +kernel
theorem dL_law_2060 : decode cL_law 2060 = .ok (.aload_n 2, 1) := by decide +kernel
theorem dL_law_2061 : decode cL_law 2061 = .ok (.aload_n 0, 1) := by decide +kernel
theorem dL_law_2062 : decode cL_law 2062 = .ok (.iload_n 3, 1) := by decide +kernel
theorem dL_law_2063 : decode cL_law 2063 = .ok (.iconst 1, 1) := by decide +kernel
theorem dL_law_2064 : decode cL_law 2064 = .ok (.iadd, 1) := by decide +kernel
theorem dL_law_2065 : decode cL_law 2065 = .ok (.iaload, 1) := by decide +kernel
theorem dL_law_2066 : decode cL_law 2066 = .ok (.aload_n 0, 1) := by decide +kernel
theorem dL_law_2067 : decode cL_law 2067 = .ok (.iload_n 3, 1) := by decide +kernel
theorem dL_law_2068 : decode cL_law 2068 = .ok (.iconst 2, 1) := by decide +kernel
theorem dL_law_2069 : decode cL_law 2069 = .ok (.iadd, 1) := by decide +kernel
theorem dL_law_2070 : decode cL_law 2070 = .ok (.iaload, 1) := by decide +kernel
theorem dL_law_2071 : decode cL_law 2071 = .ok (.aload_n 0, 1) := by decide +kernel
theorem dL_law_2072 : decode cL_law 2072 = .ok (.iload_n 3, 1) := by decide +kernel
theorem dL_law_2073 : decode cL_law 2073 = .ok (.iconst 3, 1) := by decide +kernel
theorem dL_law_2074 : decode cL_law 2074 = .ok (.iadd, 1) := by decide +kernel
theorem dL_law_2075 : decode cL_law 2075 = .ok (.iaload, 1) := by decide +kernel
theorem dL_law_2076 : decode cL_law 2076 = .ok (.aload_n 0, 1) := by decide +kernel
theorem dL_law_2077 : decode cL_law 2077 = .ok (.iload_n 3, 1) := by decide +kernel
theorem dL_law_2078 : decode cL_law 2078 = .ok (.iconst 4, 1) := by decide +kernel
theorem dL_law_2079 : decode cL_law 2079 = .ok (.iadd, 1) := by decide +kernel
theorem dL_law_2080 : decode cL_law 2080 = .ok (.iaload, 1) := by decide +kernel
theorem dL_law_2081 : decode cL_law 2081 = .ok (.aload_n 0, 1) := by decide +kernel
theorem dL_law_2082 : decode cL_law 2082 = .ok (.iload_n 3, 1) := by decide +kernel
theorem dL_law_2083 : decode cL_law 2083 = .ok (.iconst 5, 1) := by decide +kernel
theorem dL_law_2084 : decode cL_law 2084 = .ok (.iadd, 1) := by decide +kernel
theorem dL_law_2085 : decode cL_law 2085 = .ok (.iaload, 1) := by decide +kernel
theorem dL_law_2086 : decode cL_law 2086 = .ok (.invokevirtual 213, 3) := by decide +kernel
theorem dL_law_2089 : decode cL_law 2089 = .ok (.if_icmp .eq 5, 3) := by decide +kernel
theorem dL_law_2094 : decode cL_law 2094 = .ok (.iinc 3 6, 3) := by decide +kernel
theorem dL_law_2097 : decode cL_law 2097 = .ok (.goto (-2079), 3) := by decide +kernel
theorem dL_law_2100 : decode cL_law 2100 = .ok (.iconst 1, 1) := by decide +kernel
theorem dL_law_2101 : decode cL_law 2101 = .ok (.ireturn, 1) := by decide +kernel
abbrev vwCl : List vw_C := [(RX0, TX0, 12), (RX1, TX1, 7), (RX2, TX2, 15), (RX3, TX3, 9), (RX4, TX4, 3), (RX5, TX5, 8), (RX6, TX6, 4), (RX7, TX7, 3), (RX8, TX8, 3), (RX9, TX9, 6), (RX10, TX10, 15), (RX11, TX11, 58)]
