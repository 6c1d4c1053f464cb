/-! the instructions of the law, 3 -/
set_option maxRecDepth 20000 in
theorem f312_1353 : FF 312 1353 (.ifCond .eq 5) 3 0 0 0 0 := rfl
set_option maxRecDepth 20000 in
theorem f312_1356 : FF 312 1356 (.iconst 0) 1 0 0 0 0 := rfl
set_option maxRecDepth 20000 in
theorem f312_1357 : FF 312 1357 (.ireturn) 1 0 0 0 0 := rfl
set_option maxRecDepth 20000 in
theorem f312_1358 : FF 312 1358 (.goto 1141) 3 0 0 0 0 := rfl
set_option maxRecDepth 20000 in
theorem f312_1361 : FF 312 1361 (.aload_n 1) 1 0 0 0 0 := rfl
set_option maxRecDepth 20000 in
theorem f312_1362 : FF 312 1362 (.aload_n 0) 1 0 0 0 0 := rfl
set_option maxRecDepth 20000 in
theorem f312_1363 : FF 312 1363 (.iload 4) 2 0 0 0 0 := rfl
set_option maxRecDepth 20000 in
theorem f312_1365 : FF 312 1365 (.iconst 1) 1 0 0 0 0 := rfl
set_option maxRecDepth 20000 in
theorem f312_1366 : FF 312 1366 (.iadd) 1 0 0 0 0 := rfl
set_option maxRecDepth 20000 in
theorem f312_1367 : FF 312 1367 (.iaload) 1 0 0 0 0 := rfl
set_option maxRecDepth 20000 in
theorem f312_1368 : FF 312 1368 (.aload_n 3) 1 0 0 0 0 := rfl
set_option maxRecDepth 20000 in
theorem f312_1369 : FF 312 1369 (.invokestatic 205) 3 299 3 1 1122 := rfl
set_option maxRecDepth 20000 in
theorem f312_1372 : FF 312 1372 (.istore 5) 2 0 0 0 0 := rfl
set_option maxRecDepth 20000 in
theorem f312_1374 : FF 312 1374 (.aload_n 2) 1 0 0 0 0 := rfl
set_option maxRecDepth 20000 in
theorem f312_1375 : FF 312 1375 (.aload_n 0) 1 0 0 0 0 := rfl
set_option maxRecDepth 20000 in
theorem f312_1376 : FF 312 1376 (.iload 4) 2 0 0 0 0 := rfl
set_option maxRecDepth 20000 in
theorem f312_1378 : FF 312 1378 (.iconst 1) 1 0 0 0 0 := rfl
set_option maxRecDepth 20000 in
theorem f312_1379 : FF 312 1379 (.iadd) 1 0 0 0 0 := rfl
set_option maxRecDepth 20000 in
theorem f312_1380 : FF 312 1380 (.iaload) 1 0 0 0 0 := rfl
set_option maxRecDepth 20000 in
theorem f312_1381 : FF 312 1381 (.invokevirtual 207) 3 249 1 0 1783 := rfl
set_option maxRecDepth 20000 in
theorem f312_1384 : FF 312 1384 (.istore 6) 2 0 0 0 0 := rfl
set_option maxRecDepth 20000 in
theorem f312_1386 : FF 312 1386 (.aload_n 2) 1 0 0 0 0 := rfl
set_option maxRecDepth 20000 in
theorem f312_1387 : FF 312 1387 (.invokevirtual 158) 3 147 0 0 1411 := rfl
set_option maxRecDepth 20000 in
theorem f312_1390 : FF 312 1390 (.iload 5) 2 0 0 0 0 := rfl
set_option maxRecDepth 20000 in
theorem f312_1392 : FF 312 1392 (.if_icmp .eq 5) 3 0 0 0 0 := rfl
set_option maxRecDepth 20000 in
theorem f312_1395 : FF 312 1395 (.iconst 0) 1 0 0 0 0 := rfl
set_option maxRecDepth 20000 in
theorem f312_1396 : FF 312 1396 (.ireturn) 1 0 0 0 0 := rfl
set_option maxRecDepth 20000 in
theorem f312_1397 : FF 312 1397 (.iload 5) 2 0 0 0 0 := rfl
set_option maxRecDepth 20000 in
theorem f312_1399 : FF 312 1399 (.ifCond .ne 15) 3 0 0 0 0 := rfl
set_option maxRecDepth 20000 in
theorem f312_1402 : FF 312 1402 (.aload_n 3) 1 0 0 0 0 := rfl
set_option maxRecDepth 20000 in
theorem f312_1403 : FF 312 1403 (.iconst 0) 1 0 0 0 0 := rfl
set_option maxRecDepth 20000 in
theorem f312_1404 : FF 312 1404 (.laload) 1 0 0 0 0 := rfl
set_option maxRecDepth 20000 in
theorem f312_1405 : FF 312 1405 (.iload 6) 2 0 0 0 0 := rfl
set_option maxRecDepth 20000 in
theorem f312_1407 : FF 312 1407 (.i2l) 1 0 0 0 0 := rfl
set_option maxRecDepth 20000 in
theorem f312_1408 : FF 312 1408 (.lcmp) 1 0 0 0 0 := rfl
set_option maxRecDepth 20000 in
theorem f312_1409 : FF 312 1409 (.ifCond .eq 5) 3 0 0 0 0 := rfl
set_option maxRecDepth 20000 in
theorem f312_1412 : FF 312 1412 (.iconst 0) 1 0 0 0 0 := rfl
set_option maxRecDepth 20000 in
theorem f312_1413 : FF 312 1413 (.ireturn) 1 0 0 0 0 := rfl
set_option maxRecDepth 20000 in
theorem f312_1414 : FF 312 1414 (.goto 1085) 3 0 0 0 0 := rfl
set_option maxRecDepth 20000 in
theorem f312_1417 : FF 312 1417 (.aload_n 1) 1 0 0 0 0 := rfl
set_option maxRecDepth 20000 in
theorem f312_1418 : FF 312 1418 (.invokevirtual 208) 3 100 0 0 804 := rfl
set_option maxRecDepth 20000 in
theorem f312_1421 : FF 312 1421 (.aload_n 2) 1 0 0 0 0 := rfl
set_option maxRecDepth 20000 in
theorem f312_1422 : FF 312 1422 (.invokevirtual 212) 3 250 0 0 1787 := rfl
set_option maxRecDepth 20000 in
theorem f312_1425 : FF 312 1425 (.if_icmp .eq 1074) 3 0 0 0 0 := rfl
set_option maxRecDepth 20000 in
theorem f312_1428 : FF 312 1428 (.iconst 0) 1 0 0 0 0 := rfl
set_option maxRecDepth 20000 in
theorem f312_1429 : FF 312 1429 (.ireturn) 1 0 0 0 0 := rfl
set_option maxRecDepth 20000 in
theorem f312_1430 : FF 312 1430 (.aload_n 1) 1 0 0 0 0 := rfl
set_option maxRecDepth 20000 in
theorem f312_1431 : FF 312 1431 (.aload_n 0) 1 0 0 0 0 := rfl
set_option maxRecDepth 20000 in
theorem f312_1432 : FF 312 1432 (.iload 4) 2 0 0 0 0 := rfl
set_option maxRecDepth 20000 in
theorem f312_1434 : FF 312 1434 (.iconst 1) 1 0 0 0 0 := rfl
set_option maxRecDepth 20000 in
theorem f312_1435 : FF 312 1435 (.iadd) 1 0 0 0 0 := rfl
set_option maxRecDepth 20000 in
theorem f312_1436 : FF 312 1436 (.iaload) 1 0 0 0 0 := rfl
set_option maxRecDepth 20000 in
theorem f312_1437 : FF 312 1437 (.aload_n 3) 1 0 0 0 0 := rfl
set_option maxRecDepth 20000 in
theorem f312_1438 : FF 312 1438 (.invokestatic 213) 3 300 3 1 1129 := rfl
set_option maxRecDepth 20000 in
theorem f312_1441 : FF 312 1441 (.istore 5) 2 0 0 0 0 := rfl
set_option maxRecDepth 20000 in
theorem f312_1443 : FF 312 1443 (.aload_n 2) 1 0 0 0 0 := rfl
set_option maxRecDepth 20000 in
theorem f312_1444 : FF 312 1444 (.aload_n 0) 1 0 0 0 0 := rfl
set_option maxRecDepth 20000 in
theorem f312_1445 : FF 312 1445 (.iload 4) 2 0 0 0 0 := rfl
set_option maxRecDepth 20000 in
theorem f312_1447 : FF 312 1447 (.iconst 1) 1 0 0 0 0 := rfl
set_option maxRecDepth 20000 in
theorem f312_1448 : FF 312 1448 (.iadd) 1 0 0 0 0 := rfl
set_option maxRecDepth 20000 in
theorem f312_1449 : FF 312 1449 (.iaload) 1 0 0 0 0 := rfl
set_option maxRecDepth 20000 in
theorem f312_1450 : FF 312 1450 (.invokevirtual 215) 3 240 1 0 1747 := rfl
set_option maxRecDepth 20000 in
theorem f312_1453 : FF 312 1453 (.istore 6) 2 0 0 0 0 := rfl
set_option maxRecDepth 20000 in
theorem f312_1455 : FF 312 1455 (.aload_n 2) 1 0 0 0 0 := rfl
set_option maxRecDepth 20000 in
theorem f312_1456 : FF 312 1456 (.invokevirtual 158) 3 147 0 0 1411 := rfl
set_option maxRecDepth 20000 in
theorem f312_1459 : FF 312 1459 (.iload 5) 2 0 0 0 0 := rfl
set_option maxRecDepth 20000 in
theorem f312_1461 : FF 312 1461 (.if_icmp .eq 5) 3 0 0 0 0 := rfl
set_option maxRecDepth 20000 in
theorem f312_1464 : FF 312 1464 (.iconst 0) 1 0 0 0 0 := rfl
set_option maxRecDepth 20000 in
theorem f312_1465 : FF 312 1465 (.ireturn) 1 0 0 0 0 := rfl
set_option maxRecDepth 20000 in
theorem f312_1466 : FF 312 1466 (.iload 5) 2 0 0 0 0 := rfl
set_option maxRecDepth 20000 in
theorem f312_1468 : FF 312 1468 (.ifCond .ne 15) 3 0 0 0 0 := rfl
set_option maxRecDepth 20000 in
theorem f312_1471 : FF 312 1471 (.aload_n 3) 1 0 0 0 0 := rfl
set_option maxRecDepth 20000 in
theorem f312_1472 : FF 312 1472 (.iconst 0) 1 0 0 0 0 := rfl
set_option maxRecDepth 20000 in
theorem f312_1473 : FF 312 1473 (.laload) 1 0 0 0 0 := rfl
set_option maxRecDepth 20000 in
theorem f312_1474 : FF 312 1474 (.iload 6) 2 0 0 0 0 := rfl
set_option maxRecDepth 20000 in
theorem f312_1476 : FF 312 1476 (.i2l) 1 0 0 0 0 := rfl
set_option maxRecDepth 20000 in
theorem f312_1477 : FF 312 1477 (.lcmp) 1 0 0 0 0 := rfl
set_option maxRecDepth 20000 in
theorem f312_1478 : FF 312 1478 (.ifCond .eq 5) 3 0 0 0 0 := rfl
set_option maxRecDepth 20000 in
theorem f312_1481 : FF 312 1481 (.iconst 0) 1 0 0 0 0 := rfl
set_option maxRecDepth 20000 in
theorem f312_1482 : FF 312 1482 (.ireturn) 1 0 0 0 0 := rfl
set_option maxRecDepth 20000 in
theorem f312_1483 : FF 312 1483 (.goto 1016) 3 0 0 0 0 := rfl
set_option maxRecDepth 20000 in
theorem f312_1486 : FF 312 1486 (.aload_n 1) 1 0 0 0 0 := rfl
set_option maxRecDepth 20000 in
theorem f312_1487 : FF 312 1487 (.aload_n 0) 1 0 0 0 0 := rfl
set_option maxRecDepth 20000 in
theorem f312_1488 : FF 312 1488 (.iload 4) 2 0 0 0 0 := rfl
set_option maxRecDepth 20000 in
theorem f312_1490 : FF 312 1490 (.iconst 1) 1 0 0 0 0 := rfl
set_option maxRecDepth 20000 in
theorem f312_1491 : FF 312 1491 (.iadd) 1 0 0 0 0 := rfl
set_option maxRecDepth 20000 in
theorem f312_1492 : FF 312 1492 (.iaload) 1 0 0 0 0 := rfl
set_option maxRecDepth 20000 in
theorem f312_1493 : FF 312 1493 (.aload_n 3) 1 0 0 0 0 := rfl
set_option maxRecDepth 20000 in
theorem f312_1494 : FF 312 1494 (.invokestatic 216) 3 301 3 1 1136 := rfl
set_option maxRecDepth 20000 in
theorem f312_1497 : FF 312 1497 (.istore 5) 2 0 0 0 0 := rfl
set_option maxRecDepth 20000 in
theorem f312_1499 : FF 312 1499 (.aload_n 2) 1 0 0 0 0 := rfl
set_option maxRecDepth 20000 in
theorem f312_1500 : FF 312 1500 (.aload_n 0) 1 0 0 0 0 := rfl
set_option maxRecDepth 20000 in
theorem f312_1501 : FF 312 1501 (.iload 4) 2 0 0 0 0 := rfl
set_option maxRecDepth 20000 in
theorem f312_1503 : FF 312 1503 (.iconst 1) 1 0 0 0 0 := rfl
set_option maxRecDepth 20000 in
theorem f312_1504 : FF 312 1504 (.iadd) 1 0 0 0 0 := rfl
set_option maxRecDepth 20000 in
theorem f312_1505 : FF 312 1505 (.iaload) 1 0 0 0 0 := rfl
set_option maxRecDepth 20000 in
theorem f312_1506 : FF 312 1506 (.invokevirtual 218) 3 251 1 0 1795 := rfl
set_option maxRecDepth 20000 in
theorem f312_1509 : FF 312 1509 (.istore 6) 2 0 0 0 0 := rfl
set_option maxRecDepth 20000 in
theorem f312_1511 : FF 312 1511 (.aload_n 2) 1 0 0 0 0 := rfl
set_option maxRecDepth 20000 in
theorem f312_1512 : FF 312 1512 (.invokevirtual 158) 3 147 0 0 1411 := rfl
set_option maxRecDepth 20000 in
theorem f312_1515 : FF 312 1515 (.iload 5) 2 0 0 0 0 := rfl
set_option maxRecDepth 20000 in
theorem f312_1517 : FF 312 1517 (.if_icmp .eq 5) 3 0 0 0 0 := rfl
set_option maxRecDepth 20000 in
theorem f312_1520 : FF 312 1520 (.iconst 0) 1 0 0 0 0 := rfl
set_option maxRecDepth 20000 in
theorem f312_1521 : FF 312 1521 (.ireturn) 1 0 0 0 0 := rfl
set_option maxRecDepth 20000 in
theorem f312_1522 : FF 312 1522 (.iload 5) 2 0 0 0 0 := rfl
set_option maxRecDepth 20000 in
theorem f312_1524 : FF 312 1524 (.ifCond .ne 15) 3 0 0 0 0 := rfl
set_option maxRecDepth 20000 in
theorem f312_1527 : FF 312 1527 (.aload_n 3) 1 0 0 0 0 := rfl
set_option maxRecDepth 20000 in
theorem f312_1528 : FF 312 1528 (.iconst 0) 1 0 0 0 0 := rfl
set_option maxRecDepth 20000 in
theorem f312_1529 : FF 312 1529 (.laload) 1 0 0 0 0 := rfl
set_option maxRecDepth 20000 in
theorem f312_1530 : FF 312 1530 (.iload 6) 2 0 0 0 0 := rfl
set_option maxRecDepth 20000 in
theorem f312_1532 : FF 312 1532 (.i2l) 1 0 0 0 0 := rfl
set_option maxRecDepth 20000 in
theorem f312_1533 : FF 312 1533 (.lcmp) 1 0 0 0 0 := rfl
set_option maxRecDepth 20000 in
theorem f312_1534 : FF 312 1534 (.ifCond .eq 5) 3 0 0 0 0 := rfl
set_option maxRecDepth 20000 in
theorem f312_1537 : FF 312 1537 (.iconst 0) 1 0 0 0 0 := rfl
set_option maxRecDepth 20000 in
theorem f312_1538 : FF 312 1538 (.ireturn) 1 0 0 0 0 := rfl
set_option maxRecDepth 20000 in
theorem f312_1539 : FF 312 1539 (.goto 960) 3 0 0 0 0 := rfl
set_option maxRecDepth 20000 in
theorem f312_1542 : FF 312 1542 (.aload_n 1) 1 0 0 0 0 := rfl
set_option maxRecDepth 20000 in
theorem f312_1543 : FF 312 1543 (.invokevirtual 219) 3 103 0 0 808 := rfl
set_option maxRecDepth 20000 in
theorem f312_1546 : FF 312 1546 (.aload_n 2) 1 0 0 0 0 := rfl
set_option maxRecDepth 20000 in
theorem f312_1547 : FF 312 1547 (.invokevirtual 222) 3 229 0 0 1699 := rfl
set_option maxRecDepth 20000 in
theorem f312_1550 : FF 312 1550 (.if_icmp .eq 949) 3 0 0 0 0 := rfl
set_option maxRecDepth 20000 in
theorem f312_1553 : FF 312 1553 (.iconst 0) 1 0 0 0 0 := rfl
set_option maxRecDepth 20000 in
theorem f312_1554 : FF 312 1554 (.ireturn) 1 0 0 0 0 := rfl
set_option maxRecDepth 20000 in
theorem f312_1555 : FF 312 1555 (.aload_n 1) 1 0 0 0 0 := rfl
set_option maxRecDepth 20000 in
theorem f312_1556 : FF 312 1556 (.invokevirtual 223) 3 104 0 0 812 := rfl
set_option maxRecDepth 20000 in
theorem f312_1559 : FF 312 1559 (.aload_n 2) 1 0 0 0 0 := rfl
set_option maxRecDepth 20000 in
theorem f312_1560 : FF 312 1560 (.invokevirtual 226) 3 230 0 0 1703 := rfl
set_option maxRecDepth 20000 in
theorem f312_1563 : FF 312 1563 (.if_icmp .eq 936) 3 0 0 0 0 := rfl
set_option maxRecDepth 20000 in
theorem f312_1566 : FF 312 1566 (.iconst 0) 1 0 0 0 0 := rfl
set_option maxRecDepth 20000 in
theorem f312_1567 : FF 312 1567 (.ireturn) 1 0 0 0 0 := rfl
set_option maxRecDepth 20000 in
theorem f312_1568 : FF 312 1568 (.aload_n 1) 1 0 0 0 0 := rfl
set_option maxRecDepth 20000 in
theorem f312_1569 : FF 312 1569 (.aload_n 0) 1 0 0 0 0 := rfl
set_option maxRecDepth 20000 in
theorem f312_1570 : FF 312 1570 (.iload 4) 2 0 0 0 0 := rfl
set_option maxRecDepth 20000 in
theorem f312_1572 : FF 312 1572 (.iconst 1) 1 0 0 0 0 := rfl
set_option maxRecDepth 20000 in
theorem f312_1573 : FF 312 1573 (.iadd) 1 0 0 0 0 := rfl
set_option maxRecDepth 20000 in
theorem f312_1574 : FF 312 1574 (.iaload) 1 0 0 0 0 := rfl
set_option maxRecDepth 20000 in
theorem f312_1575 : FF 312 1575 (.aload_n 3) 1 0 0 0 0 := rfl
set_option maxRecDepth 20000 in
theorem f312_1576 : FF 312 1576 (.invokestatic 227) 3 302 3 1 1143 := rfl
set_option maxRecDepth 20000 in
theorem f312_1579 : FF 312 1579 (.istore 5) 2 0 0 0 0 := rfl
set_option maxRecDepth 20000 in
theorem f312_1581 : FF 312 1581 (.aload_n 2) 1 0 0 0 0 := rfl
set_option maxRecDepth 20000 in
theorem f312_1582 : FF 312 1582 (.aload_n 0) 1 0 0 0 0 := rfl
set_option maxRecDepth 20000 in
theorem f312_1583 : FF 312 1583 (.iload 4) 2 0 0 0 0 := rfl
set_option maxRecDepth 20000 in
theorem f312_1585 : FF 312 1585 (.iconst 1) 1 0 0 0 0 := rfl
set_option maxRecDepth 20000 in
theorem f312_1586 : FF 312 1586 (.iadd) 1 0 0 0 0 := rfl
set_option maxRecDepth 20000 in
theorem f312_1587 : FF 312 1587 (.iaload) 1 0 0 0 0 := rfl
set_option maxRecDepth 20000 in
theorem f312_1588 : FF 312 1588 (.invokevirtual 229) 3 252 1 0 1799 := rfl
set_option maxRecDepth 20000 in
theorem f312_1591 : FF 312 1591 (.istore 6) 2 0 0 0 0 := rfl
set_option maxRecDepth 20000 in
theorem f312_1593 : FF 312 1593 (.aload_n 2) 1 0 0 0 0 := rfl
set_option maxRecDepth 20000 in
theorem f312_1594 : FF 312 1594 (.invokevirtual 158) 3 147 0 0 1411 := rfl
set_option maxRecDepth 20000 in
theorem f312_1597 : FF 312 1597 (.iload 5) 2 0 0 0 0 := rfl
set_option maxRecDepth 20000 in
theorem f312_1599 : FF 312 1599 (.if_icmp .eq 5) 3 0 0 0 0 := rfl
set_option maxRecDepth 20000 in
theorem f312_1602 : FF 312 1602 (.iconst 0) 1 0 0 0 0 := rfl
set_option maxRecDepth 20000 in
theorem f312_1603 : FF 312 1603 (.ireturn) 1 0 0 0 0 := rfl
set_option maxRecDepth 20000 in
theorem f312_1604 : FF 312 1604 (.iload 5) 2 0 0 0 0 := rfl
set_option maxRecDepth 20000 in
theorem f312_1606 : FF 312 1606 (.ifCond .ne 15) 3 0 0 0 0 := rfl
set_option maxRecDepth 20000 in
theorem f312_1609 : FF 312 1609 (.aload_n 3) 1 0 0 0 0 := rfl
set_option maxRecDepth 20000 in
theorem f312_1610 : FF 312 1610 (.iconst 0) 1 0 0 0 0 := rfl
set_option maxRecDepth 20000 in
theorem f312_1611 : FF 312 1611 (.laload) 1 0 0 0 0 := rfl
set_option maxRecDepth 20000 in
theorem f312_1612 : FF 312 1612 (.iload 6) 2 0 0 0 0 := rfl
set_option maxRecDepth 20000 in
theorem f312_1614 : FF 312 1614 (.i2l) 1 0 0 0 0 := rfl
set_option maxRecDepth 20000 in
theorem f312_1615 : FF 312 1615 (.lcmp) 1 0 0 0 0 := rfl
set_option maxRecDepth 20000 in
theorem f312_1616 : FF 312 1616 (.ifCond .eq 5) 3 0 0 0 0 := rfl
set_option maxRecDepth 20000 in
theorem f312_1619 : FF 312 1619 (.iconst 0) 1 0 0 0 0 := rfl
set_option maxRecDepth 20000 in
theorem f312_1620 : FF 312 1620 (.ireturn) 1 0 0 0 0 := rfl
set_option maxRecDepth 20000 in
theorem f312_1621 : FF 312 1621 (.goto 878) 3 0 0 0 0 := rfl
set_option maxRecDepth 20000 in
theorem f312_1624 : FF 312 1624 (.aload_n 1) 1 0 0 0 0 := rfl
set_option maxRecDepth 20000 in
theorem f312_1625 : FF 312 1625 (.invokevirtual 230) 3 106 0 0 816 := rfl
set_option maxRecDepth 20000 in
theorem f312_1628 : FF 312 1628 (.f2d) 1 0 0 0 0 := rfl
set_option maxRecDepth 20000 in
theorem f312_1629 : FF 312 1629 (.dstore 5) 2 0 0 0 0 := rfl
set_option maxRecDepth 20000 in
theorem f312_1631 : FF 312 1631 (.aload_n 2) 1 0 0 0 0 := rfl
set_option maxRecDepth 20000 in
theorem f312_1632 : FF 312 1632 (.invokevirtual 234) 3 255 0 0 1803 := rfl
set_option maxRecDepth 20000 in
theorem f312_1635 : FF 312 1635 (.f2d) 1 0 0 0 0 := rfl
set_option maxRecDepth 20000 in
theorem f312_1636 : FF 312 1636 (.dstore 7) 2 0 0 0 0 := rfl
set_option maxRecDepth 20000 in
theorem f312_1638 : FF 312 1638 (.dload 5) 2 0 0 0 0 := rfl
set_option maxRecDepth 20000 in
theorem f312_1640 : FF 312 1640 (.dload 7) 2 0 0 0 0 := rfl
set_option maxRecDepth 20000 in
theorem f312_1642 : FF 312 1642 (.dcmp .l) 1 0 0 0 0 := rfl
set_option maxRecDepth 20000 in
theorem f312_1643 : FF 312 1643 (.ifCond .eq 21) 3 0 0 0 0 := rfl
set_option maxRecDepth 20000 in
theorem f312_1646 : FF 312 1646 (.dload 5) 2 0 0 0 0 := rfl
set_option maxRecDepth 20000 in
theorem f312_1648 : FF 312 1648 (.dload 5) 2 0 0 0 0 := rfl
set_option maxRecDepth 20000 in
theorem f312_1650 : FF 312 1650 (.dcmp .l) 1 0 0 0 0 := rfl
set_option maxRecDepth 20000 in
theorem f312_1651 : FF 312 1651 (.ifCond .eq 11) 3 0 0 0 0 := rfl
set_option maxRecDepth 20000 in
theorem f312_1654 : FF 312 1654 (.dload 7) 2 0 0 0 0 := rfl
set_option maxRecDepth 20000 in
theorem f312_1656 : FF 312 1656 (.dload 7) 2 0 0 0 0 := rfl
set_option maxRecDepth 20000 in
theorem f312_1658 : FF 312 1658 (.dcmp .l) 1 0 0 0 0 := rfl
set_option maxRecDepth 20000 in
theorem f312_1659 : FF 312 1659 (.ifCond .ne 5) 3 0 0 0 0 := rfl
set_option maxRecDepth 20000 in
theorem f312_1662 : FF 312 1662 (.iconst 0) 1 0 0 0 0 := rfl
set_option maxRecDepth 20000 in
theorem f312_1663 : FF 312 1663 (.ireturn) 1 0 0 0 0 := rfl
set_option maxRecDepth 20000 in
theorem f312_1664 : FF 312 1664 (.goto 835) 3 0 0 0 0 := rfl
set_option maxRecDepth 20000 in
theorem f312_1667 : FF 312 1667 (.aload_n 1) 1 0 0 0 0 := rfl
set_option maxRecDepth 20000 in
theorem f312_1668 : FF 312 1668 (.invokevirtual 235) 3 107 0 0 824 := rfl
set_option maxRecDepth 20000 in
theorem f312_1671 : FF 312 1671 (.f2d) 1 0 0 0 0 := rfl
set_option maxRecDepth 20000 in
theorem f312_1672 : FF 312 1672 (.dstore 5) 2 0 0 0 0 := rfl
set_option maxRecDepth 20000 in
theorem f312_1674 : FF 312 1674 (.aload_n 2) 1 0 0 0 0 := rfl
set_option maxRecDepth 20000 in
theorem f312_1675 : FF 312 1675 (.invokevirtual 238) 3 256 0 0 1814 := rfl
set_option maxRecDepth 20000 in
theorem f312_1678 : FF 312 1678 (.f2d) 1 0 0 0 0 := rfl
set_option maxRecDepth 20000 in
theorem f312_1679 : FF 312 1679 (.dstore 7) 2 0 0 0 0 := rfl
set_option maxRecDepth 20000 in
theorem f312_1681 : FF 312 1681 (.dload 5) 2 0 0 0 0 := rfl
set_option maxRecDepth 20000 in
theorem f312_1683 : FF 312 1683 (.dload 7) 2 0 0 0 0 := rfl
set_option maxRecDepth 20000 in
theorem f312_1685 : FF 312 1685 (.dcmp .l) 1 0 0 0 0 := rfl
set_option maxRecDepth 20000 in
theorem f312_1686 : FF 312 1686 (.ifCond .eq 21) 3 0 0 0 0 := rfl
set_option maxRecDepth 20000 in
theorem f312_1689 : FF 312 1689 (.dload 5) 2 0 0 0 0 := rfl
set_option maxRecDepth 20000 in
theorem f312_1691 : FF 312 1691 (.dload 5) 2 0 0 0 0 := rfl
set_option maxRecDepth 20000 in
theorem f312_1693 : FF 312 1693 (.dcmp .l) 1 0 0 0 0 := rfl
set_option maxRecDepth 20000 in
theorem f312_1694 : FF 312 1694 (.ifCond .eq 11) 3 0 0 0 0 := rfl
set_option maxRecDepth 20000 in
theorem f312_1697 : FF 312 1697 (.dload 7) 2 0 0 0 0 := rfl
set_option maxRecDepth 20000 in
theorem f312_1699 : FF 312 1699 (.dload 7) 2 0 0 0 0 := rfl
set_option maxRecDepth 20000 in
theorem f312_1701 : FF 312 1701 (.dcmp .l) 1 0 0 0 0 := rfl
set_option maxRecDepth 20000 in
theorem f312_1702 : FF 312 1702 (.ifCond .ne 5) 3 0 0 0 0 := rfl
set_option maxRecDepth 20000 in
theorem f312_1705 : FF 312 1705 (.iconst 0) 1 0 0 0 0 := rfl
set_option maxRecDepth 20000 in
theorem f312_1706 : FF 312 1706 (.ireturn) 1 0 0 0 0 := rfl
set_option maxRecDepth 20000 in
theorem f312_1707 : FF 312 1707 (.goto 792) 3 0 0 0 0 := rfl
set_option maxRecDepth 20000 in
theorem f312_1710 : FF 312 1710 (.aload_n 1) 1 0 0 0 0 := rfl
set_option maxRecDepth 20000 in
theorem f312_1711 : FF 312 1711 (.invokevirtual 239) 3 108 0 0 832 := rfl
set_option maxRecDepth 20000 in
theorem f312_1714 : FF 312 1714 (.aload_n 2) 1 0 0 0 0 := rfl
set_option maxRecDepth 20000 in
theorem f312_1715 : FF 312 1715 (.invokevirtual 242) 3 257 0 0 1818 := rfl
set_option maxRecDepth 20000 in
theorem f312_1718 : FF 312 1718 (.if_icmp .eq 781) 3 0 0 0 0 := rfl
set_option maxRecDepth 20000 in
theorem f312_1721 : FF 312 1721 (.iconst 0) 1 0 0 0 0 := rfl
set_option maxRecDepth 20000 in
theorem f312_1722 : FF 312 1722 (.ireturn) 1 0 0 0 0 := rfl
set_option maxRecDepth 20000 in
theorem f312_1723 : FF 312 1723 (.aload_n 1) 1 0 0 0 0 := rfl
set_option maxRecDepth 20000 in
theorem f312_1724 : FF 312 1724 (.invokevirtual 243) 3 109 0 0 836 := rfl
set_option maxRecDepth 20000 in
theorem f312_1727 : FF 312 1727 (.aload_n 2) 1 0 0 0 0 := rfl
set_option maxRecDepth 20000 in
theorem f312_1728 : FF 312 1728 (.invokevirtual 246) 3 258 0 0 1822 := rfl
set_option maxRecDepth 20000 in
theorem f312_1731 : FF 312 1731 (.if_icmp .eq 768) 3 0 0 0 0 := rfl
set_option maxRecDepth 20000 in
theorem f312_1734 : FF 312 1734 (.iconst 0) 1 0 0 0 0 := rfl
set_option maxRecDepth 20000 in
theorem f312_1735 : FF 312 1735 (.ireturn) 1 0 0 0 0 := rfl
set_option maxRecDepth 20000 in
theorem f312_1736 : FF 312 1736 (.aload_n 1) 1 0 0 0 0 := rfl
set_option maxRecDepth 20000 in
theorem f312_1737 : FF 312 1737 (.invokevirtual 247) 3 110 0 0 840 := rfl
set_option maxRecDepth 20000 in
theorem f312_1740 : FF 312 1740 (.aload_n 2) 1 0 0 0 0 := rfl
set_option maxRecDepth 20000 in
theorem f312_1741 : FF 312 1741 (.invokevirtual 250) 3 231 0 0 1707 := rfl
set_option maxRecDepth 20000 in
theorem f312_1744 : FF 312 1744 (.if_icmp .eq 755) 3 0 0 0 0 := rfl
set_option maxRecDepth 20000 in
theorem f312_1747 : FF 312 1747 (.iconst 0) 1 0 0 0 0 := rfl
set_option maxRecDepth 20000 in
theorem f312_1748 : FF 312 1748 (.ireturn) 1 0 0 0 0 := rfl
set_option maxRecDepth 20000 in
theorem f312_1749 : FF 312 1749 (.aload_n 1) 1 0 0 0 0 := rfl
set_option maxRecDepth 20000 in
theorem f312_1750 : FF 312 1750 (.aload_n 0) 1 0 0 0 0 := rfl
set_option maxRecDepth 20000 in
theorem f312_1751 : FF 312 1751 (.iload 4) 2 0 0 0 0 := rfl
set_option maxRecDepth 20000 in
theorem f312_1753 : FF 312 1753 (.iconst 1) 1 0 0 0 0 := rfl
set_option maxRecDepth 20000 in
theorem f312_1754 : FF 312 1754 (.iadd) 1 0 0 0 0 := rfl
set_option maxRecDepth 20000 in
theorem f312_1755 : FF 312 1755 (.iaload) 1 0 0 0 0 := rfl
set_option maxRecDepth 20000 in
theorem f312_1756 : FF 312 1756 (.invokevirtual 251) 3 111 1 0 844 := rfl
set_option maxRecDepth 20000 in
theorem f312_1759 : FF 312 1759 (.aload_n 2) 1 0 0 0 0 := rfl
set_option maxRecDepth 20000 in
theorem f312_1760 : FF 312 1760 (.aload_n 0) 1 0 0 0 0 := rfl
set_option maxRecDepth 20000 in
theorem f312_1761 : FF 312 1761 (.iload 4) 2 0 0 0 0 := rfl
set_option maxRecDepth 20000 in
theorem f312_1763 : FF 312 1763 (.iconst 1) 1 0 0 0 0 := rfl
set_option maxRecDepth 20000 in
theorem f312_1764 : FF 312 1764 (.iadd) 1 0 0 0 0 := rfl
set_option maxRecDepth 20000 in
theorem f312_1765 : FF 312 1765 (.iaload) 1 0 0 0 0 := rfl
set_option maxRecDepth 20000 in
theorem f312_1766 : FF 312 1766 (.invokevirtual 254) 3 259 1 0 1826 := rfl
set_option maxRecDepth 20000 in
theorem f312_1769 : FF 312 1769 (.if_icmp .eq 730) 3 0 0 0 0 := rfl
set_option maxRecDepth 20000 in
theorem f312_1772 : FF 312 1772 (.iconst 0) 1 0 0 0 0 := rfl
set_option maxRecDepth 20000 in
theorem f312_1773 : FF 312 1773 (.ireturn) 1 0 0 0 0 := rfl
set_option maxRecDepth 20000 in
theorem f312_1774 : FF 312 1774 (.aload_n 1) 1 0 0 0 0 := rfl
set_option maxRecDepth 20000 in
theorem f312_1775 : FF 312 1775 (.aload_n 0) 1 0 0 0 0 := rfl
set_option maxRecDepth 20000 in
theorem f312_1776 : FF 312 1776 (.iload 4) 2 0 0 0 0 := rfl
set_option maxRecDepth 20000 in
theorem f312_1778 : FF 312 1778 (.iconst 1) 1 0 0 0 0 := rfl
set_option maxRecDepth 20000 in
theorem f312_1779 : FF 312 1779 (.iadd) 1 0 0 0 0 := rfl
set_option maxRecDepth 20000 in
theorem f312_1780 : FF 312 1780 (.iaload) 1 0 0 0 0 := rfl
set_option maxRecDepth 20000 in
theorem f312_1781 : FF 312 1781 (.invokevirtual 255) 3 112 1 0 852 := rfl
set_option maxRecDepth 20000 in
theorem f312_1784 : FF 312 1784 (.aload_n 2) 1 0 0 0 0 := rfl
set_option maxRecDepth 20000 in
theorem f312_1785 : FF 312 1785 (.aload_n 0) 1 0 0 0 0 := rfl
set_option maxRecDepth 20000 in
theorem f312_1786 : FF 312 1786 (.iload 4) 2 0 0 0 0 := rfl
set_option maxRecDepth 20000 in
theorem f312_1788 : FF 312 1788 (.iconst 1) 1 0 0 0 0 := rfl
set_option maxRecDepth 20000 in
theorem f312_1789 : FF 312 1789 (.iadd) 1 0 0 0 0 := rfl
set_option maxRecDepth 20000 in
theorem f312_1790 : FF 312 1790 (.iaload) 1 0 0 0 0 := rfl
set_option maxRecDepth 20000 in
theorem f312_1791 : FF 312 1791 (.invokevirtual 258) 3 260 1 0 1830 := rfl
set_option maxRecDepth 20000 in
theorem f312_1794 : FF 312 1794 (.if_icmp .eq 705) 3 0 0 0 0 := rfl
set_option maxRecDepth 20000 in
theorem f312_1797 : FF 312 1797 (.iconst 0) 1 0 0 0 0 := rfl
set_option maxRecDepth 20000 in
theorem f312_1798 : FF 312 1798 (.ireturn) 1 0 0 0 0 := rfl
set_option maxRecDepth 20000 in
theorem f312_1799 : FF 312 1799 (.aload_n 1) 1 0 0 0 0 := rfl
set_option maxRecDepth 20000 in
theorem f312_1800 : FF 312 1800 (.invokevirtual 259) 3 113 0 0 856 := rfl
set_option maxRecDepth 20000 in
theorem f312_1803 : FF 312 1803 (.aload_n 2) 1 0 0 0 0 := rfl
set_option maxRecDepth 20000 in
theorem f312_1804 : FF 312 1804 (.invokevirtual 262) 3 261 0 0 1834 := rfl
set_option maxRecDepth 20000 in
theorem f312_1807 : FF 312 1807 (.if_icmp .eq 692) 3 0 0 0 0 := rfl
set_option maxRecDepth 20000 in
theorem f312_1810 : FF 312 1810 (.iconst 0) 1 0 0 0 0 := rfl
set_option maxRecDepth 20000 in
theorem f312_1811 : FF 312 1811 (.ireturn) 1 0 0 0 0 := rfl
set_option maxRecDepth 20000 in
theorem f312_1812 : FF 312 1812 (.aload_n 1) 1 0 0 0 0 := rfl
set_option maxRecDepth 20000 in
theorem f312_1813 : FF 312 1813 (.aload_n 0) 1 0 0 0 0 := rfl
set_option maxRecDepth 20000 in
theorem f312_1814 : FF 312 1814 (.iload 4) 2 0 0 0 0 := rfl
set_option maxRecDepth 20000 in
theorem f312_1816 : FF 312 1816 (.iconst 1) 1 0 0 0 0 := rfl
set_option maxRecDepth 20000 in
theorem f312_1817 : FF 312 1817 (.iadd) 1 0 0 0 0 := rfl
set_option maxRecDepth 20000 in
theorem f312_1818 : FF 312 1818 (.iaload) 1 0 0 0 0 := rfl
set_option maxRecDepth 20000 in
theorem f312_1819 : FF 312 1819 (.aload_n 3) 1 0 0 0 0 := rfl
set_option maxRecDepth 20000 in
theorem f312_1820 : FF 312 1820 (.invokestatic 263) 3 303 3 1 1170 := rfl
set_option maxRecDepth 20000 in
theorem f312_1823 : FF 312 1823 (.istore 5) 2 0 0 0 0 := rfl
set_option maxRecDepth 20000 in
theorem f312_1825 : FF 312 1825 (.aload_n 2) 1 0 0 0 0 := rfl
set_option maxRecDepth 20000 in
theorem f312_1826 : FF 312 1826 (.aload_n 0) 1 0 0 0 0 := rfl
set_option maxRecDepth 20000 in
theorem f312_1827 : FF 312 1827 (.iload 4) 2 0 0 0 0 := rfl
set_option maxRecDepth 20000 in
theorem f312_1829 : FF 312 1829 (.iconst 1) 1 0 0 0 0 := rfl
set_option maxRecDepth 20000 in
theorem f312_1830 : FF 312 1830 (.iadd) 1 0 0 0 0 := rfl
set_option maxRecDepth 20000 in
theorem f312_1831 : FF 312 1831 (.iaload) 1 0 0 0 0 := rfl
set_option maxRecDepth 20000 in
theorem f312_1832 : FF 312 1832 (.invokevirtual 265) 3 262 1 0 1846 := rfl
set_option maxRecDepth 20000 in
theorem f312_1835 : FF 312 1835 (.istore 6) 2 0 0 0 0 := rfl
set_option maxRecDepth 20000 in
theorem f312_1837 : FF 312 1837 (.aload_n 2) 1 0 0 0 0 := rfl
set_option maxRecDepth 20000 in
theorem f312_1838 : FF 312 1838 (.invokevirtual 158) 3 147 0 0 1411 := rfl
set_option maxRecDepth 20000 in
theorem f312_1841 : FF 312 1841 (.iload 5) 2 0 0 0 0 := rfl
set_option maxRecDepth 20000 in
theorem f312_1843 : FF 312 1843 (.if_icmp .eq 5) 3 0 0 0 0 := rfl
set_option maxRecDepth 20000 in
theorem f312_1846 : FF 312 1846 (.iconst 0) 1 0 0 0 0 := rfl
set_option maxRecDepth 20000 in
theorem f312_1847 : FF 312 1847 (.ireturn) 1 0 0 0 0 := rfl
set_option maxRecDepth 20000 in
theorem f312_1848 : FF 312 1848 (.iload 5) 2 0 0 0 0 := rfl
set_option maxRecDepth 20000 in
theorem f312_1850 : FF 312 1850 (.ifCond .ne 22) 3 0 0 0 0 := rfl
set_option maxRecDepth 20000 in
theorem f312_1853 : FF 312 1853 (.aload_n 3) 1 0 0 0 0 := rfl
set_option maxRecDepth 20000 in
theorem f312_1854 : FF 312 1854 (.iconst 0) 1 0 0 0 0 := rfl
set_option maxRecDepth 20000 in
theorem f312_1855 : FF 312 1855 (.laload) 1 0 0 0 0 := rfl
set_option maxRecDepth 20000 in
theorem f312_1856 : FF 312 1856 (.iload 6) 2 0 0 0 0 := rfl
set_option maxRecDepth 20000 in
theorem f312_1858 : FF 312 1858 (.ifCond .eq 7) 3 0 0 0 0 := rfl
set_option maxRecDepth 20000 in
theorem f312_1861 : FF 312 1861 (.lconst 1) 1 0 0 0 0 := rfl
set_option maxRecDepth 20000 in
theorem f312_1862 : FF 312 1862 (.goto 4) 3 0 0 0 0 := rfl
set_option maxRecDepth 20000 in
theorem f312_1865 : FF 312 1865 (.lconst 0) 1 0 0 0 0 := rfl
set_option maxRecDepth 20000 in
theorem f312_1866 : FF 312 1866 (.lcmp) 1 0 0 0 0 := rfl
set_option maxRecDepth 20000 in
theorem f312_1867 : FF 312 1867 (.ifCond .eq 5) 3 0 0 0 0 := rfl
set_option maxRecDepth 20000 in
theorem f312_1870 : FF 312 1870 (.iconst 0) 1 0 0 0 0 := rfl
set_option maxRecDepth 20000 in
theorem f312_1871 : FF 312 1871 (.ireturn) 1 0 0 0 0 := rfl
set_option maxRecDepth 20000 in
theorem f312_1872 : FF 312 1872 (.goto 627) 3 0 0 0 0 := rfl
set_option maxRecDepth 20000 in
theorem f312_1875 : FF 312 1875 (.aload_n 1) 1 0 0 0 0 := rfl
set_option maxRecDepth 20000 in
theorem f312_1876 : FF 312 1876 (.aload_n 0) 1 0 0 0 0 := rfl
set_option maxRecDepth 20000 in
theorem f312_1877 : FF 312 1877 (.iload 4) 2 0 0 0 0 := rfl
set_option maxRecDepth 20000 in
theorem f312_1879 : FF 312 1879 (.iconst 1) 1 0 0 0 0 := rfl
set_option maxRecDepth 20000 in
theorem f312_1880 : FF 312 1880 (.iadd) 1 0 0 0 0 := rfl
set_option maxRecDepth 20000 in
theorem f312_1881 : FF 312 1881 (.iaload) 1 0 0 0 0 := rfl
set_option maxRecDepth 20000 in
theorem f312_1882 : FF 312 1882 (.aload_n 3) 1 0 0 0 0 := rfl
set_option maxRecDepth 20000 in
theorem f312_1883 : FF 312 1883 (.invokestatic 266) 3 304 3 1 1177 := rfl
set_option maxRecDepth 20000 in
theorem f312_1886 : FF 312 1886 (.istore 5) 2 0 0 0 0 := rfl
set_option maxRecDepth 20000 in
theorem f312_1888 : FF 312 1888 (.aload_n 2) 1 0 0 0 0 := rfl
set_option maxRecDepth 20000 in
theorem f312_1889 : FF 312 1889 (.aload_n 0) 1 0 0 0 0 := rfl
set_option maxRecDepth 20000 in
theorem f312_1890 : FF 312 1890 (.iload 4) 2 0 0 0 0 := rfl
set_option maxRecDepth 20000 in
theorem f312_1892 : FF 312 1892 (.iconst 1) 1 0 0 0 0 := rfl
set_option maxRecDepth 20000 in
theorem f312_1893 : FF 312 1893 (.iadd) 1 0 0 0 0 := rfl
set_option maxRecDepth 20000 in
theorem f312_1894 : FF 312 1894 (.iaload) 1 0 0 0 0 := rfl
set_option maxRecDepth 20000 in
theorem f312_1895 : FF 312 1895 (.invokevirtual 268) 3 263 1 0 1854 := rfl
set_option maxRecDepth 20000 in
theorem f312_1898 : FF 312 1898 (.istore 6) 2 0 0 0 0 := rfl
set_option maxRecDepth 20000 in
theorem f312_1900 : FF 312 1900 (.aload_n 2) 1 0 0 0 0 := rfl
set_option maxRecDepth 20000 in
theorem f312_1901 : FF 312 1901 (.invokevirtual 158) 3 147 0 0 1411 := rfl
set_option maxRecDepth 20000 in
theorem f312_1904 : FF 312 1904 (.iload 5) 2 0 0 0 0 := rfl
set_option maxRecDepth 20000 in
theorem f312_1906 : FF 312 1906 (.if_icmp .eq 5) 3 0 0 0 0 := rfl
set_option maxRecDepth 20000 in
theorem f312_1909 : FF 312 1909 (.iconst 0) 1 0 0 0 0 := rfl
set_option maxRecDepth 20000 in
theorem f312_1910 : FF 312 1910 (.ireturn) 1 0 0 0 0 := rfl
set_option maxRecDepth 20000 in
theorem f312_1911 : FF 312 1911 (.iload 5) 2 0 0 0 0 := rfl
set_option maxRecDepth 20000 in
theorem f312_1913 : FF 312 1913 (.ifCond .ne 22) 3 0 0 0 0 := rfl
set_option maxRecDepth 20000 in
theorem f312_1916 : FF 312 1916 (.aload_n 3) 1 0 0 0 0 := rfl
set_option maxRecDepth 20000 in
theorem f312_1917 : FF 312 1917 (.iconst 0) 1 0 0 0 0 := rfl
set_option maxRecDepth 20000 in
theorem f312_1918 : FF 312 1918 (.laload) 1 0 0 0 0 := rfl
set_option maxRecDepth 20000 in
theorem f312_1919 : FF 312 1919 (.iload 6) 2 0 0 0 0 := rfl
set_option maxRecDepth 20000 in
theorem f312_1921 : FF 312 1921 (.ifCond .eq 7) 3 0 0 0 0 := rfl
set_option maxRecDepth 20000 in
theorem f312_1924 : FF 312 1924 (.lconst 1) 1 0 0 0 0 := rfl
set_option maxRecDepth 20000 in
theorem f312_1925 : FF 312 1925 (.goto 4) 3 0 0 0 0 := rfl
set_option maxRecDepth 20000 in
theorem f312_1928 : FF 312 1928 (.lconst 0) 1 0 0 0 0 := rfl
set_option maxRecDepth 20000 in
theorem f312_1929 : FF 312 1929 (.lcmp) 1 0 0 0 0 := rfl
set_option maxRecDepth 20000 in
theorem f312_1930 : FF 312 1930 (.ifCond .eq 5) 3 0 0 0 0 := rfl
set_option maxRecDepth 20000 in
theorem f312_1933 : FF 312 1933 (.iconst 0) 1 0 0 0 0 := rfl
