/-! the law, its instructions -/
theorem dL_1394 : decode code 1394 = .ok (.iconst 2, 1) := by decide +kernel
theorem dL_1395 : decode code 1395 = .ok (.iadd, 1) := by decide +kernel
theorem dL_1396 : decode code 1396 = .ok (.iaload, 1) := by decide +kernel
theorem dL_1397 : decode code 1397 = .ok (.invokevirtual 178, 3) := by decide +kernel
theorem dL_1400 : decode code 1400 = .ok (.aload_n 2, 1) := by decide +kernel
theorem dL_1401 : decode code 1401 = .ok (.aload_n 0, 1) := by decide +kernel
theorem dL_1402 : decode code 1402 = .ok (.iload_n 3, 1) := by decide +kernel
theorem dL_1403 : decode code 1403 = .ok (.iconst 1, 1) := by decide +kernel
theorem dL_1404 : decode code 1404 = .ok (.iadd, 1) := by decide +kernel
theorem dL_1405 : decode code 1405 = .ok (.iaload, 1) := by decide +kernel
theorem dL_1406 : decode code 1406 = .ok (.aload_n 0, 1) := by decide +kernel
theorem dL_1407 : decode code 1407 = .ok (.iload_n 3, 1) := by decide +kernel
theorem dL_1408 : decode code 1408 = .ok (.iconst 2, 1) := by decide +kernel
theorem dL_1409 : decode code 1409 = .ok (.iadd, 1) := by decide +kernel
theorem dL_1410 : decode code 1410 = .ok (.iaload, 1) := by decide +kernel
theorem dL_1411 : decode code 1411 = .ok (.invokevirtual 181, 3) := by decide +kernel
theorem dL_1414 : decode code 1414 = .ok (.if_icmp .eq 338, 3) := by decide +kernel
theorem dL_1419 : decode code 1419 = .ok (.aload_n 1, 1) := by decide +kernel
theorem dL_1420 : decode code 1420 = .ok (.aload_n 0, 1) := by decide +kernel
theorem dL_1421 : decode code 1421 = .ok (.iload_n 3, 1) := by decide +kernel
theorem dL_1422 : decode code 1422 = .ok (.iconst 1, 1) := by decide +kernel
theorem dL_1423 : decode code 1423 = .ok (.iadd, 1) := by decide +kernel
theorem dL_1424 : decode code 1424 = .ok (.iaload, 1) := by decide +kernel
theorem dL_1425 : decode code 1425 = .ok (.aload_n 0, 1) := by decide +kernel
theorem dL_1426 : decode code 1426 = .ok (.iload_n 3, 1) := by decide +kernel
theorem dL_1427 : decode code 1427 = .ok (.iconst 2, 1) := by decide +kernel
theorem dL_1428 : decode code 1428 = .ok (.iadd, 1) := by decide +kernel
theorem dL_1429 : decode code 1429 = .ok (.iaload, 1) := by decide +kernel
theorem dL_1430 : decode code 1430 = .ok (.invokevirtual 182, 3) := by decide +kernel
theorem dL_1433 : decode code 1433 = .ok (.aload_n 2, 1) := by decide +kernel
theorem dL_1434 : decode code 1434 = .ok (.aload_n 0, 1) := by decide +kernel
theorem dL_1435 : decode code 1435 = .ok (.iload_n 3, 1) := by decide +kernel
theorem dL_1436 : decode code 1436 = .ok (.iconst 1, 1) := by decide +kernel
theorem dL_1437 : decode code 1437 = .ok (.iadd, 1) := by decide +kernel
theorem dL_1438 : decode code 1438 = .ok (.iaload, 1) := by decide +kernel
theorem dL_1439 : decode code 1439 = .ok (.aload_n 0, 1) := by decide +kernel
theorem dL_1440 : decode code 1440 = .ok (.iload_n 3, 1) := by decide +kernel
theorem dL_1441 : decode code 1441 = .ok (.iconst 2, 1) := by decide +kernel
theorem dL_1442 : decode code 1442 = .ok (.iadd, 1) := by decide +kernel
theorem dL_1443 : decode code 1443 = .ok (.iaload, 1) := by decide +kernel
theorem dL_1444 : decode code 1444 = .ok (.invokevirtual 185, 3) := by decide +kernel
theorem dL_1447 : decode code 1447 = .ok (.if_icmp .eq 305, 3) := by decide +kernel
theorem dL_1452 : decode code 1452 = .ok (.aload_n 1, 1) := by decide +kernel
theorem dL_1453 : decode code 1453 = .ok (.aload_n 0, 1) := by decide +kernel
theorem dL_1454 : decode code 1454 = .ok (.iload_n 3, 1) := by decide +kernel
theorem dL_1455 : decode code 1455 = .ok (.iconst 1, 1) := by decide +kernel
theorem dL_1456 : decode code 1456 = .ok (.iadd, 1) := by decide +kernel
theorem dL_1457 : decode code 1457 = .ok (.iaload, 1) := by decide +kernel
theorem dL_1458 : decode code 1458 = .ok (.aload_n 0, 1) := by decide +kernel
theorem dL_1459 : decode code 1459 = .ok (.iload_n 3, 1) := by decide +kernel
theorem dL_1460 : decode code 1460 = .ok (.iconst 2, 1) := by decide +kernel
theorem dL_1461 : decode code 1461 = .ok (.iadd, 1) := by decide +kernel
theorem dL_1462 : decode code 1462 = .ok (.iaload, 1) := by decide +kernel
theorem dL_1463 : decode code 1463 = .ok (.aload_n 0, 1) := by decide +kernel
theorem dL_1464 : decode code 1464 = .ok (.iload_n 3, 1) := by decide +kernel
theorem dL_1465 : decode code 1465 = .ok (.iconst 3, 1) := by decide +kernel
theorem dL_1466 : decode code 1466 = .ok (.iadd, 1) := by decide +kernel
theorem dL_1467 : decode code 1467 = .ok (.iaload, 1) := by decide +kernel
theorem dL_1468 : decode code 1468 = .ok (.invokevirtual 186, 3) := by decide +kernel
theorem dL_1471 : decode code 1471 = .ok (.aload_n 2, 1) := by decide +kernel
theorem dL_1472 : decode code 1472 = .ok (.aload_n 0, 1) := by decide +kernel
theorem dL_1473 : decode code 1473 = .ok (.iload_n 3, 1) := by decide +kernel
theorem dL_1474 : decode code 1474 = .ok (.iconst 1, 1) := by decide +kernel
theorem dL_1475 : decode code 1475 = .ok (.iadd, 1) := by decide +kernel
theorem dL_1476 : decode code 1476 = .ok (.iaload, 1) := by decide +kernel
theorem dL_1477 : decode code 1477 = .ok (.aload_n 0, 1) := by decide +kernel
theorem dL_1478 : decode code 1478 = .ok (.iload_n 3, 1) := by decide +kernel
theorem dL_1479 : decode code 1479 = .ok (.iconst 2, 1) := by decide +kernel
theorem dL_1480 : decode code 1480 = .ok (.iadd, 1) := by decide +kernel
theorem dL_1481 : decode code 1481 = .ok (.iaload, 1) := by decide +kernel
theorem dL_1482 : decode code 1482 = .ok (.aload_n 0, 1) := by decide +kernel
theorem dL_1483 : decode code 1483 = .ok (.iload_n 3, 1) := by decide +kernel
theorem dL_1484 : decode code 1484 = .ok (.iconst 3, 1) := by decide +kernel
theorem dL_1485 : decode code 1485 = .ok (.iadd, 1) := by decide +kernel
theorem dL_1486 : decode code 1486 = .ok (.iaload, 1) := by decide +kernel
theorem dL_1487 : decode code 1487 = .ok (.invokevirtual 189, 3) := by decide +kernel
theorem dL_1490 : decode code 1490 = .ok (.if_icmp .eq 262, 3) := by decide +kernel
theorem dL_1495 : decode code 1495 = .ok (.aload_n 1, 1) := by decide +kernel
theorem dL_1496 : decode code 1496 = .ok (.aload_n 0, 1) := by decide +kernel
theorem dL_1497 : decode code 1497 = .ok (.iload_n 3, 1) := by decide +kernel
theorem dL_1498 : decode code 1498 = .ok (.iconst 1, 1) := by decide +kernel
theorem dL_1499 : decode code 1499 = .ok (.iadd, 1) := by decide +kernel
theorem dL_1500 : decode code 1500 = .ok (.iaload, 1) := by decide +kernel
theorem dL_1501 : decode code 1501 = .ok (.aload_n 0, 1) := by decide +kernel
theorem dL_1502 : decode code 1502 = .ok (.iload_n 3, 1) := by decide +kernel
theorem dL_1503 : decode code 1503 = .ok (.iconst 2, 1) := by decide +kernel
theorem dL_1504 : decode code 1504 = .ok (.iadd, 1) := by decide +kernel
theorem dL_1505 : decode code 1505 = .ok (.iaload, 1) := by decide +kernel
theorem dL_1506 : decode code 1506 = .ok (.aload_n 0, 1) := by decide +kernel
theorem dL_1507 : decode code 1507 = .ok (.iload_n 3, 1) := by decide +kernel
theorem dL_1508 : decode code 1508 = .ok (.iconst 3, 1) := by decide +kernel
theorem dL_1509 : decode code 1509 = .ok (.iadd, 1) := by decide +kernel
theorem dL_1510 : decode code 1510 = .ok (.iaload, 1) := by decide +kernel
theorem dL_1511 : decode code 1511 = .ok (.invokevirtual 190, 3) := by decide +kernel
theorem dL_1514 : decode code 1514 = .ok (.aload_n 2, 1) := by decide +kernel
theorem dL_1515 : decode code 1515 = .ok (.aload_n 0, 1) := by decide +kernel
theorem dL_1516 : decode code 1516 = .ok (.iload_n 3, 1) := by decide +kernel
theorem dL_1517 : decode code 1517 = .ok (.iconst 1, 1) := by decide +kernel
theorem dL_1518 : decode code 1518 = .ok (.iadd, 1) := by decide +kernel
theorem dL_1519 : decode code 1519 = .ok (.iaload, 1) := by decide +kernel
theorem dL_1520 : decode code 1520 = .ok (.aload_n 0, 1) := by decide +kernel
theorem dL_1521 : decode code 1521 = .ok (.iload_n 3, 1) := by decide +kernel
theorem dL_1522 : decode code 1522 = .ok (.iconst 2, 1) := by decide +kernel
theorem dL_1523 : decode code 1523 = .ok (.iadd, 1) := by decide +kernel
theorem dL_1524 : decode code 1524 = .ok (.iaload, 1) := by decide +kernel
theorem dL_1525 : decode code 1525 = .ok (.aload_n 0, 1) := by decide +kernel
theorem dL_1526 : decode code 1526 = .ok (.iload_n 3, 1) := by decide +kernel
theorem dL_1527 : decode code 1527 = .ok (.iconst 3, 1) := by decide +kernel
theorem dL_1528 : decode code 1528 = .ok (.iadd, 1) := by decide +kernel
theorem dL_1529 : decode code 1529 = .ok (.iaload, 1) := by decide +kernel
theorem dL_1530 : decode code 1530 = .ok (.invokevirtual 193, 3) := by decide +kernel
theorem dL_1533 : decode code 1533 = .ok (.if_icmp .eq 219, 3) := by decide +kernel
theorem dL_1538 : decode code 1538 = .ok (.aload_n 1, 1) := by decide +kernel
theorem dL_1539 : decode code 1539 = .ok (.aload_n 0, 1) := by decide +kernel
theorem dL_1540 : decode code 1540 = .ok (.iload_n 3, 1) := by decide +kernel
theorem dL_1541 : decode code 1541 = .ok (.iconst 1, 1) := by decide +kernel
theorem dL_1542 : decode code 1542 = .ok (.iadd, 1) := by decide +kernel
theorem dL_1543 : decode code 1543 = .ok (.iaload, 1) := by decide +kernel
theorem dL_1544 : decode code 1544 = .ok (.aload_n 0, 1) := by decide +kernel
theorem dL_1545 : decode code 1545 = .ok (.iload_n 3, 1) := by decide +kernel
theorem dL_1546 : decode code 1546 = .ok (.iconst 2, 1) := by decide +kernel
theorem dL_1547 : decode code 1547 = .ok (.iadd, 1) := by decide +kernel
theorem dL_1548 : decode code 1548 = .ok (.iaload, 1) := by decide +kernel
theorem dL_1549 : decode code 1549 = .ok (.aload_n 0, 1) := by decide +kernel
theorem dL_1550 : decode code 1550 = .ok (.iload_n 3, 1) := by decide +kernel
theorem dL_1551 : decode code 1551 = .ok (.iconst 3, 1) := by decide +kernel
theorem dL_1552 : decode code 1552 = .ok (.iadd, 1) := by decide +kernel
theorem dL_1553 : decode code 1553 = .ok (.iaload, 1) := by decide +kernel
theorem dL_1554 : decode code 1554 = .ok (.aload_n 0, 1) := by decide +kernel
theorem dL_1555 : decode code 1555 = .ok (.iload_n 3, 1) := by decide +kernel
theorem dL_1556 : decode code 1556 = .ok (.iconst 4, 1) := by decide +kernel
theorem dL_1557 : decode code 1557 = .ok (.iadd, 1) := by decide +kernel
theorem dL_1558 : decode code 1558 = .ok (.iaload, 1) := by decide +kernel
theorem dL_1559 : decode code 1559 = .ok (.aload_n 0, 1) := by decide +kernel
theorem dL_1560 : decode code 1560 = .ok (.iload_n 3, 1) := by decide +kernel
theorem dL_1561 : decode code 1561 = .ok (.iconst 5, 1) := by decide +kernel
theorem dL_1562 : decode code 1562 = .ok (.iadd, 1) := by decide +kernel
theorem dL_1563 : decode code 1563 = .ok (.iaload, 1) := by decide +kernel
theorem dL_1564 : decode code 1564 = .ok (.invokevirtual 194, 3) := by decide +kernel
theorem dL_1567 : decode code 1567 = .ok (.aload_n 2, 1) := by decide +kernel
