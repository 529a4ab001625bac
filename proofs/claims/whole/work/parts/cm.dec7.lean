theorem dL_law_1425 : decode cL_law 1425 = .ok (.aload_n 2, 1) := by decide +kernel
theorem dL_law_1426 : decode cL_law 1426 = .ok (.aload_n 0, 1) := by decide +kernel
theorem dL_law_1427 : decode cL_law 1427 = .ok (.iload 4, 2) := by decide +kernel
theorem dL_law_1429 : decode cL_law 1429 = .ok (.iconst 1, 1) := by decide +kernel
theorem dL_law_1430 : decode cL_law 1430 = .ok (.iadd, 1) := by decide +kernel
theorem dL_law_1431 : decode cL_law 1431 = .ok (.iaload, 1) := by decide +kernel
theorem dL_law_1432 : decode cL_law 1432 = .ok (.aload_n 0, 1) := by decide +kernel
theorem dL_law_1433 : decode cL_law 1433 = .ok (.iload 4, 2) := by decide +kernel
theorem dL_law_1435 : decode cL_law 1435 = .ok (.iconst 2, 1) := by decide +kernel
theorem dL_law_1436 : decode cL_law 1436 = .ok (.iadd, 1) := by decide +kernel
theorem dL_law_1437 : decode cL_law 1437 = .ok (.iaload, 1) := by decide +kernel
theorem dL_law_1438 : decode cL_law 1438 = .ok (.aload_n 0, 1) := by decide +kernel
theorem dL_law_1439 : decode cL_law 1439 = .ok (.iload 4, 2) := by decide +kernel
theorem dL_law_1441 : decode cL_law 1441 = .ok (.iconst 3, 1) := by decide +kernel
theorem dL_law_1442 : decode cL_law 1442 = .ok (.iadd, 1) := by decide +kernel
theorem dL_law_1443 : decode cL_law 1443 = .ok (.iaload, 1) := by decide +kernel
theorem dL_law_1444 : decode cL_law 1444 = .ok (.invokevirtual 165, 3) := by decide +kernel
theorem dL_law_1447 : decode cL_law 1447 = .ok (.if_icmp .eq 155, 3) := by decide +kernel
theorem dL_law_1450 : decode cL_law 1450 = .ok (.iconst 0, 1) := by decide +kernel
theorem dL_law_1451 : decode cL_law 1451 = .ok (.ireturn, 1) := by decide +kernel
theorem dL_law_1452 : decode cL_law 1452 = .ok (.aload_n 1, 1) := by decide +kernel
theorem dL_law_1453 : decode cL_law 1453 = .ok (.aload_n 0, 1) := by decide +kernel
theorem dL_law_1454 : decode cL_law 1454 = .ok (.iload 4, 2) := by decide +kernel
theorem dL_law_1456 : decode cL_law 1456 = .ok (.iconst 1, 1) := by decide +kernel
theorem dL_law_1457 : decode cL_law 1457 = .ok (.iadd, 1) := by decide +kernel
theorem dL_law_1458 : decode cL_law 1458 = .ok (.iaload, 1) := by decide +kernel
theorem dL_law_1459 : decode cL_law 1459 = .ok (.aload_n 0, 1) := by decide +kernel
theorem dL_law_1460 : decode cL_law 1460 = .ok (.iload 4, 2) := by decide +kernel
theorem dL_law_1462 : decode cL_law 1462 = .ok (.iconst 2, 1) := by decide +kernel
theorem dL_law_1463 : decode cL_law 1463 = .ok (.iadd, 1) := by decide +kernel
theorem dL_law_1464 : decode cL_law 1464 = .ok (.iaload, 1) := by decide +kernel
theorem dL_law_1465 : decode cL_law 1465 = .ok (.invokevirtual 166, 3) := by decide +kernel
theorem dL_law_1468 : decode cL_law 1468 = .ok (.aload_n 2, 1) := by decide +kernel
theorem dL_law_1469 : decode cL_law 1469 = .ok (.aload_n 0, 1) := by decide +kernel
theorem dL_law_1470 : decode cL_law 1470 = .ok (.iload 4, 2) := by decide +kernel
theorem dL_law_1472 : decode cL_law 1472 = .ok (.iconst 1, 1) := by decide +kernel
theorem dL_law_1473 : decode cL_law 1473 = .ok (.iadd, 1) := by decide +kernel
theorem dL_law_1474 : decode cL_law 1474 = .ok (.iaload, 1) := by decide +kernel
theorem dL_law_1475 : decode cL_law 1475 = .ok (.aload_n 0, 1) := by decide +kernel
theorem dL_law_1476 : decode cL_law 1476 = .ok (.iload 4, 2) := by decide +kernel
theorem dL_law_1478 : decode cL_law 1478 = .ok (.iconst 2, 1) := by decide +kernel
theorem dL_law_1479 : decode cL_law 1479 = .ok (.iadd, 1) := by decide +kernel
theorem dL_law_1480 : decode cL_law 1480 = .ok (.iaload, 1) := by decide +kernel
theorem dL_law_1481 : decode cL_law 1481 = .ok (.invokevirtual 169, 3) := by decide +kernel
theorem dL_law_1484 : decode cL_law 1484 = .ok (.if_icmp .eq 118, 3) := by decide +kernel
theorem dL_law_1487 : decode cL_law 1487 = .ok (.iconst 0, 1) := by decide +kernel
theorem dL_law_1488 : decode cL_law 1488 = .ok (.ireturn, 1) := by decide +kernel
theorem dL_law_1489 : decode cL_law 1489 = .ok (.aload_n 1, 1) := by decide +kernel
theorem dL_law_1490 : decode cL_law 1490 = .ok (.aload_n 0, 1) := by decide +kernel
theorem dL_law_1491 : decode cL_law 1491 = .ok (.iload 4, 2) := by decide +kernel
theorem dL_law_1493 : decode cL_law 1493 = .ok (.iconst 1, 1) := by decide +kernel
theorem dL_law_1494 : decode cL_law 1494 = .ok (.iadd, 1) := by decide +kernel
theorem dL_law_1495 : decode cL_law 1495 = .ok (.iaload, 1) := by decide +kernel
theorem dL_law_1496 : decode cL_law 1496 = .ok (.aload_n 0, 1) := by decide +kernel
theorem dL_law_1497 : decode cL_law 1497 = .ok (.iload 4, 2) := by decide +kernel
theorem dL_law_1499 : decode cL_law 1499 = .ok (.iconst 2, 1) := by decide +kernel
theorem dL_law_1500 : decode cL_law 1500 = .ok (.iadd, 1) := by decide +kernel
theorem dL_law_1501 : decode cL_law 1501 = .ok (.iaload, 1) := by decide +kernel
theorem dL_law_1502 : decode cL_law 1502 = .ok (.invokevirtual 170, 3) := by decide +kernel
theorem dL_law_1505 : decode cL_law 1505 = .ok (.aload_n 2, 1) := by decide +kernel
theorem dL_law_1506 : decode cL_law 1506 = .ok (.aload_n 0, 1) := by decide +kernel
theorem dL_law_1507 : decode cL_law 1507 = .ok (.iload 4, 2) := by decide +kernel
theorem dL_law_1509 : decode cL_law 1509 = .ok (.iconst 1, 1) := by decide +kernel
theorem dL_law_1510 : decode cL_law 1510 = .ok (.iadd, 1) := by decide +kernel
theorem dL_law_1511 : decode cL_law 1511 = .ok (.iaload, 1) := by decide +kernel
theorem dL_law_1512 : decode cL_law 1512 = .ok (.aload_n 0, 1) := by decide +kernel
theorem dL_law_1513 : decode cL_law 1513 = .ok (.iload 4, 2) := by decide +kernel
theorem dL_law_1515 : decode cL_law 1515 = .ok (.iconst 2, 1) := by decide +kernel
theorem dL_law_1516 : decode cL_law 1516 = .ok (.iadd, 1) := by decide +kernel
theorem dL_law_1517 : decode cL_law 1517 = .ok (.iaload, 1) := by decide +kernel
theorem dL_law_1518 : decode cL_law 1518 = .ok (.invokevirtual 173, 3) := by decide +kernel
theorem dL_law_1521 : decode cL_law 1521 = .ok (.if_icmp .eq 81, 3) := by decide +kernel
theorem dL_law_1524 : decode cL_law 1524 = .ok (.iconst 0, 1) := by decide +kernel
theorem dL_law_1525 : decode cL_law 1525 = .ok (.ireturn, 1) := by decide +kernel
theorem dL_law_1526 : decode cL_law 1526 = .ok (.aload_n 1, 1) := by decide +kernel
theorem dL_law_1527 : decode cL_law 1527 = .ok (.aload_n 0, 1) := by decide +kernel
theorem dL_law_1528 : decode cL_law 1528 = .ok (.iload 4, 2) := by decide +kernel
theorem dL_law_1530 : decode cL_law 1530 = .ok (.iconst 1, 1) := by decide +kernel
theorem dL_law_1531 : decode cL_law 1531 = .ok (.iadd, 1) := by decide +kernel
theorem dL_law_1532 : decode cL_law 1532 = .ok (.iaload, 1) := by decide +kernel
theorem dL_law_1533 : decode cL_law 1533 = .ok (.invokevirtual 174, 3) := by decide +kernel
theorem dL_law_1536 : decode cL_law 1536 = .ok (.aload_n 2, 1) := by decide +kernel
theorem dL_law_1537 : decode cL_law 1537 = .ok (.aload_n 0, 1) := by decide +kernel
theorem dL_law_1538 : decode cL_law 1538 = .ok (.iload 4, 2) := by decide +kernel
theorem dL_law_1540 : decode cL_law 1540 = .ok (.iconst 1, 1) := by decide +kernel
theorem dL_law_1541 : decode cL_law 1541 = .ok (.iadd, 1) := by decide +kernel
theorem dL_law_1542 : decode cL_law 1542 = .ok (.iaload, 1) := by decide +kernel
theorem dL_law_1543 : decode cL_law 1543 = .ok (.invokevirtual 177, 3) := by decide +kernel
theorem dL_law_1546 : decode cL_law 1546 = .ok (.if_icmp .eq 56, 3) := by decide +kernel
theorem dL_law_1549 : decode cL_law 1549 = .ok (.iconst 0, 1) := by decide +kernel
theorem dL_law_1550 : decode cL_law 1550 = .ok (.ireturn, 1) := by decide +kernel
theorem dL_law_1551 : decode cL_law 1551 = .ok (.aload_n 1, 1) := by decide +kernel
theorem dL_law_1552 : decode cL_law 1552 = .ok (.invokevirtual 178, 3) := by decide +kernel
theorem dL_law_1555 : decode cL_law 1555 = .ok (.aload_n 2, 1) := by decide +kernel
theorem dL_law_1556 : decode cL_law 1556 = .ok (.invokevirtual 181, 3) := by decide +kernel
theorem dL_law_1559 : decode cL_law 1559 = .ok (.if_icmp .eq 43, 3) := by decide +kernel
theorem dL_law_1562 : decode cL_law 1562 = .ok (.iconst 0, 1) := by decide +kernel
theorem dL_law_1563 : decode cL_law 1563 = .ok (.ireturn, 1) := by decide +kernel
theorem dL_law_1564 : decode cL_law 1564 = .ok (.aload_n 1, 1) := by decide +kernel
theorem dL_law_1565 : decode cL_law 1565 = .ok (.invokevirtual 182, 3) := by decide +kernel
theorem dL_law_1568 : decode cL_law 1568 = .ok (.aload_n 2, 1) := by decide +kernel
theorem dL_law_1569 : decode cL_law 1569 = .ok (.invokevirtual 185, 3) := by decide +kernel
theorem dL_law_1572 : decode cL_law 1572 = .ok (.if_icmp .eq 30, 3) := by decide +kernel
theorem dL_law_1575 : decode cL_law 1575 = .ok (.iconst 0, 1) := by decide +kernel
theorem dL_law_1576 : decode cL_law 1576 = .ok (.ireturn, 1) := by decide +kernel
theorem dL_law_1577 : decode cL_law 1577 = .ok (.aload_n 1, 1) := by decide +kernel
theorem dL_law_1578 : decode cL_law 1578 = .ok (.aload_n 0, 1) := by decide +kernel
theorem dL_law_1579 : decode cL_law 1579 = .ok (.iload 4, 2) := by decide +kernel
theorem dL_law_1581 : decode cL_law 1581 = .ok (.iconst 1, 1) := by decide +kernel
theorem dL_law_1582 : decode cL_law 1582 = .ok (.iadd, 1) := by decide +kernel
theorem dL_law_1583 : decode cL_law 1583 = .ok (.iaload, 1) := by decide +kernel
theorem dL_law_1584 : decode cL_law 1584 = .ok (.invokevirtual 186, 3) := by decide +kernel
theorem dL_law_1587 : decode cL_law 1587 = .ok (.aload_n 2, 1) := by decide +kernel
theorem dL_law_1588 : decode cL_law 1588 = .ok (.aload_n 0, 1) := by decide +kernel
theorem dL_law_1589 : decode cL_law 1589 = .ok (.iload 4, 2) := by decide +kernel
theorem dL_law_1591 : decode cL_law 1591 = .ok (.iconst 1, 1) := by decide +kernel
theorem dL_law_1592 : decode cL_law 1592 = .ok (.iadd, 1) := by decide +kernel
theorem dL_law_1593 : decode cL_law 1593 = .ok (.iaload, 1) := by decide +kernel
theorem dL_law_1594 : decode cL_law 1594 = .ok (.invokevirtual 189, 3) := by decide +kernel
theorem dL_law_1597 : decode cL_law 1597 = .ok (.if_icmp .eq 5, 3) := by decide +kernel
theorem dL_law_1600 : decode cL_law 1600 = .ok (.iconst 0, 1) := by decide +kernel
theorem dL_law_1601 : decode cL_law 1601 = .ok (.ireturn, 1) := by decide +kernel
theorem dL_law_1602 : decode cL_law 1602 = .ok (.iinc 4 6, 3) := by decide +kernel
theorem dL_law_1605 : decode cL_law 1605 = .ok (.goto (-1582), 3) := by decide +kernel
theorem dL_law_1608 : decode cL_law 1608 = .ok (.iconst 1, 1) := by decide +kernel
theorem dL_law_1609 : decode cL_law 1609 = .ok (.ireturn, 1) := by decide +kernel
