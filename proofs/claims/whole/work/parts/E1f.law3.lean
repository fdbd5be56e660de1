theorem dL_law__1440 : decode cL_law_ 1440 = .ok (.iaload, 1) := by decide +kernel
theorem eL_law__1440 : zD KL_law_ 1440 (.iaload) 1 1441 := ⟨dL_law__1440, rfl⟩
theorem dL_law__1441 : decode cL_law_ 1441 = .ok (.invokevirtual 225, 3) := by decide +kernel
theorem eL_law__1441 : zD KL_law_ 1441 (.invokevirtual 225) 3 1444 := ⟨dL_law__1441, rfl⟩
theorem dL_law__1444 : decode cL_law_ 1444 = .ok (.istore 6, 2) := by decide +kernel
theorem eL_law__1444 : zD KL_law_ 1444 (.istore 6) 2 1446 := ⟨dL_law__1444, rfl⟩
theorem dL_law__1446 : decode cL_law_ 1446 = .ok (.aload_n 2, 1) := by decide +kernel
theorem eL_law__1446 : zD KL_law_ 1446 (.aload_n 2) 1 1447 := ⟨dL_law__1446, rfl⟩
theorem dL_law__1447 : decode cL_law_ 1447 = .ok (.invokevirtual 170, 3) := by decide +kernel
theorem eL_law__1447 : zD KL_law_ 1447 (.invokevirtual 170) 3 1450 := ⟨dL_law__1447, rfl⟩
theorem dL_law__1450 : decode cL_law_ 1450 = .ok (.iload 5, 2) := by decide +kernel
theorem eL_law__1450 : zD KL_law_ 1450 (.iload 5) 2 1452 := ⟨dL_law__1450, rfl⟩
theorem dL_law__1452 : decode cL_law_ 1452 = .ok (.if_icmp .eq 5, 3) := by decide +kernel
theorem eL_law__1452 : zD KL_law_ 1452 (.if_icmp .eq 5) 3 1455 := ⟨dL_law__1452, rfl⟩
theorem dL_law__1455 : decode cL_law_ 1455 = .ok (.iconst 0, 1) := by decide +kernel
theorem eL_law__1455 : zD KL_law_ 1455 (.iconst 0) 1 1456 := ⟨dL_law__1455, rfl⟩
theorem dL_law__1456 : decode cL_law_ 1456 = .ok (.ireturn, 1) := by decide +kernel
theorem eL_law__1456 : zD KL_law_ 1456 (.ireturn) 1 1457 := ⟨dL_law__1456, rfl⟩
theorem dL_law__1457 : decode cL_law_ 1457 = .ok (.iload 5, 2) := by decide +kernel
theorem eL_law__1457 : zD KL_law_ 1457 (.iload 5) 2 1459 := ⟨dL_law__1457, rfl⟩
theorem dL_law__1459 : decode cL_law_ 1459 = .ok (.ifCond .ne 22, 3) := by decide +kernel
theorem eL_law__1459 : zD KL_law_ 1459 (.ifCond .ne 22) 3 1462 := ⟨dL_law__1459, rfl⟩
theorem dL_law__1462 : decode cL_law_ 1462 = .ok (.aload_n 3, 1) := by decide +kernel
theorem eL_law__1462 : zD KL_law_ 1462 (.aload_n 3) 1 1463 := ⟨dL_law__1462, rfl⟩
theorem dL_law__1463 : decode cL_law_ 1463 = .ok (.iconst 0, 1) := by decide +kernel
theorem eL_law__1463 : zD KL_law_ 1463 (.iconst 0) 1 1464 := ⟨dL_law__1463, rfl⟩
theorem dL_law__1464 : decode cL_law_ 1464 = .ok (.laload, 1) := by decide +kernel
theorem eL_law__1464 : zD KL_law_ 1464 (.laload) 1 1465 := ⟨dL_law__1464, rfl⟩
theorem dL_law__1465 : decode cL_law_ 1465 = .ok (.iload 6, 2) := by decide +kernel
theorem eL_law__1465 : zD KL_law_ 1465 (.iload 6) 2 1467 := ⟨dL_law__1465, rfl⟩
theorem dL_law__1467 : decode cL_law_ 1467 = .ok (.ifCond .eq 7, 3) := by decide +kernel
theorem eL_law__1467 : zD KL_law_ 1467 (.ifCond .eq 7) 3 1470 := ⟨dL_law__1467, rfl⟩
theorem dL_law__1470 : decode cL_law_ 1470 = .ok (.lconst 1, 1) := by decide +kernel
theorem eL_law__1470 : zD KL_law_ 1470 (.lconst 1) 1 1471 := ⟨dL_law__1470, rfl⟩
theorem dL_law__1471 : decode cL_law_ 1471 = .ok (.goto 4, 3) := by decide +kernel
theorem eL_law__1471 : zD KL_law_ 1471 (.goto 4) 3 1474 := ⟨dL_law__1471, rfl⟩
theorem dL_law__1474 : decode cL_law_ 1474 = .ok (.lconst 0, 1) := by decide +kernel
theorem eL_law__1474 : zD KL_law_ 1474 (.lconst 0) 1 1475 := ⟨dL_law__1474, rfl⟩
theorem dL_law__1475 : decode cL_law_ 1475 = .ok (.lcmp, 1) := by decide +kernel
theorem eL_law__1475 : zD KL_law_ 1475 (.lcmp) 1 1476 := ⟨dL_law__1475, rfl⟩
theorem dL_law__1476 : decode cL_law_ 1476 = .ok (.ifCond .eq 5, 3) := by decide +kernel
theorem eL_law__1476 : zD KL_law_ 1476 (.ifCond .eq 5) 3 1479 := ⟨dL_law__1476, rfl⟩
theorem dL_law__1479 : decode cL_law_ 1479 = .ok (.iconst 0, 1) := by decide +kernel
theorem eL_law__1479 : zD KL_law_ 1479 (.iconst 0) 1 1480 := ⟨dL_law__1479, rfl⟩
theorem dL_law__1480 : decode cL_law_ 1480 = .ok (.ireturn, 1) := by decide +kernel
theorem eL_law__1480 : zD KL_law_ 1480 (.ireturn) 1 1481 := ⟨dL_law__1480, rfl⟩
theorem dL_law__1481 : decode cL_law_ 1481 = .ok (.goto 1871, 3) := by decide +kernel
theorem eL_law__1481 : zD KL_law_ 1481 (.goto 1871) 3 1484 := ⟨dL_law__1481, rfl⟩
theorem dL_law__1484 : decode cL_law_ 1484 = .ok (.aload_n 1, 1) := by decide +kernel
theorem eL_law__1484 : zD KL_law_ 1484 (.aload_n 1) 1 1485 := ⟨dL_law__1484, rfl⟩
theorem dL_law__1485 : decode cL_law_ 1485 = .ok (.aload_n 0, 1) := by decide +kernel
theorem eL_law__1485 : zD KL_law_ 1485 (.aload_n 0) 1 1486 := ⟨dL_law__1485, rfl⟩
theorem dL_law__1486 : decode cL_law_ 1486 = .ok (.iload 4, 2) := by decide +kernel
theorem eL_law__1486 : zD KL_law_ 1486 (.iload 4) 2 1488 := ⟨dL_law__1486, rfl⟩
theorem dL_law__1488 : decode cL_law_ 1488 = .ok (.iconst 1, 1) := by decide +kernel
theorem eL_law__1488 : zD KL_law_ 1488 (.iconst 1) 1 1489 := ⟨dL_law__1488, rfl⟩
theorem dL_law__1489 : decode cL_law_ 1489 = .ok (.iadd, 1) := by decide +kernel
theorem eL_law__1489 : zD KL_law_ 1489 (.iadd) 1 1490 := ⟨dL_law__1489, rfl⟩
theorem dL_law__1490 : decode cL_law_ 1490 = .ok (.iaload, 1) := by decide +kernel
theorem eL_law__1490 : zD KL_law_ 1490 (.iaload) 1 1491 := ⟨dL_law__1490, rfl⟩
theorem dL_law__1491 : decode cL_law_ 1491 = .ok (.aload_n 0, 1) := by decide +kernel
theorem eL_law__1491 : zD KL_law_ 1491 (.aload_n 0) 1 1492 := ⟨dL_law__1491, rfl⟩
theorem dL_law__1492 : decode cL_law_ 1492 = .ok (.iload 4, 2) := by decide +kernel
theorem eL_law__1492 : zD KL_law_ 1492 (.iload 4) 2 1494 := ⟨dL_law__1492, rfl⟩
theorem dL_law__1494 : decode cL_law_ 1494 = .ok (.iconst 2, 1) := by decide +kernel
theorem eL_law__1494 : zD KL_law_ 1494 (.iconst 2) 1 1495 := ⟨dL_law__1494, rfl⟩
theorem dL_law__1495 : decode cL_law_ 1495 = .ok (.iadd, 1) := by decide +kernel
theorem eL_law__1495 : zD KL_law_ 1495 (.iadd) 1 1496 := ⟨dL_law__1495, rfl⟩
theorem dL_law__1496 : decode cL_law_ 1496 = .ok (.iaload, 1) := by decide +kernel
theorem eL_law__1496 : zD KL_law_ 1496 (.iaload) 1 1497 := ⟨dL_law__1496, rfl⟩
theorem dL_law__1497 : decode cL_law_ 1497 = .ok (.aload_n 3, 1) := by decide +kernel
theorem eL_law__1497 : zD KL_law_ 1497 (.aload_n 3) 1 1498 := ⟨dL_law__1497, rfl⟩
theorem dL_law__1498 : decode cL_law_ 1498 = .ok (.invokestatic 226, 3) := by decide +kernel
theorem eL_law__1498 : zD KL_law_ 1498 (.invokestatic 226) 3 1501 := ⟨dL_law__1498, rfl⟩
theorem dL_law__1501 : decode cL_law_ 1501 = .ok (.istore 5, 2) := by decide +kernel
theorem eL_law__1501 : zD KL_law_ 1501 (.istore 5) 2 1503 := ⟨dL_law__1501, rfl⟩
theorem dL_law__1503 : decode cL_law_ 1503 = .ok (.aload_n 2, 1) := by decide +kernel
theorem eL_law__1503 : zD KL_law_ 1503 (.aload_n 2) 1 1504 := ⟨dL_law__1503, rfl⟩
theorem dL_law__1504 : decode cL_law_ 1504 = .ok (.aload_n 0, 1) := by decide +kernel
theorem eL_law__1504 : zD KL_law_ 1504 (.aload_n 0) 1 1505 := ⟨dL_law__1504, rfl⟩
theorem dL_law__1505 : decode cL_law_ 1505 = .ok (.iload 4, 2) := by decide +kernel
theorem eL_law__1505 : zD KL_law_ 1505 (.iload 4) 2 1507 := ⟨dL_law__1505, rfl⟩
theorem dL_law__1507 : decode cL_law_ 1507 = .ok (.iconst 1, 1) := by decide +kernel
theorem eL_law__1507 : zD KL_law_ 1507 (.iconst 1) 1 1508 := ⟨dL_law__1507, rfl⟩
theorem dL_law__1508 : decode cL_law_ 1508 = .ok (.iadd, 1) := by decide +kernel
theorem eL_law__1508 : zD KL_law_ 1508 (.iadd) 1 1509 := ⟨dL_law__1508, rfl⟩
theorem dL_law__1509 : decode cL_law_ 1509 = .ok (.iaload, 1) := by decide +kernel
theorem eL_law__1509 : zD KL_law_ 1509 (.iaload) 1 1510 := ⟨dL_law__1509, rfl⟩
theorem dL_law__1510 : decode cL_law_ 1510 = .ok (.aload_n 0, 1) := by decide +kernel
theorem eL_law__1510 : zD KL_law_ 1510 (.aload_n 0) 1 1511 := ⟨dL_law__1510, rfl⟩
theorem dL_law__1511 : decode cL_law_ 1511 = .ok (.iload 4, 2) := by decide +kernel
theorem eL_law__1511 : zD KL_law_ 1511 (.iload 4) 2 1513 := ⟨dL_law__1511, rfl⟩
theorem dL_law__1513 : decode cL_law_ 1513 = .ok (.iconst 2, 1) := by decide +kernel
theorem eL_law__1513 : zD KL_law_ 1513 (.iconst 2) 1 1514 := ⟨dL_law__1513, rfl⟩
theorem dL_law__1514 : decode cL_law_ 1514 = .ok (.iadd, 1) := by decide +kernel
theorem eL_law__1514 : zD KL_law_ 1514 (.iadd) 1 1515 := ⟨dL_law__1514, rfl⟩
theorem dL_law__1515 : decode cL_law_ 1515 = .ok (.iaload, 1) := by decide +kernel
theorem eL_law__1515 : zD KL_law_ 1515 (.iaload) 1 1516 := ⟨dL_law__1515, rfl⟩
theorem dL_law__1516 : decode cL_law_ 1516 = .ok (.invokevirtual 228, 3) := by decide +kernel
theorem eL_law__1516 : zD KL_law_ 1516 (.invokevirtual 228) 3 1519 := ⟨dL_law__1516, rfl⟩
theorem dL_law__1519 : decode cL_law_ 1519 = .ok (.istore 6, 2) := by decide +kernel
theorem eL_law__1519 : zD KL_law_ 1519 (.istore 6) 2 1521 := ⟨dL_law__1519, rfl⟩
theorem dL_law__1521 : decode cL_law_ 1521 = .ok (.aload_n 2, 1) := by decide +kernel
theorem eL_law__1521 : zD KL_law_ 1521 (.aload_n 2) 1 1522 := ⟨dL_law__1521, rfl⟩
theorem dL_law__1522 : decode cL_law_ 1522 = .ok (.invokevirtual 170, 3) := by decide +kernel
theorem eL_law__1522 : zD KL_law_ 1522 (.invokevirtual 170) 3 1525 := ⟨dL_law__1522, rfl⟩
theorem dL_law__1525 : decode cL_law_ 1525 = .ok (.iload 5, 2) := by decide +kernel
theorem eL_law__1525 : zD KL_law_ 1525 (.iload 5) 2 1527 := ⟨dL_law__1525, rfl⟩
theorem dL_law__1527 : decode cL_law_ 1527 = .ok (.if_icmp .eq 5, 3) := by decide +kernel
theorem eL_law__1527 : zD KL_law_ 1527 (.if_icmp .eq 5) 3 1530 := ⟨dL_law__1527, rfl⟩
theorem dL_law__1530 : decode cL_law_ 1530 = .ok (.iconst 0, 1) := by decide +kernel
theorem eL_law__1530 : zD KL_law_ 1530 (.iconst 0) 1 1531 := ⟨dL_law__1530, rfl⟩
theorem dL_law__1531 : decode cL_law_ 1531 = .ok (.ireturn, 1) := by decide +kernel
theorem eL_law__1531 : zD KL_law_ 1531 (.ireturn) 1 1532 := ⟨dL_law__1531, rfl⟩
theorem dL_law__1532 : decode cL_law_ 1532 = .ok (.iload 5, 2) := by decide +kernel
theorem eL_law__1532 : zD KL_law_ 1532 (.iload 5) 2 1534 := ⟨dL_law__1532, rfl⟩
theorem dL_law__1534 : decode cL_law_ 1534 = .ok (.ifCond .ne 15, 3) := by decide +kernel
theorem eL_law__1534 : zD KL_law_ 1534 (.ifCond .ne 15) 3 1537 := ⟨dL_law__1534, rfl⟩
theorem dL_law__1537 : decode cL_law_ 1537 = .ok (.aload_n 3, 1) := by decide +kernel
theorem eL_law__1537 : zD KL_law_ 1537 (.aload_n 3) 1 1538 := ⟨dL_law__1537, rfl⟩
theorem dL_law__1538 : decode cL_law_ 1538 = .ok (.iconst 0, 1) := by decide +kernel
theorem eL_law__1538 : zD KL_law_ 1538 (.iconst 0) 1 1539 := ⟨dL_law__1538, rfl⟩
theorem dL_law__1539 : decode cL_law_ 1539 = .ok (.laload, 1) := by decide +kernel
theorem eL_law__1539 : zD KL_law_ 1539 (.laload) 1 1540 := ⟨dL_law__1539, rfl⟩
theorem dL_law__1540 : decode cL_law_ 1540 = .ok (.iload 6, 2) := by decide +kernel
theorem eL_law__1540 : zD KL_law_ 1540 (.iload 6) 2 1542 := ⟨dL_law__1540, rfl⟩
theorem dL_law__1542 : decode cL_law_ 1542 = .ok (.i2l, 1) := by decide +kernel
theorem eL_law__1542 : zD KL_law_ 1542 (.i2l) 1 1543 := ⟨dL_law__1542, rfl⟩
theorem dL_law__1543 : decode cL_law_ 1543 = .ok (.lcmp, 1) := by decide +kernel
theorem eL_law__1543 : zD KL_law_ 1543 (.lcmp) 1 1544 := ⟨dL_law__1543, rfl⟩
theorem dL_law__1544 : decode cL_law_ 1544 = .ok (.ifCond .eq 5, 3) := by decide +kernel
theorem eL_law__1544 : zD KL_law_ 1544 (.ifCond .eq 5) 3 1547 := ⟨dL_law__1544, rfl⟩
theorem dL_law__1547 : decode cL_law_ 1547 = .ok (.iconst 0, 1) := by decide +kernel
theorem eL_law__1547 : zD KL_law_ 1547 (.iconst 0) 1 1548 := ⟨dL_law__1547, rfl⟩
theorem dL_law__1548 : decode cL_law_ 1548 = .ok (.ireturn, 1) := by decide +kernel
theorem eL_law__1548 : zD KL_law_ 1548 (.ireturn) 1 1549 := ⟨dL_law__1548, rfl⟩
theorem dL_law__1549 : decode cL_law_ 1549 = .ok (.goto 1803, 3) := by decide +kernel
theorem eL_law__1549 : zD KL_law_ 1549 (.goto 1803) 3 1552 := ⟨dL_law__1549, rfl⟩
theorem dL_law__1552 : decode cL_law_ 1552 = .ok (.aload_n 1, 1) := by decide +kernel
theorem eL_law__1552 : zD KL_law_ 1552 (.aload_n 1) 1 1553 := ⟨dL_law__1552, rfl⟩
theorem dL_law__1553 : decode cL_law_ 1553 = .ok (.aload_n 0, 1) := by decide +kernel
theorem eL_law__1553 : zD KL_law_ 1553 (.aload_n 0) 1 1554 := ⟨dL_law__1553, rfl⟩
theorem dL_law__1554 : decode cL_law_ 1554 = .ok (.iload 4, 2) := by decide +kernel
theorem eL_law__1554 : zD KL_law_ 1554 (.iload 4) 2 1556 := ⟨dL_law__1554, rfl⟩
theorem dL_law__1556 : decode cL_law_ 1556 = .ok (.iconst 1, 1) := by decide +kernel
theorem eL_law__1556 : zD KL_law_ 1556 (.iconst 1) 1 1557 := ⟨dL_law__1556, rfl⟩
theorem dL_law__1557 : decode cL_law_ 1557 = .ok (.iadd, 1) := by decide +kernel
theorem eL_law__1557 : zD KL_law_ 1557 (.iadd) 1 1558 := ⟨dL_law__1557, rfl⟩
theorem dL_law__1558 : decode cL_law_ 1558 = .ok (.iaload, 1) := by decide +kernel
theorem eL_law__1558 : zD KL_law_ 1558 (.iaload) 1 1559 := ⟨dL_law__1558, rfl⟩
theorem dL_law__1559 : decode cL_law_ 1559 = .ok (.aload_n 3, 1) := by decide +kernel
theorem eL_law__1559 : zD KL_law_ 1559 (.aload_n 3) 1 1560 := ⟨dL_law__1559, rfl⟩
theorem dL_law__1560 : decode cL_law_ 1560 = .ok (.invokestatic 229, 3) := by decide +kernel
theorem eL_law__1560 : zD KL_law_ 1560 (.invokestatic 229) 3 1563 := ⟨dL_law__1560, rfl⟩
theorem dL_law__1563 : decode cL_law_ 1563 = .ok (.istore 5, 2) := by decide +kernel
theorem eL_law__1563 : zD KL_law_ 1563 (.istore 5) 2 1565 := ⟨dL_law__1563, rfl⟩
theorem dL_law__1565 : decode cL_law_ 1565 = .ok (.aload_n 2, 1) := by decide +kernel
theorem eL_law__1565 : zD KL_law_ 1565 (.aload_n 2) 1 1566 := ⟨dL_law__1565, rfl⟩
theorem dL_law__1566 : decode cL_law_ 1566 = .ok (.aload_n 0, 1) := by decide +kernel
theorem eL_law__1566 : zD KL_law_ 1566 (.aload_n 0) 1 1567 := ⟨dL_law__1566, rfl⟩
theorem dL_law__1567 : decode cL_law_ 1567 = .ok (.iload 4, 2) := by decide +kernel
theorem eL_law__1567 : zD KL_law_ 1567 (.iload 4) 2 1569 := ⟨dL_law__1567, rfl⟩
theorem dL_law__1569 : decode cL_law_ 1569 = .ok (.iconst 1, 1) := by decide +kernel
theorem eL_law__1569 : zD KL_law_ 1569 (.iconst 1) 1 1570 := ⟨dL_law__1569, rfl⟩
theorem dL_law__1570 : decode cL_law_ 1570 = .ok (.iadd, 1) := by decide +kernel
theorem eL_law__1570 : zD KL_law_ 1570 (.iadd) 1 1571 := ⟨dL_law__1570, rfl⟩
theorem dL_law__1571 : decode cL_law_ 1571 = .ok (.iaload, 1) := by decide +kernel
theorem eL_law__1571 : zD KL_law_ 1571 (.iaload) 1 1572 := ⟨dL_law__1571, rfl⟩
theorem dL_law__1572 : decode cL_law_ 1572 = .ok (.invokevirtual 231, 3) := by decide +kernel
theorem eL_law__1572 : zD KL_law_ 1572 (.invokevirtual 231) 3 1575 := ⟨dL_law__1572, rfl⟩
theorem dL_law__1575 : decode cL_law_ 1575 = .ok (.istore 6, 2) := by decide +kernel
theorem eL_law__1575 : zD KL_law_ 1575 (.istore 6) 2 1577 := ⟨dL_law__1575, rfl⟩
theorem dL_law__1577 : decode cL_law_ 1577 = .ok (.aload_n 2, 1) := by decide +kernel
theorem eL_law__1577 : zD KL_law_ 1577 (.aload_n 2) 1 1578 := ⟨dL_law__1577, rfl⟩
theorem dL_law__1578 : decode cL_law_ 1578 = .ok (.invokevirtual 170, 3) := by decide +kernel
theorem eL_law__1578 : zD KL_law_ 1578 (.invokevirtual 170) 3 1581 := ⟨dL_law__1578, rfl⟩
theorem dL_law__1581 : decode cL_law_ 1581 = .ok (.iload 5, 2) := by decide +kernel
theorem eL_law__1581 : zD KL_law_ 1581 (.iload 5) 2 1583 := ⟨dL_law__1581, rfl⟩
theorem dL_law__1583 : decode cL_law_ 1583 = .ok (.if_icmp .eq 5, 3) := by decide +kernel
theorem eL_law__1583 : zD KL_law_ 1583 (.if_icmp .eq 5) 3 1586 := ⟨dL_law__1583, rfl⟩
theorem dL_law__1586 : decode cL_law_ 1586 = .ok (.iconst 0, 1) := by decide +kernel
theorem eL_law__1586 : zD KL_law_ 1586 (.iconst 0) 1 1587 := ⟨dL_law__1586, rfl⟩
theorem dL_law__1587 : decode cL_law_ 1587 = .ok (.ireturn, 1) := by decide +kernel
theorem eL_law__1587 : zD KL_law_ 1587 (.ireturn) 1 1588 := ⟨dL_law__1587, rfl⟩
theorem dL_law__1588 : decode cL_law_ 1588 = .ok (.iload 5, 2) := by decide +kernel
theorem eL_law__1588 : zD KL_law_ 1588 (.iload 5) 2 1590 := ⟨dL_law__1588, rfl⟩
theorem dL_law__1590 : decode cL_law_ 1590 = .ok (.ifCond .ne 15, 3) := by decide +kernel
theorem eL_law__1590 : zD KL_law_ 1590 (.ifCond .ne 15) 3 1593 := ⟨dL_law__1590, rfl⟩
theorem dL_law__1593 : decode cL_law_ 1593 = .ok (.aload_n 3, 1) := by decide +kernel
theorem eL_law__1593 : zD KL_law_ 1593 (.aload_n 3) 1 1594 := ⟨dL_law__1593, rfl⟩
theorem dL_law__1594 : decode cL_law_ 1594 = .ok (.iconst 0, 1) := by decide +kernel
theorem eL_law__1594 : zD KL_law_ 1594 (.iconst 0) 1 1595 := ⟨dL_law__1594, rfl⟩
theorem dL_law__1595 : decode cL_law_ 1595 = .ok (.laload, 1) := by decide +kernel
theorem eL_law__1595 : zD KL_law_ 1595 (.laload) 1 1596 := ⟨dL_law__1595, rfl⟩
theorem dL_law__1596 : decode cL_law_ 1596 = .ok (.iload 6, 2) := by decide +kernel
theorem eL_law__1596 : zD KL_law_ 1596 (.iload 6) 2 1598 := ⟨dL_law__1596, rfl⟩
theorem dL_law__1598 : decode cL_law_ 1598 = .ok (.i2l, 1) := by decide +kernel
theorem eL_law__1598 : zD KL_law_ 1598 (.i2l) 1 1599 := ⟨dL_law__1598, rfl⟩
theorem dL_law__1599 : decode cL_law_ 1599 = .ok (.lcmp, 1) := by decide +kernel
theorem eL_law__1599 : zD KL_law_ 1599 (.lcmp) 1 1600 := ⟨dL_law__1599, rfl⟩
theorem dL_law__1600 : decode cL_law_ 1600 = .ok (.ifCond .eq 5, 3) := by decide +kernel
theorem eL_law__1600 : zD KL_law_ 1600 (.ifCond .eq 5) 3 1603 := ⟨dL_law__1600, rfl⟩
theorem dL_law__1603 : decode cL_law_ 1603 = .ok (.iconst 0, 1) := by decide +kernel
theorem eL_law__1603 : zD KL_law_ 1603 (.iconst 0) 1 1604 := ⟨dL_law__1603, rfl⟩
theorem dL_law__1604 : decode cL_law_ 1604 = .ok (.ireturn, 1) := by decide +kernel
theorem eL_law__1604 : zD KL_law_ 1604 (.ireturn) 1 1605 := ⟨dL_law__1604, rfl⟩
theorem dL_law__1605 : decode cL_law_ 1605 = .ok (.goto 1747, 3) := by decide +kernel
theorem eL_law__1605 : zD KL_law_ 1605 (.goto 1747) 3 1608 := ⟨dL_law__1605, rfl⟩
theorem dL_law__1608 : decode cL_law_ 1608 = .ok (.aload_n 1, 1) := by decide +kernel
theorem eL_law__1608 : zD KL_law_ 1608 (.aload_n 1) 1 1609 := ⟨dL_law__1608, rfl⟩
theorem dL_law__1609 : decode cL_law_ 1609 = .ok (.aload_n 0, 1) := by decide +kernel
theorem eL_law__1609 : zD KL_law_ 1609 (.aload_n 0) 1 1610 := ⟨dL_law__1609, rfl⟩
theorem dL_law__1610 : decode cL_law_ 1610 = .ok (.iload 4, 2) := by decide +kernel
theorem eL_law__1610 : zD KL_law_ 1610 (.iload 4) 2 1612 := ⟨dL_law__1610, rfl⟩
theorem dL_law__1612 : decode cL_law_ 1612 = .ok (.iconst 1, 1) := by decide +kernel
theorem eL_law__1612 : zD KL_law_ 1612 (.iconst 1) 1 1613 := ⟨dL_law__1612, rfl⟩
theorem dL_law__1613 : decode cL_law_ 1613 = .ok (.iadd, 1) := by decide +kernel
theorem eL_law__1613 : zD KL_law_ 1613 (.iadd) 1 1614 := ⟨dL_law__1613, rfl⟩
theorem dL_law__1614 : decode cL_law_ 1614 = .ok (.iaload, 1) := by decide +kernel
theorem eL_law__1614 : zD KL_law_ 1614 (.iaload) 1 1615 := ⟨dL_law__1614, rfl⟩
theorem dL_law__1615 : decode cL_law_ 1615 = .ok (.aload_n 0, 1) := by decide +kernel
theorem eL_law__1615 : zD KL_law_ 1615 (.aload_n 0) 1 1616 := ⟨dL_law__1615, rfl⟩
theorem dL_law__1616 : decode cL_law_ 1616 = .ok (.iload 4, 2) := by decide +kernel
theorem eL_law__1616 : zD KL_law_ 1616 (.iload 4) 2 1618 := ⟨dL_law__1616, rfl⟩
theorem dL_law__1618 : decode cL_law_ 1618 = .ok (.iconst 2, 1) := by decide +kernel
theorem eL_law__1618 : zD KL_law_ 1618 (.iconst 2) 1 1619 := ⟨dL_law__1618, rfl⟩
theorem dL_law__1619 : decode cL_law_ 1619 = .ok (.iadd, 1) := by decide +kernel
theorem eL_law__1619 : zD KL_law_ 1619 (.iadd) 1 1620 := ⟨dL_law__1619, rfl⟩
theorem dL_law__1620 : decode cL_law_ 1620 = .ok (.iaload, 1) := by decide +kernel
theorem eL_law__1620 : zD KL_law_ 1620 (.iaload) 1 1621 := ⟨dL_law__1620, rfl⟩
theorem dL_law__1621 : decode cL_law_ 1621 = .ok (.aload_n 3, 1) := by decide +kernel
theorem eL_law__1621 : zD KL_law_ 1621 (.aload_n 3) 1 1622 := ⟨dL_law__1621, rfl⟩
theorem dL_law__1622 : decode cL_law_ 1622 = .ok (.invokestatic 232, 3) := by decide +kernel
theorem eL_law__1622 : zD KL_law_ 1622 (.invokestatic 232) 3 1625 := ⟨dL_law__1622, rfl⟩
theorem dL_law__1625 : decode cL_law_ 1625 = .ok (.istore 5, 2) := by decide +kernel
theorem eL_law__1625 : zD KL_law_ 1625 (.istore 5) 2 1627 := ⟨dL_law__1625, rfl⟩
theorem dL_law__1627 : decode cL_law_ 1627 = .ok (.aload_n 2, 1) := by decide +kernel
theorem eL_law__1627 : zD KL_law_ 1627 (.aload_n 2) 1 1628 := ⟨dL_law__1627, rfl⟩
theorem dL_law__1628 : decode cL_law_ 1628 = .ok (.aload_n 0, 1) := by decide +kernel
theorem eL_law__1628 : zD KL_law_ 1628 (.aload_n 0) 1 1629 := ⟨dL_law__1628, rfl⟩
theorem dL_law__1629 : decode cL_law_ 1629 = .ok (.iload 4, 2) := by decide +kernel
theorem eL_law__1629 : zD KL_law_ 1629 (.iload 4) 2 1631 := ⟨dL_law__1629, rfl⟩
theorem dL_law__1631 : decode cL_law_ 1631 = .ok (.iconst 1, 1) := by decide +kernel
theorem eL_law__1631 : zD KL_law_ 1631 (.iconst 1) 1 1632 := ⟨dL_law__1631, rfl⟩
theorem dL_law__1632 : decode cL_law_ 1632 = .ok (.iadd, 1) := by decide +kernel
theorem eL_law__1632 : zD KL_law_ 1632 (.iadd) 1 1633 := ⟨dL_law__1632, rfl⟩
theorem dL_law__1633 : decode cL_law_ 1633 = .ok (.iaload, 1) := by decide +kernel
theorem eL_law__1633 : zD KL_law_ 1633 (.iaload) 1 1634 := ⟨dL_law__1633, rfl⟩
theorem dL_law__1634 : decode cL_law_ 1634 = .ok (.aload_n 0, 1) := by decide +kernel
theorem eL_law__1634 : zD KL_law_ 1634 (.aload_n 0) 1 1635 := ⟨dL_law__1634, rfl⟩
theorem dL_law__1635 : decode cL_law_ 1635 = .ok (.iload 4, 2) := by decide +kernel
theorem eL_law__1635 : zD KL_law_ 1635 (.iload 4) 2 1637 := ⟨dL_law__1635, rfl⟩
theorem dL_law__1637 : decode cL_law_ 1637 = .ok (.iconst 2, 1) := by decide +kernel
theorem eL_law__1637 : zD KL_law_ 1637 (.iconst 2) 1 1638 := ⟨dL_law__1637, rfl⟩
theorem dL_law__1638 : decode cL_law_ 1638 = .ok (.iadd, 1) := by decide +kernel
theorem eL_law__1638 : zD KL_law_ 1638 (.iadd) 1 1639 := ⟨dL_law__1638, rfl⟩
theorem dL_law__1639 : decode cL_law_ 1639 = .ok (.iaload, 1) := by decide +kernel
theorem eL_law__1639 : zD KL_law_ 1639 (.iaload) 1 1640 := ⟨dL_law__1639, rfl⟩
theorem dL_law__1640 : decode cL_law_ 1640 = .ok (.invokevirtual 234, 3) := by decide +kernel
theorem eL_law__1640 : zD KL_law_ 1640 (.invokevirtual 234) 3 1643 := ⟨dL_law__1640, rfl⟩
theorem dL_law__1643 : decode cL_law_ 1643 = .ok (.istore 6, 2) := by decide +kernel
theorem eL_law__1643 : zD KL_law_ 1643 (.istore 6) 2 1645 := ⟨dL_law__1643, rfl⟩
theorem dL_law__1645 : decode cL_law_ 1645 = .ok (.aload_n 2, 1) := by decide +kernel
theorem eL_law__1645 : zD KL_law_ 1645 (.aload_n 2) 1 1646 := ⟨dL_law__1645, rfl⟩
theorem dL_law__1646 : decode cL_law_ 1646 = .ok (.invokevirtual 170, 3) := by decide +kernel
theorem eL_law__1646 : zD KL_law_ 1646 (.invokevirtual 170) 3 1649 := ⟨dL_law__1646, rfl⟩
theorem dL_law__1649 : decode cL_law_ 1649 = .ok (.iload 5, 2) := by decide +kernel
theorem eL_law__1649 : zD KL_law_ 1649 (.iload 5) 2 1651 := ⟨dL_law__1649, rfl⟩
theorem dL_law__1651 : decode cL_law_ 1651 = .ok (.if_icmp .eq 5, 3) := by decide +kernel
theorem eL_law__1651 : zD KL_law_ 1651 (.if_icmp .eq 5) 3 1654 := ⟨dL_law__1651, rfl⟩
theorem dL_law__1654 : decode cL_law_ 1654 = .ok (.iconst 0, 1) := by decide +kernel
theorem eL_law__1654 : zD KL_law_ 1654 (.iconst 0) 1 1655 := ⟨dL_law__1654, rfl⟩
theorem dL_law__1655 : decode cL_law_ 1655 = .ok (.ireturn, 1) := by decide +kernel
theorem eL_law__1655 : zD KL_law_ 1655 (.ireturn) 1 1656 := ⟨dL_law__1655, rfl⟩
theorem dL_law__1656 : decode cL_law_ 1656 = .ok (.iload 5, 2) := by decide +kernel
theorem eL_law__1656 : zD KL_law_ 1656 (.iload 5) 2 1658 := ⟨dL_law__1656, rfl⟩
theorem dL_law__1658 : decode cL_law_ 1658 = .ok (.ifCond .ne 15, 3) := by decide +kernel
theorem eL_law__1658 : zD KL_law_ 1658 (.ifCond .ne 15) 3 1661 := ⟨dL_law__1658, rfl⟩
theorem dL_law__1661 : decode cL_law_ 1661 = .ok (.aload_n 3, 1) := by decide +kernel
theorem eL_law__1661 : zD KL_law_ 1661 (.aload_n 3) 1 1662 := ⟨dL_law__1661, rfl⟩
theorem dL_law__1662 : decode cL_law_ 1662 = .ok (.iconst 0, 1) := by decide +kernel
theorem eL_law__1662 : zD KL_law_ 1662 (.iconst 0) 1 1663 := ⟨dL_law__1662, rfl⟩
theorem dL_law__1663 : decode cL_law_ 1663 = .ok (.laload, 1) := by decide +kernel
theorem eL_law__1663 : zD KL_law_ 1663 (.laload) 1 1664 := ⟨dL_law__1663, rfl⟩
theorem dL_law__1664 : decode cL_law_ 1664 = .ok (.iload 6, 2) := by decide +kernel
theorem eL_law__1664 : zD KL_law_ 1664 (.iload 6) 2 1666 := ⟨dL_law__1664, rfl⟩
theorem dL_law__1666 : decode cL_law_ 1666 = .ok (.i2l, 1) := by decide +kernel
theorem eL_law__1666 : zD KL_law_ 1666 (.i2l) 1 1667 := ⟨dL_law__1666, rfl⟩
theorem dL_law__1667 : decode cL_law_ 1667 = .ok (.lcmp, 1) := by decide +kernel
theorem eL_law__1667 : zD KL_law_ 1667 (.lcmp) 1 1668 := ⟨dL_law__1667, rfl⟩
theorem dL_law__1668 : decode cL_law_ 1668 = .ok (.ifCond .eq 5, 3) := by decide +kernel
theorem eL_law__1668 : zD KL_law_ 1668 (.ifCond .eq 5) 3 1671 := ⟨dL_law__1668, rfl⟩
theorem dL_law__1671 : decode cL_law_ 1671 = .ok (.iconst 0, 1) := by decide +kernel
theorem eL_law__1671 : zD KL_law_ 1671 (.iconst 0) 1 1672 := ⟨dL_law__1671, rfl⟩
theorem dL_law__1672 : decode cL_law_ 1672 = .ok (.ireturn, 1) := by decide +kernel
theorem eL_law__1672 : zD KL_law_ 1672 (.ireturn) 1 1673 := ⟨dL_law__1672, rfl⟩
theorem dL_law__1673 : decode cL_law_ 1673 = .ok (.goto 1679, 3) := by decide +kernel
theorem eL_law__1673 : zD KL_law_ 1673 (.goto 1679) 3 1676 := ⟨dL_law__1673, rfl⟩
theorem dL_law__1676 : decode cL_law_ 1676 = .ok (.aload_n 1, 1) := by decide +kernel
theorem eL_law__1676 : zD KL_law_ 1676 (.aload_n 1) 1 1677 := ⟨dL_law__1676, rfl⟩
theorem dL_law__1677 : decode cL_law_ 1677 = .ok (.aload_n 0, 1) := by decide +kernel
theorem eL_law__1677 : zD KL_law_ 1677 (.aload_n 0) 1 1678 := ⟨dL_law__1677, rfl⟩
theorem dL_law__1678 : decode cL_law_ 1678 = .ok (.iload 4, 2) := by decide +kernel
theorem eL_law__1678 : zD KL_law_ 1678 (.iload 4) 2 1680 := ⟨dL_law__1678, rfl⟩
theorem dL_law__1680 : decode cL_law_ 1680 = .ok (.iconst 1, 1) := by decide +kernel
theorem eL_law__1680 : zD KL_law_ 1680 (.iconst 1) 1 1681 := ⟨dL_law__1680, rfl⟩
theorem dL_law__1681 : decode cL_law_ 1681 = .ok (.iadd, 1) := by decide +kernel
theorem eL_law__1681 : zD KL_law_ 1681 (.iadd) 1 1682 := ⟨dL_law__1681, rfl⟩
theorem dL_law__1682 : decode cL_law_ 1682 = .ok (.iaload, 1) := by decide +kernel
theorem eL_law__1682 : zD KL_law_ 1682 (.iaload) 1 1683 := ⟨dL_law__1682, rfl⟩
theorem dL_law__1683 : decode cL_law_ 1683 = .ok (.aload_n 0, 1) := by decide +kernel
theorem eL_law__1683 : zD KL_law_ 1683 (.aload_n 0) 1 1684 := ⟨dL_law__1683, rfl⟩
theorem dL_law__1684 : decode cL_law_ 1684 = .ok (.iload 4, 2) := by decide +kernel
theorem eL_law__1684 : zD KL_law_ 1684 (.iload 4) 2 1686 := ⟨dL_law__1684, rfl⟩
theorem dL_law__1686 : decode cL_law_ 1686 = .ok (.iconst 2, 1) := by decide +kernel
theorem eL_law__1686 : zD KL_law_ 1686 (.iconst 2) 1 1687 := ⟨dL_law__1686, rfl⟩
theorem dL_law__1687 : decode cL_law_ 1687 = .ok (.iadd, 1) := by decide +kernel
theorem eL_law__1687 : zD KL_law_ 1687 (.iadd) 1 1688 := ⟨dL_law__1687, rfl⟩
theorem dL_law__1688 : decode cL_law_ 1688 = .ok (.iaload, 1) := by decide +kernel
theorem eL_law__1688 : zD KL_law_ 1688 (.iaload) 1 1689 := ⟨dL_law__1688, rfl⟩
theorem dL_law__1689 : decode cL_law_ 1689 = .ok (.aload_n 3, 1) := by decide +kernel
theorem eL_law__1689 : zD KL_law_ 1689 (.aload_n 3) 1 1690 := ⟨dL_law__1689, rfl⟩
theorem dL_law__1690 : decode cL_law_ 1690 = .ok (.invokestatic 235, 3) := by decide +kernel
theorem eL_law__1690 : zD KL_law_ 1690 (.invokestatic 235) 3 1693 := ⟨dL_law__1690, rfl⟩
theorem dL_law__1693 : decode cL_law_ 1693 = .ok (.istore 5, 2) := by decide +kernel
theorem eL_law__1693 : zD KL_law_ 1693 (.istore 5) 2 1695 := ⟨dL_law__1693, rfl⟩
theorem dL_law__1695 : decode cL_law_ 1695 = .ok (.aload_n 2, 1) := by decide +kernel
theorem eL_law__1695 : zD KL_law_ 1695 (.aload_n 2) 1 1696 := ⟨dL_law__1695, rfl⟩
theorem dL_law__1696 : decode cL_law_ 1696 = .ok (.aload_n 0, 1) := by decide +kernel
theorem eL_law__1696 : zD KL_law_ 1696 (.aload_n 0) 1 1697 := ⟨dL_law__1696, rfl⟩
theorem dL_law__1697 : decode cL_law_ 1697 = .ok (.iload 4, 2) := by decide +kernel
theorem eL_law__1697 : zD KL_law_ 1697 (.iload 4) 2 1699 := ⟨dL_law__1697, rfl⟩
theorem dL_law__1699 : decode cL_law_ 1699 = .ok (.iconst 1, 1) := by decide +kernel
theorem eL_law__1699 : zD KL_law_ 1699 (.iconst 1) 1 1700 := ⟨dL_law__1699, rfl⟩
theorem dL_law__1700 : decode cL_law_ 1700 = .ok (.iadd, 1) := by decide +kernel
theorem eL_law__1700 : zD KL_law_ 1700 (.iadd) 1 1701 := ⟨dL_law__1700, rfl⟩
theorem dL_law__1701 : decode cL_law_ 1701 = .ok (.iaload, 1) := by decide +kernel
theorem eL_law__1701 : zD KL_law_ 1701 (.iaload) 1 1702 := ⟨dL_law__1701, rfl⟩
theorem dL_law__1702 : decode cL_law_ 1702 = .ok (.aload_n 0, 1) := by decide +kernel
theorem eL_law__1702 : zD KL_law_ 1702 (.aload_n 0) 1 1703 := ⟨dL_law__1702, rfl⟩
theorem dL_law__1703 : decode cL_law_ 1703 = .ok (.iload 4, 2) := by decide +kernel
theorem eL_law__1703 : zD KL_law_ 1703 (.iload 4) 2 1705 := ⟨dL_law__1703, rfl⟩
theorem dL_law__1705 : decode cL_law_ 1705 = .ok (.iconst 2, 1) := by decide +kernel
theorem eL_law__1705 : zD KL_law_ 1705 (.iconst 2) 1 1706 := ⟨dL_law__1705, rfl⟩
theorem dL_law__1706 : decode cL_law_ 1706 = .ok (.iadd, 1) := by decide +kernel
theorem eL_law__1706 : zD KL_law_ 1706 (.iadd) 1 1707 := ⟨dL_law__1706, rfl⟩
theorem dL_law__1707 : decode cL_law_ 1707 = .ok (.iaload, 1) := by decide +kernel
theorem eL_law__1707 : zD KL_law_ 1707 (.iaload) 1 1708 := ⟨dL_law__1707, rfl⟩
theorem dL_law__1708 : decode cL_law_ 1708 = .ok (.invokevirtual 237, 3) := by decide +kernel
theorem eL_law__1708 : zD KL_law_ 1708 (.invokevirtual 237) 3 1711 := ⟨dL_law__1708, rfl⟩
theorem dL_law__1711 : decode cL_law_ 1711 = .ok (.istore 6, 2) := by decide +kernel
theorem eL_law__1711 : zD KL_law_ 1711 (.istore 6) 2 1713 := ⟨dL_law__1711, rfl⟩
theorem dL_law__1713 : decode cL_law_ 1713 = .ok (.aload_n 2, 1) := by decide +kernel
theorem eL_law__1713 : zD KL_law_ 1713 (.aload_n 2) 1 1714 := ⟨dL_law__1713, rfl⟩
theorem dL_law__1714 : decode cL_law_ 1714 = .ok (.invokevirtual 170, 3) := by decide +kernel
theorem eL_law__1714 : zD KL_law_ 1714 (.invokevirtual 170) 3 1717 := ⟨dL_law__1714, rfl⟩
theorem dL_law__1717 : decode cL_law_ 1717 = .ok (.iload 5, 2) := by decide +kernel
theorem eL_law__1717 : zD KL_law_ 1717 (.iload 5) 2 1719 := ⟨dL_law__1717, rfl⟩
theorem dL_law__1719 : decode cL_law_ 1719 = .ok (.if_icmp .eq 5, 3) := by decide +kernel
theorem eL_law__1719 : zD KL_law_ 1719 (.if_icmp .eq 5) 3 1722 := ⟨dL_law__1719, rfl⟩
theorem dL_law__1722 : decode cL_law_ 1722 = .ok (.iconst 0, 1) := by decide +kernel
theorem eL_law__1722 : zD KL_law_ 1722 (.iconst 0) 1 1723 := ⟨dL_law__1722, rfl⟩
theorem dL_law__1723 : decode cL_law_ 1723 = .ok (.ireturn, 1) := by decide +kernel
theorem eL_law__1723 : zD KL_law_ 1723 (.ireturn) 1 1724 := ⟨dL_law__1723, rfl⟩
theorem dL_law__1724 : decode cL_law_ 1724 = .ok (.iload 5, 2) := by decide +kernel
theorem eL_law__1724 : zD KL_law_ 1724 (.iload 5) 2 1726 := ⟨dL_law__1724, rfl⟩
theorem dL_law__1726 : decode cL_law_ 1726 = .ok (.ifCond .ne 15, 3) := by decide +kernel
theorem eL_law__1726 : zD KL_law_ 1726 (.ifCond .ne 15) 3 1729 := ⟨dL_law__1726, rfl⟩
theorem dL_law__1729 : decode cL_law_ 1729 = .ok (.aload_n 3, 1) := by decide +kernel
theorem eL_law__1729 : zD KL_law_ 1729 (.aload_n 3) 1 1730 := ⟨dL_law__1729, rfl⟩
theorem dL_law__1730 : decode cL_law_ 1730 = .ok (.iconst 0, 1) := by decide +kernel
theorem eL_law__1730 : zD KL_law_ 1730 (.iconst 0) 1 1731 := ⟨dL_law__1730, rfl⟩
theorem dL_law__1731 : decode cL_law_ 1731 = .ok (.laload, 1) := by decide +kernel
theorem eL_law__1731 : zD KL_law_ 1731 (.laload) 1 1732 := ⟨dL_law__1731, rfl⟩
theorem dL_law__1732 : decode cL_law_ 1732 = .ok (.iload 6, 2) := by decide +kernel
theorem eL_law__1732 : zD KL_law_ 1732 (.iload 6) 2 1734 := ⟨dL_law__1732, rfl⟩
theorem dL_law__1734 : decode cL_law_ 1734 = .ok (.i2l, 1) := by decide +kernel
theorem eL_law__1734 : zD KL_law_ 1734 (.i2l) 1 1735 := ⟨dL_law__1734, rfl⟩
theorem dL_law__1735 : decode cL_law_ 1735 = .ok (.lcmp, 1) := by decide +kernel
theorem eL_law__1735 : zD KL_law_ 1735 (.lcmp) 1 1736 := ⟨dL_law__1735, rfl⟩
theorem dL_law__1736 : decode cL_law_ 1736 = .ok (.ifCond .eq 5, 3) := by decide +kernel
theorem eL_law__1736 : zD KL_law_ 1736 (.ifCond .eq 5) 3 1739 := ⟨dL_law__1736, rfl⟩
theorem dL_law__1739 : decode cL_law_ 1739 = .ok (.iconst 0, 1) := by decide +kernel
theorem eL_law__1739 : zD KL_law_ 1739 (.iconst 0) 1 1740 := ⟨dL_law__1739, rfl⟩
theorem dL_law__1740 : decode cL_law_ 1740 = .ok (.ireturn, 1) := by decide +kernel
theorem eL_law__1740 : zD KL_law_ 1740 (.ireturn) 1 1741 := ⟨dL_law__1740, rfl⟩
theorem dL_law__1741 : decode cL_law_ 1741 = .ok (.goto 1611, 3) := by decide +kernel
theorem eL_law__1741 : zD KL_law_ 1741 (.goto 1611) 3 1744 := ⟨dL_law__1741, rfl⟩
theorem dL_law__1744 : decode cL_law_ 1744 = .ok (.aload_n 1, 1) := by decide +kernel
theorem eL_law__1744 : zD KL_law_ 1744 (.aload_n 1) 1 1745 := ⟨dL_law__1744, rfl⟩
theorem dL_law__1745 : decode cL_law_ 1745 = .ok (.aload_n 0, 1) := by decide +kernel
theorem eL_law__1745 : zD KL_law_ 1745 (.aload_n 0) 1 1746 := ⟨dL_law__1745, rfl⟩
theorem dL_law__1746 : decode cL_law_ 1746 = .ok (.iload 4, 2) := by decide +kernel
theorem eL_law__1746 : zD KL_law_ 1746 (.iload 4) 2 1748 := ⟨dL_law__1746, rfl⟩
theorem dL_law__1748 : decode cL_law_ 1748 = .ok (.iconst 1, 1) := by decide +kernel
theorem eL_law__1748 : zD KL_law_ 1748 (.iconst 1) 1 1749 := ⟨dL_law__1748, rfl⟩
theorem dL_law__1749 : decode cL_law_ 1749 = .ok (.iadd, 1) := by decide +kernel
theorem eL_law__1749 : zD KL_law_ 1749 (.iadd) 1 1750 := ⟨dL_law__1749, rfl⟩
theorem dL_law__1750 : decode cL_law_ 1750 = .ok (.iaload, 1) := by decide +kernel
theorem eL_law__1750 : zD KL_law_ 1750 (.iaload) 1 1751 := ⟨dL_law__1750, rfl⟩
theorem dL_law__1751 : decode cL_law_ 1751 = .ok (.aload_n 0, 1) := by decide +kernel
theorem eL_law__1751 : zD KL_law_ 1751 (.aload_n 0) 1 1752 := ⟨dL_law__1751, rfl⟩
theorem dL_law__1752 : decode cL_law_ 1752 = .ok (.iload 4, 2) := by decide +kernel
theorem eL_law__1752 : zD KL_law_ 1752 (.iload 4) 2 1754 := ⟨dL_law__1752, rfl⟩
theorem dL_law__1754 : decode cL_law_ 1754 = .ok (.iconst 2, 1) := by decide +kernel
theorem eL_law__1754 : zD KL_law_ 1754 (.iconst 2) 1 1755 := ⟨dL_law__1754, rfl⟩
theorem dL_law__1755 : decode cL_law_ 1755 = .ok (.iadd, 1) := by decide +kernel
theorem eL_law__1755 : zD KL_law_ 1755 (.iadd) 1 1756 := ⟨dL_law__1755, rfl⟩
theorem dL_law__1756 : decode cL_law_ 1756 = .ok (.iaload, 1) := by decide +kernel
theorem eL_law__1756 : zD KL_law_ 1756 (.iaload) 1 1757 := ⟨dL_law__1756, rfl⟩
theorem dL_law__1757 : decode cL_law_ 1757 = .ok (.aload_n 3, 1) := by decide +kernel
theorem eL_law__1757 : zD KL_law_ 1757 (.aload_n 3) 1 1758 := ⟨dL_law__1757, rfl⟩
theorem dL_law__1758 : decode cL_law_ 1758 = .ok (.invokestatic 238, 3) := by decide +kernel
theorem eL_law__1758 : zD KL_law_ 1758 (.invokestatic 238) 3 1761 := ⟨dL_law__1758, rfl⟩
theorem dL_law__1761 : decode cL_law_ 1761 = .ok (.istore 5, 2) := by decide +kernel
theorem eL_law__1761 : zD KL_law_ 1761 (.istore 5) 2 1763 := ⟨dL_law__1761, rfl⟩
theorem dL_law__1763 : decode cL_law_ 1763 = .ok (.aload_n 2, 1) := by decide +kernel
theorem eL_law__1763 : zD KL_law_ 1763 (.aload_n 2) 1 1764 := ⟨dL_law__1763, rfl⟩
theorem dL_law__1764 : decode cL_law_ 1764 = .ok (.aload_n 0, 1) := by decide +kernel
theorem eL_law__1764 : zD KL_law_ 1764 (.aload_n 0) 1 1765 := ⟨dL_law__1764, rfl⟩
theorem dL_law__1765 : decode cL_law_ 1765 = .ok (.iload 4, 2) := by decide +kernel
theorem eL_law__1765 : zD KL_law_ 1765 (.iload 4) 2 1767 := ⟨dL_law__1765, rfl⟩
theorem dL_law__1767 : decode cL_law_ 1767 = .ok (.iconst 1, 1) := by decide +kernel
theorem eL_law__1767 : zD KL_law_ 1767 (.iconst 1) 1 1768 := ⟨dL_law__1767, rfl⟩
theorem dL_law__1768 : decode cL_law_ 1768 = .ok (.iadd, 1) := by decide +kernel
theorem eL_law__1768 : zD KL_law_ 1768 (.iadd) 1 1769 := ⟨dL_law__1768, rfl⟩
theorem dL_law__1769 : decode cL_law_ 1769 = .ok (.iaload, 1) := by decide +kernel
theorem eL_law__1769 : zD KL_law_ 1769 (.iaload) 1 1770 := ⟨dL_law__1769, rfl⟩
theorem dL_law__1770 : decode cL_law_ 1770 = .ok (.aload_n 0, 1) := by decide +kernel
theorem eL_law__1770 : zD KL_law_ 1770 (.aload_n 0) 1 1771 := ⟨dL_law__1770, rfl⟩
theorem dL_law__1771 : decode cL_law_ 1771 = .ok (.iload 4, 2) := by decide +kernel
theorem eL_law__1771 : zD KL_law_ 1771 (.iload 4) 2 1773 := ⟨dL_law__1771, rfl⟩
theorem dL_law__1773 : decode cL_law_ 1773 = .ok (.iconst 2, 1) := by decide +kernel
theorem eL_law__1773 : zD KL_law_ 1773 (.iconst 2) 1 1774 := ⟨dL_law__1773, rfl⟩
theorem dL_law__1774 : decode cL_law_ 1774 = .ok (.iadd, 1) := by decide +kernel
theorem eL_law__1774 : zD KL_law_ 1774 (.iadd) 1 1775 := ⟨dL_law__1774, rfl⟩
theorem dL_law__1775 : decode cL_law_ 1775 = .ok (.iaload, 1) := by decide +kernel
theorem eL_law__1775 : zD KL_law_ 1775 (.iaload) 1 1776 := ⟨dL_law__1775, rfl⟩
theorem dL_law__1776 : decode cL_law_ 1776 = .ok (.invokevirtual 240, 3) := by decide +kernel
theorem eL_law__1776 : zD KL_law_ 1776 (.invokevirtual 240) 3 1779 := ⟨dL_law__1776, rfl⟩
theorem dL_law__1779 : decode cL_law_ 1779 = .ok (.istore 6, 2) := by decide +kernel
theorem eL_law__1779 : zD KL_law_ 1779 (.istore 6) 2 1781 := ⟨dL_law__1779, rfl⟩
theorem dL_law__1781 : decode cL_law_ 1781 = .ok (.aload_n 2, 1) := by decide +kernel
theorem eL_law__1781 : zD KL_law_ 1781 (.aload_n 2) 1 1782 := ⟨dL_law__1781, rfl⟩
theorem dL_law__1782 : decode cL_law_ 1782 = .ok (.invokevirtual 170, 3) := by decide +kernel
theorem eL_law__1782 : zD KL_law_ 1782 (.invokevirtual 170) 3 1785 := ⟨dL_law__1782, rfl⟩
theorem dL_law__1785 : decode cL_law_ 1785 = .ok (.iload 5, 2) := by decide +kernel
theorem eL_law__1785 : zD KL_law_ 1785 (.iload 5) 2 1787 := ⟨dL_law__1785, rfl⟩
theorem dL_law__1787 : decode cL_law_ 1787 = .ok (.if_icmp .eq 5, 3) := by decide +kernel
theorem eL_law__1787 : zD KL_law_ 1787 (.if_icmp .eq 5) 3 1790 := ⟨dL_law__1787, rfl⟩
theorem dL_law__1790 : decode cL_law_ 1790 = .ok (.iconst 0, 1) := by decide +kernel
theorem eL_law__1790 : zD KL_law_ 1790 (.iconst 0) 1 1791 := ⟨dL_law__1790, rfl⟩
theorem dL_law__1791 : decode cL_law_ 1791 = .ok (.ireturn, 1) := by decide +kernel
theorem eL_law__1791 : zD KL_law_ 1791 (.ireturn) 1 1792 := ⟨dL_law__1791, rfl⟩
theorem dL_law__1792 : decode cL_law_ 1792 = .ok (.iload 5, 2) := by decide +kernel
theorem eL_law__1792 : zD KL_law_ 1792 (.iload 5) 2 1794 := ⟨dL_law__1792, rfl⟩
theorem dL_law__1794 : decode cL_law_ 1794 = .ok (.ifCond .ne 15, 3) := by decide +kernel
theorem eL_law__1794 : zD KL_law_ 1794 (.ifCond .ne 15) 3 1797 := ⟨dL_law__1794, rfl⟩
theorem dL_law__1797 : decode cL_law_ 1797 = .ok (.aload_n 3, 1) := by decide +kernel
theorem eL_law__1797 : zD KL_law_ 1797 (.aload_n 3) 1 1798 := ⟨dL_law__1797, rfl⟩
theorem dL_law__1798 : decode cL_law_ 1798 = .ok (.iconst 0, 1) := by decide +kernel
theorem eL_law__1798 : zD KL_law_ 1798 (.iconst 0) 1 1799 := ⟨dL_law__1798, rfl⟩
theorem dL_law__1799 : decode cL_law_ 1799 = .ok (.laload, 1) := by decide +kernel
theorem eL_law__1799 : zD KL_law_ 1799 (.laload) 1 1800 := ⟨dL_law__1799, rfl⟩
theorem dL_law__1800 : decode cL_law_ 1800 = .ok (.iload 6, 2) := by decide +kernel
theorem eL_law__1800 : zD KL_law_ 1800 (.iload 6) 2 1802 := ⟨dL_law__1800, rfl⟩
theorem dL_law__1802 : decode cL_law_ 1802 = .ok (.i2l, 1) := by decide +kernel
theorem eL_law__1802 : zD KL_law_ 1802 (.i2l) 1 1803 := ⟨dL_law__1802, rfl⟩
theorem dL_law__1803 : decode cL_law_ 1803 = .ok (.lcmp, 1) := by decide +kernel
theorem eL_law__1803 : zD KL_law_ 1803 (.lcmp) 1 1804 := ⟨dL_law__1803, rfl⟩
theorem dL_law__1804 : decode cL_law_ 1804 = .ok (.ifCond .eq 5, 3) := by decide +kernel
theorem eL_law__1804 : zD KL_law_ 1804 (.ifCond .eq 5) 3 1807 := ⟨dL_law__1804, rfl⟩
theorem dL_law__1807 : decode cL_law_ 1807 = .ok (.iconst 0, 1) := by decide +kernel
theorem eL_law__1807 : zD KL_law_ 1807 (.iconst 0) 1 1808 := ⟨dL_law__1807, rfl⟩
theorem dL_law__1808 : decode cL_law_ 1808 = .ok (.ireturn, 1) := by decide +kernel
theorem eL_law__1808 : zD KL_law_ 1808 (.ireturn) 1 1809 := ⟨dL_law__1808, rfl⟩
theorem dL_law__1809 : decode cL_law_ 1809 = .ok (.goto 1543, 3) := by decide +kernel
theorem eL_law__1809 : zD KL_law_ 1809 (.goto 1543) 3 1812 := ⟨dL_law__1809, rfl⟩
theorem dL_law__1812 : decode cL_law_ 1812 = .ok (.aload_n 1, 1) := by decide +kernel
theorem eL_law__1812 : zD KL_law_ 1812 (.aload_n 1) 1 1813 := ⟨dL_law__1812, rfl⟩
theorem dL_law__1813 : decode cL_law_ 1813 = .ok (.aload_n 0, 1) := by decide +kernel
theorem eL_law__1813 : zD KL_law_ 1813 (.aload_n 0) 1 1814 := ⟨dL_law__1813, rfl⟩
theorem dL_law__1814 : decode cL_law_ 1814 = .ok (.iload 4, 2) := by decide +kernel
theorem eL_law__1814 : zD KL_law_ 1814 (.iload 4) 2 1816 := ⟨dL_law__1814, rfl⟩
theorem dL_law__1816 : decode cL_law_ 1816 = .ok (.iconst 1, 1) := by decide +kernel
theorem eL_law__1816 : zD KL_law_ 1816 (.iconst 1) 1 1817 := ⟨dL_law__1816, rfl⟩
theorem dL_law__1817 : decode cL_law_ 1817 = .ok (.iadd, 1) := by decide +kernel
theorem eL_law__1817 : zD KL_law_ 1817 (.iadd) 1 1818 := ⟨dL_law__1817, rfl⟩
theorem dL_law__1818 : decode cL_law_ 1818 = .ok (.iaload, 1) := by decide +kernel
theorem eL_law__1818 : zD KL_law_ 1818 (.iaload) 1 1819 := ⟨dL_law__1818, rfl⟩
theorem dL_law__1819 : decode cL_law_ 1819 = .ok (.aload_n 3, 1) := by decide +kernel
theorem eL_law__1819 : zD KL_law_ 1819 (.aload_n 3) 1 1820 := ⟨dL_law__1819, rfl⟩
theorem dL_law__1820 : decode cL_law_ 1820 = .ok (.invokestatic 241, 3) := by decide +kernel
theorem eL_law__1820 : zD KL_law_ 1820 (.invokestatic 241) 3 1823 := ⟨dL_law__1820, rfl⟩
theorem dL_law__1823 : decode cL_law_ 1823 = .ok (.istore 5, 2) := by decide +kernel
theorem eL_law__1823 : zD KL_law_ 1823 (.istore 5) 2 1825 := ⟨dL_law__1823, rfl⟩
theorem dL_law__1825 : decode cL_law_ 1825 = .ok (.aload_n 2, 1) := by decide +kernel
theorem eL_law__1825 : zD KL_law_ 1825 (.aload_n 2) 1 1826 := ⟨dL_law__1825, rfl⟩
theorem dL_law__1826 : decode cL_law_ 1826 = .ok (.aload_n 0, 1) := by decide +kernel
theorem eL_law__1826 : zD KL_law_ 1826 (.aload_n 0) 1 1827 := ⟨dL_law__1826, rfl⟩
theorem dL_law__1827 : decode cL_law_ 1827 = .ok (.iload 4, 2) := by decide +kernel
theorem eL_law__1827 : zD KL_law_ 1827 (.iload 4) 2 1829 := ⟨dL_law__1827, rfl⟩
theorem dL_law__1829 : decode cL_law_ 1829 = .ok (.iconst 1, 1) := by decide +kernel
theorem eL_law__1829 : zD KL_law_ 1829 (.iconst 1) 1 1830 := ⟨dL_law__1829, rfl⟩
theorem dL_law__1830 : decode cL_law_ 1830 = .ok (.iadd, 1) := by decide +kernel
theorem eL_law__1830 : zD KL_law_ 1830 (.iadd) 1 1831 := ⟨dL_law__1830, rfl⟩
theorem dL_law__1831 : decode cL_law_ 1831 = .ok (.iaload, 1) := by decide +kernel
theorem eL_law__1831 : zD KL_law_ 1831 (.iaload) 1 1832 := ⟨dL_law__1831, rfl⟩
theorem dL_law__1832 : decode cL_law_ 1832 = .ok (.invokevirtual 243, 3) := by decide +kernel
theorem eL_law__1832 : zD KL_law_ 1832 (.invokevirtual 243) 3 1835 := ⟨dL_law__1832, rfl⟩
theorem dL_law__1835 : decode cL_law_ 1835 = .ok (.istore 6, 2) := by decide +kernel
theorem eL_law__1835 : zD KL_law_ 1835 (.istore 6) 2 1837 := ⟨dL_law__1835, rfl⟩
theorem dL_law__1837 : decode cL_law_ 1837 = .ok (.aload_n 2, 1) := by decide +kernel
theorem eL_law__1837 : zD KL_law_ 1837 (.aload_n 2) 1 1838 := ⟨dL_law__1837, rfl⟩
theorem dL_law__1838 : decode cL_law_ 1838 = .ok (.invokevirtual 170, 3) := by decide +kernel
theorem eL_law__1838 : zD KL_law_ 1838 (.invokevirtual 170) 3 1841 := ⟨dL_law__1838, rfl⟩
theorem dL_law__1841 : decode cL_law_ 1841 = .ok (.iload 5, 2) := by decide +kernel
theorem eL_law__1841 : zD KL_law_ 1841 (.iload 5) 2 1843 := ⟨dL_law__1841, rfl⟩
theorem dL_law__1843 : decode cL_law_ 1843 = .ok (.if_icmp .eq 5, 3) := by decide +kernel
theorem eL_law__1843 : zD KL_law_ 1843 (.if_icmp .eq 5) 3 1846 := ⟨dL_law__1843, rfl⟩
theorem dL_law__1846 : decode cL_law_ 1846 = .ok (.iconst 0, 1) := by decide +kernel
theorem eL_law__1846 : zD KL_law_ 1846 (.iconst 0) 1 1847 := ⟨dL_law__1846, rfl⟩
theorem dL_law__1847 : decode cL_law_ 1847 = .ok (.ireturn, 1) := by decide +kernel
theorem eL_law__1847 : zD KL_law_ 1847 (.ireturn) 1 1848 := ⟨dL_law__1847, rfl⟩
theorem dL_law__1848 : decode cL_law_ 1848 = .ok (.iload 5, 2) := by decide +kernel
theorem eL_law__1848 : zD KL_law_ 1848 (.iload 5) 2 1850 := ⟨dL_law__1848, rfl⟩
theorem dL_law__1850 : decode cL_law_ 1850 = .ok (.ifCond .ne 15, 3) := by decide +kernel
theorem eL_law__1850 : zD KL_law_ 1850 (.ifCond .ne 15) 3 1853 := ⟨dL_law__1850, rfl⟩
theorem dL_law__1853 : decode cL_law_ 1853 = .ok (.aload_n 3, 1) := by decide +kernel
theorem eL_law__1853 : zD KL_law_ 1853 (.aload_n 3) 1 1854 := ⟨dL_law__1853, rfl⟩
theorem dL_law__1854 : decode cL_law_ 1854 = .ok (.iconst 0, 1) := by decide +kernel
theorem eL_law__1854 : zD KL_law_ 1854 (.iconst 0) 1 1855 := ⟨dL_law__1854, rfl⟩
theorem dL_law__1855 : decode cL_law_ 1855 = .ok (.laload, 1) := by decide +kernel
theorem eL_law__1855 : zD KL_law_ 1855 (.laload) 1 1856 := ⟨dL_law__1855, rfl⟩
theorem dL_law__1856 : decode cL_law_ 1856 = .ok (.iload 6, 2) := by decide +kernel
theorem eL_law__1856 : zD KL_law_ 1856 (.iload 6) 2 1858 := ⟨dL_law__1856, rfl⟩
theorem dL_law__1858 : decode cL_law_ 1858 = .ok (.i2l, 1) := by decide +kernel
theorem eL_law__1858 : zD KL_law_ 1858 (.i2l) 1 1859 := ⟨dL_law__1858, rfl⟩
theorem dL_law__1859 : decode cL_law_ 1859 = .ok (.lcmp, 1) := by decide +kernel
theorem eL_law__1859 : zD KL_law_ 1859 (.lcmp) 1 1860 := ⟨dL_law__1859, rfl⟩
theorem dL_law__1860 : decode cL_law_ 1860 = .ok (.ifCond .eq 5, 3) := by decide +kernel
theorem eL_law__1860 : zD KL_law_ 1860 (.ifCond .eq 5) 3 1863 := ⟨dL_law__1860, rfl⟩
theorem dL_law__1863 : decode cL_law_ 1863 = .ok (.iconst 0, 1) := by decide +kernel
theorem eL_law__1863 : zD KL_law_ 1863 (.iconst 0) 1 1864 := ⟨dL_law__1863, rfl⟩
theorem dL_law__1864 : decode cL_law_ 1864 = .ok (.ireturn, 1) := by decide +kernel
theorem eL_law__1864 : zD KL_law_ 1864 (.ireturn) 1 1865 := ⟨dL_law__1864, rfl⟩
theorem dL_law__1865 : decode cL_law_ 1865 = .ok (.goto 1487, 3) := by decide +kernel
theorem eL_law__1865 : zD KL_law_ 1865 (.goto 1487) 3 1868 := ⟨dL_law__1865, rfl⟩
theorem dL_law__1868 : decode cL_law_ 1868 = .ok (.aload_n 1, 1) := by decide +kernel
theorem eL_law__1868 : zD KL_law_ 1868 (.aload_n 1) 1 1869 := ⟨dL_law__1868, rfl⟩
theorem dL_law__1869 : decode cL_law_ 1869 = .ok (.invokevirtual 244, 3) := by decide +kernel
theorem eL_law__1869 : zD KL_law_ 1869 (.invokevirtual 244) 3 1872 := ⟨dL_law__1869, rfl⟩
theorem dL_law__1872 : decode cL_law_ 1872 = .ok (.aload_n 2, 1) := by decide +kernel
theorem eL_law__1872 : zD KL_law_ 1872 (.aload_n 2) 1 1873 := ⟨dL_law__1872, rfl⟩
theorem dL_law__1873 : decode cL_law_ 1873 = .ok (.invokevirtual 247, 3) := by decide +kernel
theorem eL_law__1873 : zD KL_law_ 1873 (.invokevirtual 247) 3 1876 := ⟨dL_law__1873, rfl⟩
theorem dL_law__1876 : decode cL_law_ 1876 = .ok (.if_icmp .eq 1476, 3) := by decide +kernel
theorem eL_law__1876 : zD KL_law_ 1876 (.if_icmp .eq 1476) 3 1879 := ⟨dL_law__1876, rfl⟩
theorem dL_law__1879 : decode cL_law_ 1879 = .ok (.iconst 0, 1) := by decide +kernel
theorem eL_law__1879 : zD KL_law_ 1879 (.iconst 0) 1 1880 := ⟨dL_law__1879, rfl⟩
theorem dL_law__1880 : decode cL_law_ 1880 = .ok (.ireturn, 1) := by decide +kernel
theorem eL_law__1880 : zD KL_law_ 1880 (.ireturn) 1 1881 := ⟨dL_law__1880, rfl⟩
theorem dL_law__1881 : decode cL_law_ 1881 = .ok (.aload_n 1, 1) := by decide +kernel
theorem eL_law__1881 : zD KL_law_ 1881 (.aload_n 1) 1 1882 := ⟨dL_law__1881, rfl⟩
theorem dL_law__1882 : decode cL_law_ 1882 = .ok (.aload_n 0, 1) := by decide +kernel
theorem eL_law__1882 : zD KL_law_ 1882 (.aload_n 0) 1 1883 := ⟨dL_law__1882, rfl⟩
theorem dL_law__1883 : decode cL_law_ 1883 = .ok (.iload 4, 2) := by decide +kernel
theorem eL_law__1883 : zD KL_law_ 1883 (.iload 4) 2 1885 := ⟨dL_law__1883, rfl⟩
theorem dL_law__1885 : decode cL_law_ 1885 = .ok (.iconst 1, 1) := by decide +kernel
theorem eL_law__1885 : zD KL_law_ 1885 (.iconst 1) 1 1886 := ⟨dL_law__1885, rfl⟩
theorem dL_law__1886 : decode cL_law_ 1886 = .ok (.iadd, 1) := by decide +kernel
theorem eL_law__1886 : zD KL_law_ 1886 (.iadd) 1 1887 := ⟨dL_law__1886, rfl⟩
theorem dL_law__1887 : decode cL_law_ 1887 = .ok (.iaload, 1) := by decide +kernel
theorem eL_law__1887 : zD KL_law_ 1887 (.iaload) 1 1888 := ⟨dL_law__1887, rfl⟩
theorem dL_law__1888 : decode cL_law_ 1888 = .ok (.aload_n 3, 1) := by decide +kernel
theorem eL_law__1888 : zD KL_law_ 1888 (.aload_n 3) 1 1889 := ⟨dL_law__1888, rfl⟩
theorem dL_law__1889 : decode cL_law_ 1889 = .ok (.invokestatic 248, 3) := by decide +kernel
theorem eL_law__1889 : zD KL_law_ 1889 (.invokestatic 248) 3 1892 := ⟨dL_law__1889, rfl⟩
theorem dL_law__1892 : decode cL_law_ 1892 = .ok (.istore 5, 2) := by decide +kernel
theorem eL_law__1892 : zD KL_law_ 1892 (.istore 5) 2 1894 := ⟨dL_law__1892, rfl⟩
theorem dL_law__1894 : decode cL_law_ 1894 = .ok (.aload_n 2, 1) := by decide +kernel
theorem eL_law__1894 : zD KL_law_ 1894 (.aload_n 2) 1 1895 := ⟨dL_law__1894, rfl⟩
theorem dL_law__1895 : decode cL_law_ 1895 = .ok (.aload_n 0, 1) := by decide +kernel
theorem eL_law__1895 : zD KL_law_ 1895 (.aload_n 0) 1 1896 := ⟨dL_law__1895, rfl⟩
theorem dL_law__1896 : decode cL_law_ 1896 = .ok (.iload 4, 2) := by decide +kernel
theorem eL_law__1896 : zD KL_law_ 1896 (.iload 4) 2 1898 := ⟨dL_law__1896, rfl⟩
theorem dL_law__1898 : decode cL_law_ 1898 = .ok (.iconst 1, 1) := by decide +kernel
theorem eL_law__1898 : zD KL_law_ 1898 (.iconst 1) 1 1899 := ⟨dL_law__1898, rfl⟩
theorem dL_law__1899 : decode cL_law_ 1899 = .ok (.iadd, 1) := by decide +kernel
theorem eL_law__1899 : zD KL_law_ 1899 (.iadd) 1 1900 := ⟨dL_law__1899, rfl⟩
theorem dL_law__1900 : decode cL_law_ 1900 = .ok (.iaload, 1) := by decide +kernel
theorem eL_law__1900 : zD KL_law_ 1900 (.iaload) 1 1901 := ⟨dL_law__1900, rfl⟩
theorem dL_law__1901 : decode cL_law_ 1901 = .ok (.invokevirtual 250, 3) := by decide +kernel
theorem eL_law__1901 : zD KL_law_ 1901 (.invokevirtual 250) 3 1904 := ⟨dL_law__1901, rfl⟩
theorem dL_law__1904 : decode cL_law_ 1904 = .ok (.istore 6, 2) := by decide +kernel
theorem eL_law__1904 : zD KL_law_ 1904 (.istore 6) 2 1906 := ⟨dL_law__1904, rfl⟩
theorem dL_law__1906 : decode cL_law_ 1906 = .ok (.aload_n 2, 1) := by decide +kernel
theorem eL_law__1906 : zD KL_law_ 1906 (.aload_n 2) 1 1907 := ⟨dL_law__1906, rfl⟩
theorem dL_law__1907 : decode cL_law_ 1907 = .ok (.invokevirtual 170, 3) := by decide +kernel
theorem eL_law__1907 : zD KL_law_ 1907 (.invokevirtual 170) 3 1910 := ⟨dL_law__1907, rfl⟩
theorem dL_law__1910 : decode cL_law_ 1910 = .ok (.iload 5, 2) := by decide +kernel
theorem eL_law__1910 : zD KL_law_ 1910 (.iload 5) 2 1912 := ⟨dL_law__1910, rfl⟩
theorem dL_law__1912 : decode cL_law_ 1912 = .ok (.if_icmp .eq 5, 3) := by decide +kernel
theorem eL_law__1912 : zD KL_law_ 1912 (.if_icmp .eq 5) 3 1915 := ⟨dL_law__1912, rfl⟩
theorem dL_law__1915 : decode cL_law_ 1915 = .ok (.iconst 0, 1) := by decide +kernel
theorem eL_law__1915 : zD KL_law_ 1915 (.iconst 0) 1 1916 := ⟨dL_law__1915, rfl⟩
theorem dL_law__1916 : decode cL_law_ 1916 = .ok (.ireturn, 1) := by decide +kernel
theorem eL_law__1916 : zD KL_law_ 1916 (.ireturn) 1 1917 := ⟨dL_law__1916, rfl⟩
theorem dL_law__1917 : decode cL_law_ 1917 = .ok (.iload 5, 2) := by decide +kernel
theorem eL_law__1917 : zD KL_law_ 1917 (.iload 5) 2 1919 := ⟨dL_law__1917, rfl⟩
theorem dL_law__1919 : decode cL_law_ 1919 = .ok (.ifCond .ne 15, 3) := by decide +kernel
theorem eL_law__1919 : zD KL_law_ 1919 (.ifCond .ne 15) 3 1922 := ⟨dL_law__1919, rfl⟩
