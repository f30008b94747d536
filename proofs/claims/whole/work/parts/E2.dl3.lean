/-! what the law's bytes say -/
theorem dL_1430 : decode code 1430 = .ok (.iadd, 1) := by decide +kernel
theorem dL_1431 : decode code 1431 = .ok (.iaload, 1) := by decide +kernel
theorem dL_1432 : decode code 1432 = .ok (.invokevirtual 163, 3) := by decide +kernel
theorem dL_1435 : decode code 1435 = .ok (.aload_n 2, 1) := by decide +kernel
theorem dL_1436 : decode code 1436 = .ok (.aload_n 0, 1) := by decide +kernel
theorem dL_1437 : decode code 1437 = .ok (.iload_n 3, 1) := by decide +kernel
theorem dL_1438 : decode code 1438 = .ok (.iconst 1, 1) := by decide +kernel
theorem dL_1439 : decode code 1439 = .ok (.iadd, 1) := by decide +kernel
theorem dL_1440 : decode code 1440 = .ok (.iaload, 1) := by decide +kernel
theorem dL_1441 : decode code 1441 = .ok (.aload_n 0, 1) := by decide +kernel
theorem dL_1442 : decode code 1442 = .ok (.iload_n 3, 1) := by decide +kernel
theorem dL_1443 : decode code 1443 = .ok (.iconst 2, 1) := by decide +kernel
theorem dL_1444 : decode code 1444 = .ok (.iadd, 1) := by decide +kernel
theorem dL_1445 : decode code 1445 = .ok (.iaload, 1) := by decide +kernel
theorem dL_1446 : decode code 1446 = .ok (.aload_n 0, 1) := by decide +kernel
theorem dL_1447 : decode code 1447 = .ok (.iload_n 3, 1) := by decide +kernel
theorem dL_1448 : decode code 1448 = .ok (.iconst 3, 1) := by decide +kernel
theorem dL_1449 : decode code 1449 = .ok (.iadd, 1) := by decide +kernel
theorem dL_1450 : decode code 1450 = .ok (.iaload, 1) := by decide +kernel
theorem dL_1451 : decode code 1451 = .ok (.invokevirtual 166, 3) := by decide +kernel
theorem dL_1454 : decode code 1454 = .ok (.if_icmp .eq 1081, 3) := by decide +kernel
theorem dL_1457 : decode code 1457 = .ok (.iconst 0, 1) := by decide +kernel
theorem dL_1458 : decode code 1458 = .ok (.ireturn, 1) := by decide +kernel
theorem dL_1459 : decode code 1459 = .ok (.aload_n 1, 1) := by decide +kernel
theorem dL_1460 : decode code 1460 = .ok (.aload_n 0, 1) := by decide +kernel
theorem dL_1461 : decode code 1461 = .ok (.iload_n 3, 1) := by decide +kernel
theorem dL_1462 : decode code 1462 = .ok (.iconst 1, 1) := by decide +kernel
theorem dL_1463 : decode code 1463 = .ok (.iadd, 1) := by decide +kernel
theorem dL_1464 : decode code 1464 = .ok (.iaload, 1) := by decide +kernel
theorem dL_1465 : decode code 1465 = .ok (.aload_n 0, 1) := by decide +kernel
theorem dL_1466 : decode code 1466 = .ok (.iload_n 3, 1) := by decide +kernel
theorem dL_1467 : decode code 1467 = .ok (.iconst 2, 1) := by decide +kernel
theorem dL_1468 : decode code 1468 = .ok (.iadd, 1) := by decide +kernel
theorem dL_1469 : decode code 1469 = .ok (.iaload, 1) := by decide +kernel
theorem dL_1470 : decode code 1470 = .ok (.aload_n 0, 1) := by decide +kernel
theorem dL_1471 : decode code 1471 = .ok (.iload_n 3, 1) := by decide +kernel
theorem dL_1472 : decode code 1472 = .ok (.iconst 3, 1) := by decide +kernel
theorem dL_1473 : decode code 1473 = .ok (.iadd, 1) := by decide +kernel
theorem dL_1474 : decode code 1474 = .ok (.iaload, 1) := by decide +kernel
theorem dL_1475 : decode code 1475 = .ok (.invokevirtual 167, 3) := by decide +kernel
theorem dL_1478 : decode code 1478 = .ok (.aload_n 2, 1) := by decide +kernel
theorem dL_1479 : decode code 1479 = .ok (.aload_n 0, 1) := by decide +kernel
theorem dL_1480 : decode code 1480 = .ok (.iload_n 3, 1) := by decide +kernel
theorem dL_1481 : decode code 1481 = .ok (.iconst 1, 1) := by decide +kernel
theorem dL_1482 : decode code 1482 = .ok (.iadd, 1) := by decide +kernel
theorem dL_1483 : decode code 1483 = .ok (.iaload, 1) := by decide +kernel
theorem dL_1484 : decode code 1484 = .ok (.aload_n 0, 1) := by decide +kernel
theorem dL_1485 : decode code 1485 = .ok (.iload_n 3, 1) := by decide +kernel
theorem dL_1486 : decode code 1486 = .ok (.iconst 2, 1) := by decide +kernel
theorem dL_1487 : decode code 1487 = .ok (.iadd, 1) := by decide +kernel
theorem dL_1488 : decode code 1488 = .ok (.iaload, 1) := by decide +kernel
theorem dL_1489 : decode code 1489 = .ok (.aload_n 0, 1) := by decide +kernel
theorem dL_1490 : decode code 1490 = .ok (.iload_n 3, 1) := by decide +kernel
theorem dL_1491 : decode code 1491 = .ok (.iconst 3, 1) := by decide +kernel
theorem dL_1492 : decode code 1492 = .ok (.iadd, 1) := by decide +kernel
theorem dL_1493 : decode code 1493 = .ok (.iaload, 1) := by decide +kernel
theorem dL_1494 : decode code 1494 = .ok (.invokevirtual 170, 3) := by decide +kernel
theorem dL_1497 : decode code 1497 = .ok (.if_icmp .eq 1038, 3) := by decide +kernel
theorem dL_1500 : decode code 1500 = .ok (.iconst 0, 1) := by decide +kernel
theorem dL_1501 : decode code 1501 = .ok (.ireturn, 1) := by decide +kernel
theorem dL_1502 : decode code 1502 = .ok (.aload_n 1, 1) := by decide +kernel
theorem dL_1503 : decode code 1503 = .ok (.aload_n 0, 1) := by decide +kernel
theorem dL_1504 : decode code 1504 = .ok (.iload_n 3, 1) := by decide +kernel
theorem dL_1505 : decode code 1505 = .ok (.iconst 1, 1) := by decide +kernel
theorem dL_1506 : decode code 1506 = .ok (.iadd, 1) := by decide +kernel
theorem dL_1507 : decode code 1507 = .ok (.iaload, 1) := by decide +kernel
theorem dL_1508 : decode code 1508 = .ok (.invokevirtual 171, 3) := by decide +kernel
theorem dL_1511 : decode code 1511 = .ok (.aload_n 2, 1) := by decide +kernel
theorem dL_1512 : decode code 1512 = .ok (.aload_n 0, 1) := by decide +kernel
theorem dL_1513 : decode code 1513 = .ok (.iload_n 3, 1) := by decide +kernel
theorem dL_1514 : decode code 1514 = .ok (.iconst 1, 1) := by decide +kernel
theorem dL_1515 : decode code 1515 = .ok (.iadd, 1) := by decide +kernel
theorem dL_1516 : decode code 1516 = .ok (.iaload, 1) := by decide +kernel
theorem dL_1517 : decode code 1517 = .ok (.invokevirtual 174, 3) := by decide +kernel
theorem dL_1520 : decode code 1520 = .ok (.if_icmp .eq 1015, 3) := by decide +kernel
theorem dL_1523 : decode code 1523 = .ok (.iconst 0, 1) := by decide +kernel
theorem dL_1524 : decode code 1524 = .ok (.ireturn, 1) := by decide +kernel
theorem dL_1525 : decode code 1525 = .ok (.aload_n 1, 1) := by decide +kernel
theorem dL_1526 : decode code 1526 = .ok (.aload_n 0, 1) := by decide +kernel
theorem dL_1527 : decode code 1527 = .ok (.iload_n 3, 1) := by decide +kernel
theorem dL_1528 : decode code 1528 = .ok (.iconst 1, 1) := by decide +kernel
theorem dL_1529 : decode code 1529 = .ok (.iadd, 1) := by decide +kernel
theorem dL_1530 : decode code 1530 = .ok (.iaload, 1) := by decide +kernel
theorem dL_1531 : decode code 1531 = .ok (.aload_n 0, 1) := by decide +kernel
theorem dL_1532 : decode code 1532 = .ok (.iload_n 3, 1) := by decide +kernel
theorem dL_1533 : decode code 1533 = .ok (.iconst 2, 1) := by decide +kernel
theorem dL_1534 : decode code 1534 = .ok (.iadd, 1) := by decide +kernel
theorem dL_1535 : decode code 1535 = .ok (.iaload, 1) := by decide +kernel
theorem dL_1536 : decode code 1536 = .ok (.invokevirtual 175, 3) := by decide +kernel
theorem dL_1539 : decode code 1539 = .ok (.aload_n 2, 1) := by decide +kernel
theorem dL_1540 : decode code 1540 = .ok (.aload_n 0, 1) := by decide +kernel
theorem dL_1541 : decode code 1541 = .ok (.iload_n 3, 1) := by decide +kernel
theorem dL_1542 : decode code 1542 = .ok (.iconst 1, 1) := by decide +kernel
theorem dL_1543 : decode code 1543 = .ok (.iadd, 1) := by decide +kernel
theorem dL_1544 : decode code 1544 = .ok (.iaload, 1) := by decide +kernel
theorem dL_1545 : decode code 1545 = .ok (.aload_n 0, 1) := by decide +kernel
theorem dL_1546 : decode code 1546 = .ok (.iload_n 3, 1) := by decide +kernel
theorem dL_1547 : decode code 1547 = .ok (.iconst 2, 1) := by decide +kernel
theorem dL_1548 : decode code 1548 = .ok (.iadd, 1) := by decide +kernel
theorem dL_1549 : decode code 1549 = .ok (.iaload, 1) := by decide +kernel
theorem dL_1550 : decode code 1550 = .ok (.invokevirtual 178, 3) := by decide +kernel
theorem dL_1553 : decode code 1553 = .ok (.if_icmp .eq 982, 3) := by decide +kernel
theorem dL_1556 : decode code 1556 = .ok (.iconst 0, 1) := by decide +kernel
theorem dL_1557 : decode code 1557 = .ok (.ireturn, 1) := by decide +kernel
theorem dL_1558 : decode code 1558 = .ok (.aload_n 1, 1) := by decide +kernel
theorem dL_1559 : decode code 1559 = .ok (.aload_n 0, 1) := by decide +kernel
theorem dL_1560 : decode code 1560 = .ok (.iload_n 3, 1) := by decide +kernel
theorem dL_1561 : decode code 1561 = .ok (.iconst 1, 1) := by decide +kernel
theorem dL_1562 : decode code 1562 = .ok (.iadd, 1) := by decide +kernel
theorem dL_1563 : decode code 1563 = .ok (.iaload, 1) := by decide +kernel
theorem dL_1564 : decode code 1564 = .ok (.aload_n 0, 1) := by decide +kernel
theorem dL_1565 : decode code 1565 = .ok (.iload_n 3, 1) := by decide +kernel
theorem dL_1566 : decode code 1566 = .ok (.iconst 2, 1) := by decide +kernel
theorem dL_1567 : decode code 1567 = .ok (.iadd, 1) := by decide +kernel
theorem dL_1568 : decode code 1568 = .ok (.iaload, 1) := by decide +kernel
theorem dL_1569 : decode code 1569 = .ok (.aload_n 0, 1) := by decide +kernel
theorem dL_1570 : decode code 1570 = .ok (.iload_n 3, 1) := by decide +kernel
theorem dL_1571 : decode code 1571 = .ok (.iconst 3, 1) := by decide +kernel
theorem dL_1572 : decode code 1572 = .ok (.iadd, 1) := by decide +kernel
theorem dL_1573 : decode code 1573 = .ok (.iaload, 1) := by decide +kernel
theorem dL_1574 : decode code 1574 = .ok (.aload_n 0, 1) := by decide +kernel
theorem dL_1575 : decode code 1575 = .ok (.iload_n 3, 1) := by decide +kernel
theorem dL_1576 : decode code 1576 = .ok (.iconst 4, 1) := by decide +kernel
theorem dL_1577 : decode code 1577 = .ok (.iadd, 1) := by decide +kernel
theorem dL_1578 : decode code 1578 = .ok (.iaload, 1) := by decide +kernel
theorem dL_1579 : decode code 1579 = .ok (.invokevirtual 179, 3) := by decide +kernel
theorem dL_1582 : decode code 1582 = .ok (.aload_n 2, 1) := by decide +kernel
theorem dL_1583 : decode code 1583 = .ok (.aload_n 0, 1) := by decide +kernel
theorem dL_1584 : decode code 1584 = .ok (.iload_n 3, 1) := by decide +kernel
theorem dL_1585 : decode code 1585 = .ok (.iconst 1, 1) := by decide +kernel
theorem dL_1586 : decode code 1586 = .ok (.iadd, 1) := by decide +kernel
theorem dL_1587 : decode code 1587 = .ok (.iaload, 1) := by decide +kernel
theorem dL_1588 : decode code 1588 = .ok (.aload_n 0, 1) := by decide +kernel
theorem dL_1589 : decode code 1589 = .ok (.iload_n 3, 1) := by decide +kernel
theorem dL_1590 : decode code 1590 = .ok (.iconst 2, 1) := by decide +kernel
theorem dL_1591 : decode code 1591 = .ok (.iadd, 1) := by decide +kernel
theorem dL_1592 : decode code 1592 = .ok (.iaload, 1) := by decide +kernel
theorem dL_1593 : decode code 1593 = .ok (.aload_n 0, 1) := by decide +kernel
theorem dL_1594 : decode code 1594 = .ok (.iload_n 3, 1) := by decide +kernel
theorem dL_1595 : decode code 1595 = .ok (.iconst 3, 1) := by decide +kernel
theorem dL_1596 : decode code 1596 = .ok (.iadd, 1) := by decide +kernel
theorem dL_1597 : decode code 1597 = .ok (.iaload, 1) := by decide +kernel
theorem dL_1598 : decode code 1598 = .ok (.aload_n 0, 1) := by decide +kernel
theorem dL_1599 : decode code 1599 = .ok (.iload_n 3, 1) := by decide +kernel
theorem dL_1600 : decode code 1600 = .ok (.iconst 4, 1) := by decide +kernel
theorem dL_1601 : decode code 1601 = .ok (.iadd, 1) := by decide +kernel
theorem dL_1602 : decode code 1602 = .ok (.iaload, 1) := by decide +kernel
theorem dL_1603 : decode code 1603 = .ok (.invokevirtual 182, 3) := by decide +kernel
theorem dL_1606 : decode code 1606 = .ok (.if_icmp .eq 929, 3) := by decide +kernel
theorem dL_1609 : decode code 1609 = .ok (.iconst 0, 1) := by decide +kernel
theorem dL_1610 : decode code 1610 = .ok (.ireturn, 1) := by decide +kernel
theorem dL_1611 : decode code 1611 = .ok (.aload_n 1, 1) := by decide +kernel
theorem dL_1612 : decode code 1612 = .ok (.aload_n 0, 1) := by decide +kernel
theorem dL_1613 : decode code 1613 = .ok (.iload_n 3, 1) := by decide +kernel
theorem dL_1614 : decode code 1614 = .ok (.iconst 1, 1) := by decide +kernel
theorem dL_1615 : decode code 1615 = .ok (.iadd, 1) := by decide +kernel
theorem dL_1616 : decode code 1616 = .ok (.iaload, 1) := by decide +kernel
theorem dL_1617 : decode code 1617 = .ok (.aload_n 0, 1) := by decide +kernel
theorem dL_1618 : decode code 1618 = .ok (.iload_n 3, 1) := by decide +kernel
theorem dL_1619 : decode code 1619 = .ok (.iconst 2, 1) := by decide +kernel
theorem dL_1620 : decode code 1620 = .ok (.iadd, 1) := by decide +kernel
theorem dL_1621 : decode code 1621 = .ok (.iaload, 1) := by decide +kernel
theorem dL_1622 : decode code 1622 = .ok (.aload_n 0, 1) := by decide +kernel
theorem dL_1623 : decode code 1623 = .ok (.iload_n 3, 1) := by decide +kernel
theorem dL_1624 : decode code 1624 = .ok (.iconst 3, 1) := by decide +kernel
theorem dL_1625 : decode code 1625 = .ok (.iadd, 1) := by decide +kernel
theorem dL_1626 : decode code 1626 = .ok (.iaload, 1) := by decide +kernel
theorem dL_1627 : decode code 1627 = .ok (.invokevirtual 183, 3) := by decide +kernel
theorem dL_1630 : decode code 1630 = .ok (.aload_n 2, 1) := by decide +kernel
theorem dL_1631 : decode code 1631 = .ok (.aload_n 0, 1) := by decide +kernel
theorem dL_1632 : decode code 1632 = .ok (.iload_n 3, 1) := by decide +kernel
theorem dL_1633 : decode code 1633 = .ok (.iconst 1, 1) := by decide +kernel
theorem dL_1634 : decode code 1634 = .ok (.iadd, 1) := by decide +kernel
theorem dL_1635 : decode code 1635 = .ok (.iaload, 1) := by decide +kernel
theorem dL_1636 : decode code 1636 = .ok (.aload_n 0, 1) := by decide +kernel
theorem dL_1637 : decode code 1637 = .ok (.iload_n 3, 1) := by decide +kernel
theorem dL_1638 : decode code 1638 = .ok (.iconst 2, 1) := by decide +kernel
theorem dL_1639 : decode code 1639 = .ok (.iadd, 1) := by decide +kernel
theorem dL_1640 : decode code 1640 = .ok (.iaload, 1) := by decide +kernel
theorem dL_1641 : decode code 1641 = .ok (.aload_n 0, 1) := by decide +kernel
theorem dL_1642 : decode code 1642 = .ok (.iload_n 3, 1) := by decide +kernel
theorem dL_1643 : decode code 1643 = .ok (.iconst 3, 1) := by decide +kernel
theorem dL_1644 : decode code 1644 = .ok (.iadd, 1) := by decide +kernel
theorem dL_1645 : decode code 1645 = .ok (.iaload, 1) := by decide +kernel
theorem dL_1646 : decode code 1646 = .ok (.invokevirtual 186, 3) := by decide +kernel
theorem dL_1649 : decode code 1649 = .ok (.if_icmp .eq 886, 3) := by decide +kernel
theorem dL_1652 : decode code 1652 = .ok (.iconst 0, 1) := by decide +kernel
theorem dL_1653 : decode code 1653 = .ok (.ireturn, 1) := by decide +kernel
theorem dL_1654 : decode code 1654 = .ok (.aload_n 1, 1) := by decide +kernel
theorem dL_1655 : decode code 1655 = .ok (.aload_n 0, 1) := by decide +kernel
theorem dL_1656 : decode code 1656 = .ok (.iload_n 3, 1) := by decide +kernel
theorem dL_1657 : decode code 1657 = .ok (.iconst 1, 1) := by decide +kernel
theorem dL_1658 : decode code 1658 = .ok (.iadd, 1) := by decide +kernel
theorem dL_1659 : decode code 1659 = .ok (.iaload, 1) := by decide +kernel
theorem dL_1660 : decode code 1660 = .ok (.aload_n 0, 1) := by decide +kernel
theorem dL_1661 : decode code 1661 = .ok (.iload_n 3, 1) := by decide +kernel
theorem dL_1662 : decode code 1662 = .ok (.iconst 2, 1) := by decide +kernel
theorem dL_1663 : decode code 1663 = .ok (.iadd, 1) := by decide +kernel
theorem dL_1664 : decode code 1664 = .ok (.iaload, 1) := by decide +kernel
theorem dL_1665 : decode code 1665 = .ok (.aload_n 0, 1) := by decide +kernel
theorem dL_1666 : decode code 1666 = .ok (.iload_n 3, 1) := by decide +kernel
theorem dL_1667 : decode code 1667 = .ok (.iconst 3, 1) := by decide +kernel
theorem dL_1668 : decode code 1668 = .ok (.iadd, 1) := by decide +kernel
theorem dL_1669 : decode code 1669 = .ok (.iaload, 1) := by decide +kernel
theorem dL_1670 : decode code 1670 = .ok (.invokevirtual 187, 3) := by decide +kernel
theorem dL_1673 : decode code 1673 = .ok (.aload_n 2, 1) := by decide +kernel
theorem dL_1674 : decode code 1674 = .ok (.aload_n 0, 1) := by decide +kernel
theorem dL_1675 : decode code 1675 = .ok (.iload_n 3, 1) := by decide +kernel
theorem dL_1676 : decode code 1676 = .ok (.iconst 1, 1) := by decide +kernel
theorem dL_1677 : decode code 1677 = .ok (.iadd, 1) := by decide +kernel
theorem dL_1678 : decode code 1678 = .ok (.iaload, 1) := by decide +kernel
theorem dL_1679 : decode code 1679 = .ok (.aload_n 0, 1) := by decide +kernel
theorem dL_1680 : decode code 1680 = .ok (.iload_n 3, 1) := by decide +kernel
theorem dL_1681 : decode code 1681 = .ok (.iconst 2, 1) := by decide +kernel
theorem dL_1682 : decode code 1682 = .ok (.iadd, 1) := by decide +kernel
theorem dL_1683 : decode code 1683 = .ok (.iaload, 1) := by decide +kernel
theorem dL_1684 : decode code 1684 = .ok (.aload_n 0, 1) := by decide +kernel
theorem dL_1685 : decode code 1685 = .ok (.iload_n 3, 1) := by decide +kernel
theorem dL_1686 : decode code 1686 = .ok (.iconst 3, 1) := by decide +kernel
theorem dL_1687 : decode code 1687 = .ok (.iadd, 1) := by decide +kernel
theorem dL_1688 : decode code 1688 = .ok (.iaload, 1) := by decide +kernel
theorem dL_1689 : decode code 1689 = .ok (.invokevirtual 190, 3) := by decide +kernel
theorem dL_1692 : decode code 1692 = .ok (.if_icmp .eq 843, 3) := by decide +kernel
theorem dL_1695 : decode code 1695 = .ok (.iconst 0, 1) := by decide +kernel
theorem dL_1696 : decode code 1696 = .ok (.ireturn, 1) := by decide +kernel
theorem dL_1697 : decode code 1697 = .ok (.aload_n 1, 1) := by decide +kernel
theorem dL_1698 : decode code 1698 = .ok (.aload_n 0, 1) := by decide +kernel
theorem dL_1699 : decode code 1699 = .ok (.iload_n 3, 1) := by decide +kernel
theorem dL_1700 : decode code 1700 = .ok (.iconst 1, 1) := by decide +kernel
theorem dL_1701 : decode code 1701 = .ok (.iadd, 1) := by decide +kernel
theorem dL_1702 : decode code 1702 = .ok (.iaload, 1) := by decide +kernel
theorem dL_1703 : decode code 1703 = .ok (.aload_n 0, 1) := by decide +kernel
theorem dL_1704 : decode code 1704 = .ok (.iload_n 3, 1) := by decide +kernel
theorem dL_1705 : decode code 1705 = .ok (.iconst 2, 1) := by decide +kernel
theorem dL_1706 : decode code 1706 = .ok (.iadd, 1) := by decide +kernel
theorem dL_1707 : decode code 1707 = .ok (.iaload, 1) := by decide +kernel
theorem dL_1708 : decode code 1708 = .ok (.aload_n 0, 1) := by decide +kernel
theorem dL_1709 : decode code 1709 = .ok (.iload_n 3, 1) := by decide +kernel
theorem dL_1710 : decode code 1710 = .ok (.iconst 3, 1) := by decide +kernel
theorem dL_1711 : decode code 1711 = .ok (.iadd, 1) := by decide +kernel
theorem dL_1712 : decode code 1712 = .ok (.iaload, 1) := by decide +kernel
theorem dL_1713 : decode code 1713 = .ok (.invokevirtual 191, 3) := by decide +kernel
theorem dL_1716 : decode code 1716 = .ok (.aload_n 2, 1) := by decide +kernel
theorem dL_1717 : decode code 1717 = .ok (.aload_n 0, 1) := by decide +kernel
theorem dL_1718 : decode code 1718 = .ok (.iload_n 3, 1) := by decide +kernel
theorem dL_1719 : decode code 1719 = .ok (.iconst 1, 1) := by decide +kernel
theorem dL_1720 : decode code 1720 = .ok (.iadd, 1) := by decide +kernel
theorem dL_1721 : decode code 1721 = .ok (.iaload, 1) := by decide +kernel
theorem dL_1722 : decode code 1722 = .ok (.aload_n 0, 1) := by decide +kernel
theorem dL_1723 : decode code 1723 = .ok (.iload_n 3, 1) := by decide +kernel
theorem dL_1724 : decode code 1724 = .ok (.iconst 2, 1) := by decide +kernel
theorem dL_1725 : decode code 1725 = .ok (.iadd, 1) := by decide +kernel
theorem dL_1726 : decode code 1726 = .ok (.iaload, 1) := by decide +kernel
theorem dL_1727 : decode code 1727 = .ok (.aload_n 0, 1) := by decide +kernel
theorem dL_1728 : decode code 1728 = .ok (.iload_n 3, 1) := by decide +kernel
theorem dL_1729 : decode code 1729 = .ok (.iconst 3, 1) := by decide +kernel
theorem dL_1730 : decode code 1730 = .ok (.iadd, 1) := by decide +kernel
theorem dL_1731 : decode code 1731 = .ok (.iaload, 1) := by decide +kernel
theorem dL_1732 : decode code 1732 = .ok (.invokevirtual 194, 3) := by decide +kernel
theorem dL_1735 : decode code 1735 = .ok (.if_icmp .eq 800, 3) := by decide +kernel
theorem dL_1738 : decode code 1738 = .ok (.iconst 0, 1) := by decide +kernel
theorem dL_1739 : decode code 1739 = .ok (.ireturn, 1) := by decide +kernel
theorem dL_1740 : decode code 1740 = .ok (.aload_n 1, 1) := by decide +kernel
theorem dL_1741 : decode code 1741 = .ok (.aload_n 0, 1) := by decide +kernel
theorem dL_1742 : decode code 1742 = .ok (.iload_n 3, 1) := by decide +kernel
theorem dL_1743 : decode code 1743 = .ok (.iconst 1, 1) := by decide +kernel
theorem dL_1744 : decode code 1744 = .ok (.iadd, 1) := by decide +kernel
theorem dL_1745 : decode code 1745 = .ok (.iaload, 1) := by decide +kernel
theorem dL_1746 : decode code 1746 = .ok (.invokevirtual 195, 3) := by decide +kernel
theorem dL_1749 : decode code 1749 = .ok (.aload_n 2, 1) := by decide +kernel
theorem dL_1750 : decode code 1750 = .ok (.aload_n 0, 1) := by decide +kernel
theorem dL_1751 : decode code 1751 = .ok (.iload_n 3, 1) := by decide +kernel
theorem dL_1752 : decode code 1752 = .ok (.iconst 1, 1) := by decide +kernel
theorem dL_1753 : decode code 1753 = .ok (.iadd, 1) := by decide +kernel
theorem dL_1754 : decode code 1754 = .ok (.iaload, 1) := by decide +kernel
theorem dL_1755 : decode code 1755 = .ok (.invokevirtual 198, 3) := by decide +kernel
theorem dL_1758 : decode code 1758 = .ok (.if_icmp .eq 777, 3) := by decide +kernel
theorem dL_1761 : decode code 1761 = .ok (.iconst 0, 1) := by decide +kernel
theorem dL_1762 : decode code 1762 = .ok (.ireturn, 1) := by decide +kernel
theorem dL_1763 : decode code 1763 = .ok (.aload_n 1, 1) := by decide +kernel
theorem dL_1764 : decode code 1764 = .ok (.aload_n 0, 1) := by decide +kernel
theorem dL_1765 : decode code 1765 = .ok (.iload_n 3, 1) := by decide +kernel
theorem dL_1766 : decode code 1766 = .ok (.iconst 1, 1) := by decide +kernel
theorem dL_1767 : decode code 1767 = .ok (.iadd, 1) := by decide +kernel
theorem dL_1768 : decode code 1768 = .ok (.iaload, 1) := by decide +kernel
theorem dL_1769 : decode code 1769 = .ok (.invokevirtual 199, 3) := by decide +kernel
theorem dL_1772 : decode code 1772 = .ok (.aload_n 2, 1) := by decide +kernel
theorem dL_1773 : decode code 1773 = .ok (.aload_n 0, 1) := by decide +kernel
theorem dL_1774 : decode code 1774 = .ok (.iload_n 3, 1) := by decide +kernel
theorem dL_1775 : decode code 1775 = .ok (.iconst 1, 1) := by decide +kernel
theorem dL_1776 : decode code 1776 = .ok (.iadd, 1) := by decide +kernel
theorem dL_1777 : decode code 1777 = .ok (.iaload, 1) := by decide +kernel
theorem dL_1778 : decode code 1778 = .ok (.invokevirtual 202, 3) := by decide +kernel
theorem dL_1781 : decode code 1781 = .ok (.if_icmp .eq 754, 3) := by decide +kernel
theorem dL_1784 : decode code 1784 = .ok (.iconst 0, 1) := by decide +kernel
theorem dL_1785 : decode code 1785 = .ok (.ireturn, 1) := by decide +kernel
theorem dL_1786 : decode code 1786 = .ok (.aload_n 1, 1) := by decide +kernel
theorem dL_1787 : decode code 1787 = .ok (.aload_n 0, 1) := by decide +kernel
theorem dL_1788 : decode code 1788 = .ok (.iload_n 3, 1) := by decide +kernel
theorem dL_1789 : decode code 1789 = .ok (.iconst 1, 1) := by decide +kernel
theorem dL_1790 : decode code 1790 = .ok (.iadd, 1) := by decide +kernel
theorem dL_1791 : decode code 1791 = .ok (.iaload, 1) := by decide +kernel
theorem dL_1792 : decode code 1792 = .ok (.aload_n 0, 1) := by decide +kernel
theorem dL_1793 : decode code 1793 = .ok (.iload_n 3, 1) := by decide +kernel
theorem dL_1794 : decode code 1794 = .ok (.iconst 2, 1) := by decide +kernel
theorem dL_1795 : decode code 1795 = .ok (.iadd, 1) := by decide +kernel
theorem dL_1796 : decode code 1796 = .ok (.iaload, 1) := by decide +kernel
theorem dL_1797 : decode code 1797 = .ok (.invokevirtual 203, 3) := by decide +kernel
theorem dL_1800 : decode code 1800 = .ok (.aload_n 2, 1) := by decide +kernel
theorem dL_1801 : decode code 1801 = .ok (.aload_n 0, 1) := by decide +kernel
theorem dL_1802 : decode code 1802 = .ok (.iload_n 3, 1) := by decide +kernel
theorem dL_1803 : decode code 1803 = .ok (.iconst 1, 1) := by decide +kernel
theorem dL_1804 : decode code 1804 = .ok (.iadd, 1) := by decide +kernel
theorem dL_1805 : decode code 1805 = .ok (.iaload, 1) := by decide +kernel
theorem dL_1806 : decode code 1806 = .ok (.aload_n 0, 1) := by decide +kernel
theorem dL_1807 : decode code 1807 = .ok (.iload_n 3, 1) := by decide +kernel
theorem dL_1808 : decode code 1808 = .ok (.iconst 2, 1) := by decide +kernel
theorem dL_1809 : decode code 1809 = .ok (.iadd, 1) := by decide +kernel
theorem dL_1810 : decode code 1810 = .ok (.iaload, 1) := by decide +kernel
theorem dL_1811 : decode code 1811 = .ok (.invokevirtual 206, 3) := by decide +kernel
theorem dL_1814 : decode code 1814 = .ok (.if_icmp .eq 721, 3) := by decide +kernel
theorem dL_1817 : decode code 1817 = .ok (.iconst 0, 1) := by decide +kernel
theorem dL_1818 : decode code 1818 = .ok (.ireturn, 1) := by decide +kernel
theorem dL_1819 : decode code 1819 = .ok (.aload_n 1, 1) := by decide +kernel
theorem dL_1820 : decode code 1820 = .ok (.aload_n 0, 1) := by decide +kernel
theorem dL_1821 : decode code 1821 = .ok (.iload_n 3, 1) := by decide +kernel
theorem dL_1822 : decode code 1822 = .ok (.iconst 1, 1) := by decide +kernel
theorem dL_1823 : decode code 1823 = .ok (.iadd, 1) := by decide +kernel
theorem dL_1824 : decode code 1824 = .ok (.iaload, 1) := by decide +kernel
theorem dL_1825 : decode code 1825 = .ok (.aload_n 0, 1) := by decide +kernel
theorem dL_1826 : decode code 1826 = .ok (.iload_n 3, 1) := by decide +kernel
theorem dL_1827 : decode code 1827 = .ok (.iconst 2, 1) := by decide +kernel
theorem dL_1828 : decode code 1828 = .ok (.iadd, 1) := by decide +kernel
theorem dL_1829 : decode code 1829 = .ok (.iaload, 1) := by decide +kernel
theorem dL_1830 : decode code 1830 = .ok (.invokevirtual 207, 3) := by decide +kernel
theorem dL_1833 : decode code 1833 = .ok (.aload_n 2, 1) := by decide +kernel
theorem dL_1834 : decode code 1834 = .ok (.aload_n 0, 1) := by decide +kernel
theorem dL_1835 : decode code 1835 = .ok (.iload_n 3, 1) := by decide +kernel
theorem dL_1836 : decode code 1836 = .ok (.iconst 1, 1) := by decide +kernel
theorem dL_1837 : decode code 1837 = .ok (.iadd, 1) := by decide +kernel
theorem dL_1838 : decode code 1838 = .ok (.iaload, 1) := by decide +kernel
theorem dL_1839 : decode code 1839 = .ok (.aload_n 0, 1) := by decide +kernel
theorem dL_1840 : decode code 1840 = .ok (.iload_n 3, 1) := by decide +kernel
theorem dL_1841 : decode code 1841 = .ok (.iconst 2, 1) := by decide +kernel
theorem dL_1842 : decode code 1842 = .ok (.iadd, 1) := by decide +kernel
theorem dL_1843 : decode code 1843 = .ok (.iaload, 1) := by decide +kernel
theorem dL_1844 : decode code 1844 = .ok (.invokevirtual 210, 3) := by decide +kernel
theorem dL_1847 : decode code 1847 = .ok (.if_icmp .eq 688, 3) := by decide +kernel
theorem dL_1850 : decode code 1850 = .ok (.iconst 0, 1) := by decide +kernel
theorem dL_1851 : decode code 1851 = .ok (.ireturn, 1) := by decide +kernel
theorem dL_1852 : decode code 1852 = .ok (.aload_n 1, 1) := by decide +kernel
theorem dL_1853 : decode code 1853 = .ok (.aload_n 0, 1) := by decide +kernel
theorem dL_1854 : decode code 1854 = .ok (.iload_n 3, 1) := by decide +kernel
theorem dL_1855 : decode code 1855 = .ok (.iconst 1, 1) := by decide +kernel
theorem dL_1856 : decode code 1856 = .ok (.iadd, 1) := by decide +kernel
theorem dL_1857 : decode code 1857 = .ok (.iaload, 1) := by decide +kernel
theorem dL_1858 : decode code 1858 = .ok (.aload_n 0, 1) := by decide +kernel
theorem dL_1859 : decode code 1859 = .ok (.iload_n 3, 1) := by decide +kernel
theorem dL_1860 : decode code 1860 = .ok (.iconst 2, 1) := by decide +kernel
theorem dL_1861 : decode code 1861 = .ok (.iadd, 1) := by decide +kernel
theorem dL_1862 : decode code 1862 = .ok (.iaload, 1) := by decide +kernel
theorem dL_1863 : decode code 1863 = .ok (.aload_n 0, 1) := by decide +kernel
theorem dL_1864 : decode code 1864 = .ok (.iload_n 3, 1) := by decide +kernel
theorem dL_1865 : decode code 1865 = .ok (.iconst 3, 1) := by decide +kernel
theorem dL_1866 : decode code 1866 = .ok (.iadd, 1) := by decide +kernel
theorem dL_1867 : decode code 1867 = .ok (.iaload, 1) := by decide +kernel
theorem dL_1868 : decode code 1868 = .ok (.aload_n 0, 1) := by decide +kernel
theorem dL_1869 : decode code 1869 = .ok (.iload_n 3, 1) := by decide +kernel
theorem dL_1870 : decode code 1870 = .ok (.iconst 4, 1) := by decide +kernel
theorem dL_1871 : decode code 1871 = .ok (.iadd, 1) := by decide +kernel
theorem dL_1872 : decode code 1872 = .ok (.iaload, 1) := by decide +kernel
theorem dL_1873 : decode code 1873 = .ok (.invokevirtual 211, 3) := by decide +kernel
theorem dL_1876 : decode code 1876 = .ok (.aload_n 2, 1) := by decide +kernel
theorem dL_1877 : decode code 1877 = .ok (.aload_n 0, 1) := by decide +kernel
theorem dL_1878 : decode code 1878 = .ok (.iload_n 3, 1) := by decide +kernel
theorem dL_1879 : decode code 1879 = .ok (.iconst 1, 1) := by decide +kernel
theorem dL_1880 : decode code 1880 = .ok (.iadd, 1) := by decide +kernel
theorem dL_1881 : decode code 1881 = .ok (.iaload, 1) := by decide +kernel
theorem dL_1882 : decode code 1882 = .ok (.aload_n 0, 1) := by decide +kernel
theorem dL_1883 : decode code 1883 = .ok (.iload_n 3, 1) := by decide +kernel
theorem dL_1884 : decode code 1884 = .ok (.iconst 2, 1) := by decide +kernel
theorem dL_1885 : decode code 1885 = .ok (.iadd, 1) := by decide +kernel
theorem dL_1886 : decode code 1886 = .ok (.iaload, 1) := by decide +kernel
theorem dL_1887 : decode code 1887 = .ok (.aload_n 0, 1) := by decide +kernel
theorem dL_1888 : decode code 1888 = .ok (.iload_n 3, 1) := by decide +kernel
theorem dL_1889 : decode code 1889 = .ok (.iconst 3, 1) := by decide +kernel
theorem dL_1890 : decode code 1890 = .ok (.iadd, 1) := by decide +kernel
theorem dL_1891 : decode code 1891 = .ok (.iaload, 1) := by decide +kernel
theorem dL_1892 : decode code 1892 = .ok (.aload_n 0, 1) := by decide +kernel
theorem dL_1893 : decode code 1893 = .ok (.iload_n 3, 1) := by decide +kernel
theorem dL_1894 : decode code 1894 = .ok (.iconst 4, 1) := by decide +kernel
theorem dL_1895 : decode code 1895 = .ok (.iadd, 1) := by decide +kernel
theorem dL_1896 : decode code 1896 = .ok (.iaload, 1) := by decide +kernel
theorem dL_1897 : decode code 1897 = .ok (.invokevirtual 214, 3) := by decide +kernel
theorem dL_1900 : decode code 1900 = .ok (.if_icmp .eq 635, 3) := by decide +kernel
theorem dL_1903 : decode code 1903 = .ok (.iconst 0, 1) := by decide +kernel
theorem dL_1904 : decode code 1904 = .ok (.ireturn, 1) := by decide +kernel
theorem dL_1905 : decode code 1905 = .ok (.aload_n 1, 1) := by decide +kernel
theorem dL_1906 : decode code 1906 = .ok (.aload_n 0, 1) := by decide +kernel
theorem dL_1907 : decode code 1907 = .ok (.iload_n 3, 1) := by decide +kernel
theorem dL_1908 : decode code 1908 = .ok (.iconst 1, 1) := by decide +kernel
theorem dL_1909 : decode code 1909 = .ok (.iadd, 1) := by decide +kernel
theorem dL_1910 : decode code 1910 = .ok (.iaload, 1) := by decide +kernel
theorem dL_1911 : decode code 1911 = .ok (.invokevirtual 215, 3) := by decide +kernel
theorem dL_1914 : decode code 1914 = .ok (.aload_n 2, 1) := by decide +kernel
theorem dL_1915 : decode code 1915 = .ok (.aload_n 0, 1) := by decide +kernel
theorem dL_1916 : decode code 1916 = .ok (.iload_n 3, 1) := by decide +kernel
theorem dL_1917 : decode code 1917 = .ok (.iconst 1, 1) := by decide +kernel
theorem dL_1918 : decode code 1918 = .ok (.iadd, 1) := by decide +kernel
theorem dL_1919 : decode code 1919 = .ok (.iaload, 1) := by decide +kernel
theorem dL_1920 : decode code 1920 = .ok (.invokevirtual 218, 3) := by decide +kernel
theorem dL_1923 : decode code 1923 = .ok (.if_icmp .eq 612, 3) := by decide +kernel
theorem dL_1926 : decode code 1926 = .ok (.iconst 0, 1) := by decide +kernel
theorem dL_1927 : decode code 1927 = .ok (.ireturn, 1) := by decide +kernel
theorem dL_1928 : decode code 1928 = .ok (.aload_n 1, 1) := by decide +kernel
theorem dL_1929 : decode code 1929 = .ok (.aload_n 0, 1) := by decide +kernel
theorem dL_1930 : decode code 1930 = .ok (.iload_n 3, 1) := by decide +kernel
theorem dL_1931 : decode code 1931 = .ok (.iconst 1, 1) := by decide +kernel
theorem dL_1932 : decode code 1932 = .ok (.iadd, 1) := by decide +kernel
theorem dL_1933 : decode code 1933 = .ok (.iaload, 1) := by decide +kernel
theorem dL_1934 : decode code 1934 = .ok (.aload_n 0, 1) := by decide +kernel
theorem dL_1935 : decode code 1935 = .ok (.iload_n 3, 1) := by decide +kernel
theorem dL_1936 : decode code 1936 = .ok (.iconst 2, 1) := by decide +kernel
theorem dL_1937 : decode code 1937 = .ok (.iadd, 1) := by decide +kernel
theorem dL_1938 : decode code 1938 = .ok (.iaload, 1) := by decide +kernel
theorem dL_1939 : decode code 1939 = .ok (.aload_n 0, 1) := by decide +kernel
theorem dL_1940 : decode code 1940 = .ok (.iload_n 3, 1) := by decide +kernel
theorem dL_1941 : decode code 1941 = .ok (.iconst 3, 1) := by decide +kernel
theorem dL_1942 : decode code 1942 = .ok (.iadd, 1) := by decide +kernel
theorem dL_1943 : decode code 1943 = .ok (.iaload, 1) := by decide +kernel
theorem dL_1944 : decode code 1944 = .ok (.invokevirtual 219, 3) := by decide +kernel
theorem dL_1947 : decode code 1947 = .ok (.aload_n 2, 1) := by decide +kernel
theorem dL_1948 : decode code 1948 = .ok (.aload_n 0, 1) := by decide +kernel
theorem dL_1949 : decode code 1949 = .ok (.iload_n 3, 1) := by decide +kernel
theorem dL_1950 : decode code 1950 = .ok (.iconst 1, 1) := by decide +kernel
theorem dL_1951 : decode code 1951 = .ok (.iadd, 1) := by decide +kernel
theorem dL_1952 : decode code 1952 = .ok (.iaload, 1) := by decide +kernel
theorem dL_1953 : decode code 1953 = .ok (.aload_n 0, 1) := by decide +kernel
theorem dL_1954 : decode code 1954 = .ok (.iload_n 3, 1) := by decide +kernel
theorem dL_1955 : decode code 1955 = .ok (.iconst 2, 1) := by decide +kernel
theorem dL_1956 : decode code 1956 = .ok (.iadd, 1) := by decide +kernel
theorem dL_1957 : decode code 1957 = .ok (.iaload, 1) := by decide +kernel
theorem dL_1958 : decode code 1958 = .ok (.aload_n 0, 1) := by decide +kernel
theorem dL_1959 : decode code 1959 = .ok (.iload_n 3, 1) := by decide +kernel
theorem dL_1960 : decode code 1960 = .ok (.iconst 3, 1) := by decide +kernel
theorem dL_1961 : decode code 1961 = .ok (.iadd, 1) := by decide +kernel
theorem dL_1962 : decode code 1962 = .ok (.iaload, 1) := by decide +kernel
theorem dL_1963 : decode code 1963 = .ok (.invokevirtual 222, 3) := by decide +kernel
theorem dL_1966 : decode code 1966 = .ok (.if_icmp .eq 569, 3) := by decide +kernel
theorem dL_1969 : decode code 1969 = .ok (.iconst 0, 1) := by decide +kernel
theorem dL_1970 : decode code 1970 = .ok (.ireturn, 1) := by decide +kernel
theorem dL_1971 : decode code 1971 = .ok (.aload_n 1, 1) := by decide +kernel
theorem dL_1972 : decode code 1972 = .ok (.aload_n 0, 1) := by decide +kernel
theorem dL_1973 : decode code 1973 = .ok (.iload_n 3, 1) := by decide +kernel
theorem dL_1974 : decode code 1974 = .ok (.iconst 1, 1) := by decide +kernel
theorem dL_1975 : decode code 1975 = .ok (.iadd, 1) := by decide +kernel
theorem dL_1976 : decode code 1976 = .ok (.iaload, 1) := by decide +kernel
theorem dL_1977 : decode code 1977 = .ok (.invokevirtual 223, 3) := by decide +kernel
theorem dL_1980 : decode code 1980 = .ok (.aload_n 2, 1) := by decide +kernel
theorem dL_1981 : decode code 1981 = .ok (.aload_n 0, 1) := by decide +kernel
theorem dL_1982 : decode code 1982 = .ok (.iload_n 3, 1) := by decide +kernel
theorem dL_1983 : decode code 1983 = .ok (.iconst 1, 1) := by decide +kernel
theorem dL_1984 : decode code 1984 = .ok (.iadd, 1) := by decide +kernel
theorem dL_1985 : decode code 1985 = .ok (.iaload, 1) := by decide +kernel
