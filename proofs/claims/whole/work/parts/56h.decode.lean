/-! the law, its instructions -/
theorem dL_1568 : decode code 1568 = .ok (.aload_n 0, 1) := by decide +kernel
theorem dL_1569 : decode code 1569 = .ok (.iload_n 3, 1) := by decide +kernel
theorem dL_1570 : decode code 1570 = .ok (.iconst 1, 1) := by decide +kernel
theorem dL_1571 : decode code 1571 = .ok (.iadd, 1) := by decide +kernel
theorem dL_1572 : decode code 1572 = .ok (.iaload, 1) := by decide +kernel
theorem dL_1573 : decode code 1573 = .ok (.aload_n 0, 1) := by decide +kernel
theorem dL_1574 : decode code 1574 = .ok (.iload_n 3, 1) := by decide +kernel
theorem dL_1575 : decode code 1575 = .ok (.iconst 2, 1) := by decide +kernel
theorem dL_1576 : decode code 1576 = .ok (.iadd, 1) := by decide +kernel
theorem dL_1577 : decode code 1577 = .ok (.iaload, 1) := by decide +kernel
theorem dL_1578 : decode code 1578 = .ok (.aload_n 0, 1) := by decide +kernel
theorem dL_1579 : decode code 1579 = .ok (.iload_n 3, 1) := by decide +kernel
theorem dL_1580 : decode code 1580 = .ok (.iconst 3, 1) := by decide +kernel
theorem dL_1581 : decode code 1581 = .ok (.iadd, 1) := by decide +kernel
theorem dL_1582 : decode code 1582 = .ok (.iaload, 1) := by decide +kernel
theorem dL_1583 : decode code 1583 = .ok (.aload_n 0, 1) := by decide +kernel
theorem dL_1584 : decode code 1584 = .ok (.iload_n 3, 1) := by decide +kernel
theorem dL_1585 : decode code 1585 = .ok (.iconst 4, 1) := by decide +kernel
theorem dL_1586 : decode code 1586 = .ok (.iadd, 1) := by decide +kernel
theorem dL_1587 : decode code 1587 = .ok (.iaload, 1) := by decide +kernel
theorem dL_1588 : decode code 1588 = .ok (.aload_n 0, 1) := by decide +kernel
theorem dL_1589 : decode code 1589 = .ok (.iload_n 3, 1) := by decide +kernel
theorem dL_1590 : decode code 1590 = .ok (.iconst 5, 1) := by decide +kernel
theorem dL_1591 : decode code 1591 = .ok (.iadd, 1) := by decide +kernel
theorem dL_1592 : decode code 1592 = .ok (.iaload, 1) := by decide +kernel
theorem dL_1593 : decode code 1593 = .ok (.invokevirtual 198, 3) := by decide +kernel
theorem dL_1596 : decode code 1596 = .ok (.if_icmp .eq 156, 3) := by decide +kernel
theorem dL_1601 : decode code 1601 = .ok (.aload_n 1, 1) := by decide +kernel
theorem dL_1602 : decode code 1602 = .ok (.aload_n 0, 1) := by decide +kernel
theorem dL_1603 : decode code 1603 = .ok (.iload_n 3, 1) := by decide +kernel
theorem dL_1604 : decode code 1604 = .ok (.iconst 1, 1) := by decide +kernel
theorem dL_1605 : decode code 1605 = .ok (.iadd, 1) := by decide +kernel
theorem dL_1606 : decode code 1606 = .ok (.iaload, 1) := by decide +kernel
theorem dL_1607 : decode code 1607 = .ok (.aload_n 0, 1) := by decide +kernel
theorem dL_1608 : decode code 1608 = .ok (.iload_n 3, 1) := by decide +kernel
theorem dL_1609 : decode code 1609 = .ok (.iconst 2, 1) := by decide +kernel
theorem dL_1610 : decode code 1610 = .ok (.iadd, 1) := by decide +kernel
theorem dL_1611 : decode code 1611 = .ok (.iaload, 1) := by decide +kernel
theorem dL_1612 : decode code 1612 = .ok (.invokevirtual 199, 3) := by decide +kernel
theorem dL_1615 : decode code 1615 = .ok (.aload_n 2, 1) := by decide +kernel
theorem dL_1616 : decode code 1616 = .ok (.aload_n 0, 1) := by decide +kernel
theorem dL_1617 : decode code 1617 = .ok (.iload_n 3, 1) := by decide +kernel
theorem dL_1618 : decode code 1618 = .ok (.iconst 1, 1) := by decide +kernel
theorem dL_1619 : decode code 1619 = .ok (.iadd, 1) := by decide +kernel
theorem dL_1620 : decode code 1620 = .ok (.iaload, 1) := by decide +kernel
theorem dL_1621 : decode code 1621 = .ok (.aload_n 0, 1) := by decide +kernel
theorem dL_1622 : decode code 1622 = .ok (.iload_n 3, 1) := by decide +kernel
theorem dL_1623 : decode code 1623 = .ok (.iconst 2, 1) := by decide +kernel
theorem dL_1624 : decode code 1624 = .ok (.iadd, 1) := by decide +kernel
theorem dL_1625 : decode code 1625 = .ok (.iaload, 1) := by decide +kernel
theorem dL_1626 : decode code 1626 = .ok (.invokevirtual 202, 3) := by decide +kernel
theorem dL_1629 : decode code 1629 = .ok (.if_icmp .eq 123, 3) := by decide +kernel
theorem dL_1634 : decode code 1634 = .ok (.aload_n 1, 1) := by decide +kernel
theorem dL_1635 : decode code 1635 = .ok (.aload_n 0, 1) := by decide +kernel
theorem dL_1636 : decode code 1636 = .ok (.iload_n 3, 1) := by decide +kernel
theorem dL_1637 : decode code 1637 = .ok (.iconst 1, 1) := by decide +kernel
theorem dL_1638 : decode code 1638 = .ok (.iadd, 1) := by decide +kernel
theorem dL_1639 : decode code 1639 = .ok (.iaload, 1) := by decide +kernel
theorem dL_1640 : decode code 1640 = .ok (.aload_n 0, 1) := by decide +kernel
theorem dL_1641 : decode code 1641 = .ok (.iload_n 3, 1) := by decide +kernel
theorem dL_1642 : decode code 1642 = .ok (.iconst 2, 1) := by decide +kernel
theorem dL_1643 : decode code 1643 = .ok (.iadd, 1) := by decide +kernel
theorem dL_1644 : decode code 1644 = .ok (.iaload, 1) := by decide +kernel
theorem dL_1645 : decode code 1645 = .ok (.invokevirtual 203, 3) := by decide +kernel
theorem dL_1648 : decode code 1648 = .ok (.aload_n 2, 1) := by decide +kernel
theorem dL_1649 : decode code 1649 = .ok (.aload_n 0, 1) := by decide +kernel
theorem dL_1650 : decode code 1650 = .ok (.iload_n 3, 1) := by decide +kernel
theorem dL_1651 : decode code 1651 = .ok (.iconst 1, 1) := by decide +kernel
theorem dL_1652 : decode code 1652 = .ok (.iadd, 1) := by decide +kernel
theorem dL_1653 : decode code 1653 = .ok (.iaload, 1) := by decide +kernel
theorem dL_1654 : decode code 1654 = .ok (.aload_n 0, 1) := by decide +kernel
theorem dL_1655 : decode code 1655 = .ok (.iload_n 3, 1) := by decide +kernel
theorem dL_1656 : decode code 1656 = .ok (.iconst 2, 1) := by decide +kernel
theorem dL_1657 : decode code 1657 = .ok (.iadd, 1) := by decide +kernel
theorem dL_1658 : decode code 1658 = .ok (.iaload, 1) := by decide +kernel
theorem dL_1659 : decode code 1659 = .ok (.invokevirtual 206, 3) := by decide +kernel
theorem dL_1662 : decode code 1662 = .ok (.if_icmp .eq 90, 3) := by decide +kernel
theorem dL_1667 : decode code 1667 = .ok (.aload_n 1, 1) := by decide +kernel
theorem dL_1668 : decode code 1668 = .ok (.invokevirtual 207, 3) := by decide +kernel
theorem dL_1671 : decode code 1671 = .ok (.aload_n 2, 1) := by decide +kernel
theorem dL_1672 : decode code 1672 = .ok (.invokevirtual 210, 3) := by decide +kernel
theorem dL_1675 : decode code 1675 = .ok (.if_icmp .eq 77, 3) := by decide +kernel
theorem dL_1680 : decode code 1680 = .ok (.aload_n 1, 1) := by decide +kernel
theorem dL_1681 : decode code 1681 = .ok (.invokevirtual 211, 3) := by decide +kernel
theorem dL_1684 : decode code 1684 = .ok (.aload_n 2, 1) := by decide +kernel
theorem dL_1685 : decode code 1685 = .ok (.invokevirtual 214, 3) := by decide +kernel
theorem dL_1688 : decode code 1688 = .ok (.if_icmp .eq 64, 3) := by decide +kernel
theorem dL_1693 : decode code 1693 = .ok (.aload_n 1, 1) := by decide +kernel
theorem dL_1694 : decode code 1694 = .ok (.invokevirtual 215, 3) := by decide +kernel
theorem dL_1697 : decode code 1697 = .ok (.aload_n 2, 1) := by decide +kernel
theorem dL_1698 : decode code 1698 = .ok (.invokevirtual 218, 3) := by decide +kernel
theorem dL_1701 : decode code 1701 = .ok (.if_icmp .eq 51, 3) := by decide +kernel
theorem dL_1706 : decode code 1706 = .ok (.aload_n 1, 1) := by decide +kernel
theorem dL_1707 : decode code 1707 = .ok (.aload_n 0, 1) := by decide +kernel
theorem dL_1708 : decode code 1708 = .ok (.iload_n 3, 1) := by decide +kernel
theorem dL_1709 : decode code 1709 = .ok (.iconst 1, 1) := by decide +kernel
theorem dL_1710 : decode code 1710 = .ok (.iadd, 1) := by decide +kernel
theorem dL_1711 : decode code 1711 = .ok (.iaload, 1) := by decide +kernel
theorem dL_1712 : decode code 1712 = .ok (.invokevirtual 219, 3) := by decide +kernel
theorem dL_1715 : decode code 1715 = .ok (.aload_n 2, 1) := by decide +kernel
theorem dL_1716 : decode code 1716 = .ok (.aload_n 0, 1) := by decide +kernel
theorem dL_1717 : decode code 1717 = .ok (.iload_n 3, 1) := by decide +kernel
theorem dL_1718 : decode code 1718 = .ok (.iconst 1, 1) := by decide +kernel
theorem dL_1719 : decode code 1719 = .ok (.iadd, 1) := by decide +kernel
theorem dL_1720 : decode code 1720 = .ok (.iaload, 1) := by decide +kernel
theorem dL_1721 : decode code 1721 = .ok (.invokevirtual 222, 3) := by decide +kernel
theorem dL_1724 : decode code 1724 = .ok (.if_icmp .eq 28, 3) := by decide +kernel
theorem dL_1729 : decode code 1729 = .ok (.aload_n 1, 1) := by decide +kernel
theorem dL_1730 : decode code 1730 = .ok (.aload_n 0, 1) := by decide +kernel
theorem dL_1731 : decode code 1731 = .ok (.iload_n 3, 1) := by decide +kernel
theorem dL_1732 : decode code 1732 = .ok (.iconst 1, 1) := by decide +kernel
theorem dL_1733 : decode code 1733 = .ok (.iadd, 1) := by decide +kernel
theorem dL_1734 : decode code 1734 = .ok (.iaload, 1) := by decide +kernel
theorem dL_1735 : decode code 1735 = .ok (.invokevirtual 223, 3) := by decide +kernel
theorem dL_1738 : decode code 1738 = .ok (.aload_n 2, 1) := by decide +kernel
theorem dL_1739 : decode code 1739 = .ok (.aload_n 0, 1) := by decide +kernel
theorem dL_1740 : decode code 1740 = .ok (.iload_n 3, 1) := by decide +kernel
theorem dL_1741 : decode code 1741 = .ok (.iconst 1, 1) := by decide +kernel
theorem dL_1742 : decode code 1742 = .ok (.iadd, 1) := by decide +kernel
theorem dL_1743 : decode code 1743 = .ok (.iaload, 1) := by decide +kernel
theorem dL_1744 : decode code 1744 = .ok (.invokevirtual 226, 3) := by decide +kernel
theorem dL_1747 : decode code 1747 = .ok (.if_icmp .eq 5, 3) := by decide +kernel
theorem dL_1752 : decode code 1752 = .ok (.iinc 3 6, 3) := by decide +kernel
theorem dL_1755 : decode code 1755 = .ok (.goto (-1737), 3) := by decide +kernel
theorem dL_1758 : decode code 1758 = .ok (.iconst 1, 1) := by decide +kernel
theorem dL_1759 : decode code 1759 = .ok (.ireturn, 1) := by decide +kernel
