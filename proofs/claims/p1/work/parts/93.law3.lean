theorem dL_law_1434 : decode cL_law 1434 = .ok (.aload_n 1, 1) := by decide +kernel
theorem dL_law_1435 : decode cL_law 1435 = .ok (.aload_n 0, 1) := by decide +kernel
theorem dL_law_1436 : decode cL_law 1436 = .ok (.iload_n 3, 1) := by decide +kernel
theorem dL_law_1437 : decode cL_law 1437 = .ok (.iconst 1, 1) := by decide +kernel
theorem dL_law_1438 : decode cL_law 1438 = .ok (.iadd, 1) := by decide +kernel
theorem dL_law_1439 : decode cL_law 1439 = .ok (.iaload, 1) := by decide +kernel
theorem dL_law_1440 : decode cL_law 1440 = .ok (.invokevirtual 163, 3) := by decide +kernel
theorem dL_law_1443 : decode cL_law 1443 = .ok (.aload_n 2, 1) := by decide +kernel
theorem dL_law_1444 : decode cL_law 1444 = .ok (.aload_n 0, 1) := by decide +kernel
theorem dL_law_1445 : decode cL_law 1445 = .ok (.iload_n 3, 1) := by decide +kernel
theorem dL_law_1446 : decode cL_law 1446 = .ok (.iconst 1, 1) := by decide +kernel
theorem dL_law_1447 : decode cL_law 1447 = .ok (.iadd, 1) := by decide +kernel
theorem dL_law_1448 : decode cL_law 1448 = .ok (.iaload, 1) := by decide +kernel
theorem dL_law_1449 : decode cL_law 1449 = .ok (.invokevirtual 166, 3) := by decide +kernel
theorem dL_law_1452 : decode cL_law 1452 = .ok (.if_icmp .eq 226, 3) := by decide +kernel
theorem dL_law_1457 : decode cL_law 1457 = .ok (.aload_n 1, 1) := by decide +kernel
theorem dL_law_1458 : decode cL_law 1458 = .ok (.aload_n 0, 1) := by decide +kernel
theorem dL_law_1459 : decode cL_law 1459 = .ok (.iload_n 3, 1) := by decide +kernel
theorem dL_law_1460 : decode cL_law 1460 = .ok (.iconst 1, 1) := by decide +kernel
theorem dL_law_1461 : decode cL_law 1461 = .ok (.iadd, 1) := by decide +kernel
theorem dL_law_1462 : decode cL_law 1462 = .ok (.iaload, 1) := by decide +kernel
theorem dL_law_1463 : decode cL_law 1463 = .ok (.invokevirtual 167, 3) := by decide +kernel
theorem dL_law_1466 : decode cL_law 1466 = .ok (.aload_n 2, 1) := by decide +kernel
theorem dL_law_1467 : decode cL_law 1467 = .ok (.aload_n 0, 1) := by decide +kernel
theorem dL_law_1468 : decode cL_law 1468 = .ok (.iload_n 3, 1) := by decide +kernel
theorem dL_law_1469 : decode cL_law 1469 = .ok (.iconst 1, 1) := by decide +kernel
theorem dL_law_1470 : decode cL_law 1470 = .ok (.iadd, 1) := by decide +kernel
theorem dL_law_1471 : decode cL_law 1471 = .ok (.iaload, 1) := by decide +kernel
theorem dL_law_1472 : decode cL_law 1472 = .ok (.invokevirtual 170, 3) := by decide +kernel
theorem dL_law_1475 : decode cL_law 1475 = .ok (.if_icmp .eq 203, 3) := by decide +kernel
theorem dL_law_1480 : decode cL_law 1480 = .ok (.aload_n 1, 1) := by decide +kernel
theorem dL_law_1481 : decode cL_law 1481 = .ok (.aload_n 0, 1) := by decide +kernel
theorem dL_law_1482 : decode cL_law 1482 = .ok (.iload_n 3, 1) := by decide +kernel
theorem dL_law_1483 : decode cL_law 1483 = .ok (.iconst 1, 1) := by decide +kernel
theorem dL_law_1484 : decode cL_law 1484 = .ok (.iadd, 1) := by decide +kernel
theorem dL_law_1485 : decode cL_law 1485 = .ok (.iaload, 1) := by decide +kernel
theorem dL_law_1486 : decode cL_law 1486 = .ok (.aload_n 0, 1) := by decide +kernel
theorem dL_law_1487 : decode cL_law 1487 = .ok (.iload_n 3, 1) := by decide +kernel
theorem dL_law_1488 : decode cL_law 1488 = .ok (.iconst 2, 1) := by decide +kernel
theorem dL_law_1489 : decode cL_law 1489 = .ok (.iadd, 1) := by decide +kernel
theorem dL_law_1490 : decode cL_law 1490 = .ok (.iaload, 1) := by decide +kernel
theorem dL_law_1491 : decode cL_law 1491 = .ok (.invokevirtual 171, 3) := by decide +kernel
theorem dL_law_1494 : decode cL_law 1494 = .ok (.aload_n 2, 1) := by decide +kernel
theorem dL_law_1495 : decode cL_law 1495 = .ok (.aload_n 0, 1) := by decide +kernel
theorem dL_law_1496 : decode cL_law 1496 = .ok (.iload_n 3, 1) := by decide +kernel
theorem dL_law_1497 : decode cL_law 1497 = .ok (.iconst 1, 1) := by decide +kernel
theorem dL_law_1498 : decode cL_law 1498 = .ok (.iadd, 1) := by decide +kernel
theorem dL_law_1499 : decode cL_law 1499 = .ok (.iaload, 1) := by decide +kernel
theorem dL_law_1500 : decode cL_law 1500 = .ok (.aload_n 0, 1) := by decide +kernel
theorem dL_law_1501 : decode cL_law 1501 = .ok (.iload_n 3, 1) := by decide +kernel
theorem dL_law_1502 : decode cL_law 1502 = .ok (.iconst 2, 1) := by decide +kernel
theorem dL_law_1503 : decode cL_law 1503 = .ok (.iadd, 1) := by decide +kernel
theorem dL_law_1504 : decode cL_law 1504 = .ok (.iaload, 1) := by decide +kernel
theorem dL_law_1505 : decode cL_law 1505 = .ok (.invokevirtual 174, 3) := by decide +kernel
theorem dL_law_1508 : decode cL_law 1508 = .ok (.if_icmp .eq 170, 3) := by decide +kernel
theorem dL_law_1513 : decode cL_law 1513 = .ok (.aload_n 1, 1) := by decide +kernel
theorem dL_law_1514 : decode cL_law 1514 = .ok (.aload_n 0, 1) := by decide +kernel
theorem dL_law_1515 : decode cL_law 1515 = .ok (.iload_n 3, 1) := by decide +kernel
theorem dL_law_1516 : decode cL_law 1516 = .ok (.iconst 1, 1) := by decide +kernel
theorem dL_law_1517 : decode cL_law 1517 = .ok (.iadd, 1) := by decide +kernel
theorem dL_law_1518 : decode cL_law 1518 = .ok (.iaload, 1) := by decide +kernel
theorem dL_law_1519 : decode cL_law 1519 = .ok (.invokevirtual 175, 3) := by decide +kernel
theorem dL_law_1522 : decode cL_law 1522 = .ok (.aload_n 2, 1) := by decide +kernel
theorem dL_law_1523 : decode cL_law 1523 = .ok (.aload_n 0, 1) := by decide +kernel
theorem dL_law_1524 : decode cL_law 1524 = .ok (.iload_n 3, 1) := by decide +kernel
theorem dL_law_1525 : decode cL_law 1525 = .ok (.iconst 1, 1) := by decide +kernel
theorem dL_law_1526 : decode cL_law 1526 = .ok (.iadd, 1) := by decide +kernel
theorem dL_law_1527 : decode cL_law 1527 = .ok (.iaload, 1) := by decide +kernel
theorem dL_law_1528 : decode cL_law 1528 = .ok (.invokevirtual 179, 3) := by decide +kernel
theorem dL_law_1531 : decode cL_law 1531 = .ok (.lcmp, 1) := by decide +kernel
theorem dL_law_1532 : decode cL_law 1532 = .ok (.ifCond .eq 146, 3) := by decide +kernel
theorem dL_law_1537 : decode cL_law 1537 = .ok (.aload_n 1, 1) := by decide +kernel
theorem dL_law_1538 : decode cL_law 1538 = .ok (.invokevirtual 180, 3) := by decide +kernel
theorem dL_law_1541 : decode cL_law 1541 = .ok (.aload_n 2, 1) := by decide +kernel
theorem dL_law_1542 : decode cL_law 1542 = .ok (.invokevirtual 183, 3) := by decide +kernel
theorem dL_law_1545 : decode cL_law 1545 = .ok (.if_icmp .eq 133, 3) := by decide +kernel
theorem dL_law_1550 : decode cL_law 1550 = .ok (.aload_n 1, 1) := by decide +kernel
theorem dL_law_1551 : decode cL_law 1551 = .ok (.aload_n 0, 1) := by decide +kernel
theorem dL_law_1552 : decode cL_law 1552 = .ok (.iload_n 3, 1) := by decide +kernel
theorem dL_law_1553 : decode cL_law 1553 = .ok (.iconst 1, 1) := by decide +kernel
theorem dL_law_1554 : decode cL_law 1554 = .ok (.iadd, 1) := by decide +kernel
theorem dL_law_1555 : decode cL_law 1555 = .ok (.iaload, 1) := by decide +kernel
theorem dL_law_1556 : decode cL_law 1556 = .ok (.aload_n 0, 1) := by decide +kernel
theorem dL_law_1557 : decode cL_law 1557 = .ok (.iload_n 3, 1) := by decide +kernel
theorem dL_law_1558 : decode cL_law 1558 = .ok (.iconst 2, 1) := by decide +kernel
theorem dL_law_1559 : decode cL_law 1559 = .ok (.iadd, 1) := by decide +kernel
theorem dL_law_1560 : decode cL_law 1560 = .ok (.iaload, 1) := by decide +kernel
theorem dL_law_1561 : decode cL_law 1561 = .ok (.invokevirtual 184, 3) := by decide +kernel
theorem dL_law_1564 : decode cL_law 1564 = .ok (.aload_n 2, 1) := by decide +kernel
theorem dL_law_1565 : decode cL_law 1565 = .ok (.aload_n 0, 1) := by decide +kernel
theorem dL_law_1566 : decode cL_law 1566 = .ok (.iload_n 3, 1) := by decide +kernel
theorem dL_law_1567 : decode cL_law 1567 = .ok (.iconst 1, 1) := by decide +kernel
theorem dL_law_1568 : decode cL_law 1568 = .ok (.iadd, 1) := by decide +kernel
theorem dL_law_1569 : decode cL_law 1569 = .ok (.iaload, 1) := by decide +kernel
theorem dL_law_1570 : decode cL_law 1570 = .ok (.aload_n 0, 1) := by decide +kernel
theorem dL_law_1571 : decode cL_law 1571 = .ok (.iload_n 3, 1) := by decide +kernel
theorem dL_law_1572 : decode cL_law 1572 = .ok (.iconst 2, 1) := by decide +kernel
theorem dL_law_1573 : decode cL_law 1573 = .ok (.iadd, 1) := by decide +kernel
theorem dL_law_1574 : decode cL_law 1574 = .ok (.iaload, 1) := by decide +kernel
theorem dL_law_1575 : decode cL_law 1575 = .ok (.invokevirtual 187, 3) := by decide +kernel
theorem dL_law_1578 : decode cL_law 1578 = .ok (.if_icmp .eq 100, 3) := by decide +kernel
theorem dL_law_1583 : decode cL_law 1583 = .ok (.aload_n 1, 1) := by decide +kernel
theorem dL_law_1584 : decode cL_law 1584 = .ok (.invokevirtual 188, 3) := by decide +kernel
theorem dL_law_1587 : decode cL_law 1587 = .ok (.aload_n 2, 1) := by decide +kernel
theorem dL_law_1588 : decode cL_law 1588 = .ok (.invokevirtual 191, 3) := by decide +kernel
theorem dL_law_1591 : decode cL_law 1591 = .ok (.if_icmp .eq 87, 3) := by decide +kernel
theorem dL_law_1596 : decode cL_law 1596 = .ok (.aload_n 1, 1) := by decide +kernel
theorem dL_law_1597 : decode cL_law 1597 = .ok (.aload_n 0, 1) := by decide +kernel
theorem dL_law_1598 : decode cL_law 1598 = .ok (.iload_n 3, 1) := by decide +kernel
theorem dL_law_1599 : decode cL_law 1599 = .ok (.iconst 1, 1) := by decide +kernel
theorem dL_law_1600 : decode cL_law 1600 = .ok (.iadd, 1) := by decide +kernel
theorem dL_law_1601 : decode cL_law 1601 = .ok (.iaload, 1) := by decide +kernel
theorem dL_law_1602 : decode cL_law 1602 = .ok (.invokevirtual 192, 3) := by decide +kernel
theorem dL_law_1605 : decode cL_law 1605 = .ok (.aload_n 2, 1) := by decide +kernel
theorem dL_law_1606 : decode cL_law 1606 = .ok (.aload_n 0, 1) := by decide +kernel
theorem dL_law_1607 : decode cL_law 1607 = .ok (.iload_n 3, 1) := by decide +kernel
theorem dL_law_1608 : decode cL_law 1608 = .ok (.iconst 1, 1) := by decide +kernel
theorem dL_law_1609 : decode cL_law 1609 = .ok (.iadd, 1) := by decide +kernel
theorem dL_law_1610 : decode cL_law 1610 = .ok (.iaload, 1) := by decide +kernel
theorem dL_law_1611 : decode cL_law 1611 = .ok (.invokevirtual 195, 3) := by decide +kernel
theorem dL_law_1614 : decode cL_law 1614 = .ok (.if_icmp .eq 64, 3) := by decide +kernel
theorem dL_law_1619 : decode cL_law 1619 = .ok (.aload_n 1, 1) := by decide +kernel
theorem dL_law_1620 : decode cL_law 1620 = .ok (.aload_n 0, 1) := by decide +kernel
theorem dL_law_1621 : decode cL_law 1621 = .ok (.iload_n 3, 1) := by decide +kernel
theorem dL_law_1622 : decode cL_law 1622 = .ok (.iconst 1, 1) := by decide +kernel
theorem dL_law_1623 : decode cL_law 1623 = .ok (.iadd, 1) := by decide +kernel
theorem dL_law_1624 : decode cL_law 1624 = .ok (.iaload, 1) := by decide +kernel
theorem dL_law_1625 : decode cL_law 1625 = .ok (.invokevirtual 196, 3) := by decide +kernel
theorem dL_law_1628 : decode cL_law 1628 = .ok (.aload_n 2, 1) := by decide +kernel
theorem dL_law_1629 : decode cL_law 1629 = .ok (.aload_n 0, 1) := by decide +kernel
theorem dL_law_1630 : decode cL_law 1630 = .ok (.iload_n 3, 1) := by decide +kernel
theorem dL_law_1631 : decode cL_law 1631 = .ok (.iconst 1, 1) := by decide +kernel
theorem dL_law_1632 : decode cL_law 1632 = .ok (.iadd, 1) := by decide +kernel
theorem dL_law_1633 : decode cL_law 1633 = .ok (.iaload, 1) := by decide +kernel
theorem dL_law_1634 : decode cL_law 1634 = .ok (.invokevirtual 199, 3) := by decide +kernel
theorem dL_law_1637 : decode cL_law 1637 = .ok (.if_icmp .eq 41, 3) := by decide +kernel
theorem dL_law_1642 : decode cL_law 1642 = .ok (.aload_n 1, 1) := by decide +kernel
theorem dL_law_1643 : decode cL_law 1643 = .ok (.aload_n 0, 1) := by decide +kernel
theorem dL_law_1644 : decode cL_law 1644 = .ok (.iload_n 3, 1) := by decide +kernel
theorem dL_law_1645 : decode cL_law 1645 = .ok (.iconst 1, 1) := by decide +kernel
theorem dL_law_1646 : decode cL_law 1646 = .ok (.iadd, 1) := by decide +kernel
theorem dL_law_1647 : decode cL_law 1647 = .ok (.iaload, 1) := by decide +kernel
theorem dL_law_1648 : decode cL_law 1648 = .ok (.invokevirtual 200, 3) := by decide +kernel
theorem dL_law_1651 : decode cL_law 1651 = .ok (.aload_n 2, 1) := by decide +kernel
theorem dL_law_1652 : decode cL_law 1652 = .ok (.aload_n 0, 1) := by decide +kernel
theorem dL_law_1653 : decode cL_law 1653 = .ok (.iload_n 3, 1) := by decide +kernel
theorem dL_law_1654 : decode cL_law 1654 = .ok (.iconst 1, 1) := by decide +kernel
theorem dL_law_1655 : decode cL_law 1655 = .ok (.iadd, 1) := by decide +kernel
theorem dL_law_1656 : decode cL_law 1656 = .ok (.iaload, 1) := by decide +kernel
theorem dL_law_1657 : decode cL_law 1657 = .ok (.invokevirtual 203, 3) := by decide +kernel
theorem dL_law_1660 : decode cL_law 1660 = .ok (.if_icmp .eq 18, 3) := by decide +kernel
theorem dL_law_1665 : decode cL_law 1665 = .ok (.aload_n 1, 1) := by decide +kernel
theorem dL_law_1666 : decode cL_law 1666 = .ok (.invokevirtual 204, 3) := by decide +kernel
theorem dL_law_1669 : decode cL_law 1669 = .ok (.aload_n 2, 1) := by decide +kernel
theorem dL_law_1670 : decode cL_law 1670 = .ok (.invokevirtual 207, 3) := by decide +kernel
theorem dL_law_1673 : decode cL_law 1673 = .ok (.if_icmp .eq 5, 3) := by decide +kernel
set_option maxRecDepth 20000 in
theorem gv_law36_163_X11_choose : GoodIn lw_tbl (wsV RL 163 RX11 yX11_choose v_X11_choose) := goodIn_app (goodIn_r _ [1268, 1269, 1270, 103] (by decide +kernel) (by decide +kernel)) (gi tb_X11_choose gd_X11_choose)
set_option maxRecDepth 20000 in
theorem gv_law36_166_X12_choose : GoodIn lw_tbl (wsV RL 166 RX12 yX12_choose v_X12_choose) := goodIn_app (goodIn_r _ [2027, 2028, 2029, 114] (by decide +kernel) (by decide +kernel)) (gi tb_X12_choose gd_X12_choose)
set_option maxHeartbeats 4000000 in
set_option maxRecDepth 100000 in
theorem law_case_36 {p : Program} {e : Env} {s : State} {m : MethodId} {below : List Frame} {meth : Method} {c : Code} (l : Launch) (G : va_G) (cI cJ cZ cD cR cT : ClassId) {b : Nat} {xs : Nat → Int32} (h0 k0 h0_0 h0_1 h0_2 h0_3 h0_6 h0_7 h0_8 h0_10 h0_11 h0_13 h0_0_0 h0_0_1 h0_0_2 h0_0_3 h0_0_4 h0_0_5 h0_0_8 h0_0_15 h0_0_16 k0_2 k0_3 k0_4 k0_5 k0_9 k0_10 k0_11 k0_20 k0_22 k0_23 k0_25 k0_26 k0_29 k0_30 k0_31 k0_32 k0_39 k0_40 k0_42 k0_44 k0_45 : Nat) {H : Heap} {locs : List Loc} {ls : Array Slot} (hx : p.tables.exec = Jvm.exec) (hb : c.code = code) (hr : meth.sig.returnType = ret) (hml : c.maxLocals = 4) (hown : s.vm.findClass RL = some m.cls) (hts : ∀ w ∈ lw_tbl, w.before #[Value.ref b] s = true) (hX : va_X b 6 xs s s.heap) (hbl : b < s.heap.size) (hlocks : meth.locks = false) (hKK : KK G (tys6 cI cJ cZ cD cR cT) s) (hP : va_P G vwCl [(h0, .inr (11, [.ref h0_0, .ref h0_1, .ref h0_2, .ref h0_3, .int 0, .int 0, .ref h0_6, .ref h0_7, .ref h0_8, .int 0, .ref h0_10, .ref h0_11, .int 0, .ref h0_13, .int 0, .int 0])), (h0_0, .inr (0, [.ref h0_0_0, .ref h0_0_1, .ref h0_0_2, .ref h0_0_3, .ref h0_0_4, .ref h0_0_5, .int 0, .int 0, .ref h0_0_8, .int 0, .int 0, .int 0, .int 0, .long 0, .int 0, .ref h0_0_15, .ref h0_0_16])), (k0, .inr (12, [.int 0, .int 0, .ref k0_2, .ref k0_3, .ref k0_4, .ref k0_5, .int 0, .int 0, .int 0, .ref k0_9, .ref k0_10, .ref k0_11, .int 0, .int 0, .int 0, .int 0, .long 0, .int (-1), .int 0, .int 0, .ref k0_20, .int 0, .ref k0_22, .ref k0_23, .int 0, .ref k0_25, .ref k0_26, .int 0, .int 0, .ref k0_29, .ref k0_30, .ref k0_31, .ref k0_32, .int 0, .long 0, .long 0, .long 0, .long 0, .int 0, .ref k0_39, .ref k0_40, .int 0, .ref k0_42, .int 0, .ref k0_44, .ref k0_45, .int 0, .int 0, .int 0, .int 0, .int 0, .int 0])), (k0_2, .inl (cI, 35942, .inl mrow))] H) (hD : va_D (fun q : Nat => s.heap.size ≤ q) [(h0, .inr (11, [.ref h0_0, .ref h0_1, .ref h0_2, .ref h0_3, .int 0, .int 0, .ref h0_6, .ref h0_7, .ref h0_8, .int 0, .ref h0_10, .ref h0_11, .int 0, .ref h0_13, .int 0, .int 0])), (h0_0, .inr (0, [.ref h0_0_0, .ref h0_0_1, .ref h0_0_2, .ref h0_0_3, .ref h0_0_4, .ref h0_0_5, .int 0, .int 0, .ref h0_0_8, .int 0, .int 0, .int 0, .int 0, .long 0, .int 0, .ref h0_0_15, .ref h0_0_16])), (k0, .inr (12, [.int 0, .int 0, .ref k0_2, .ref k0_3, .ref k0_4, .ref k0_5, .int 0, .int 0, .int 0, .ref k0_9, .ref k0_10, .ref k0_11, .int 0, .int 0, .int 0, .int 0, .long 0, .int (-1), .int 0, .int 0, .ref k0_20, .int 0, .ref k0_22, .ref k0_23, .int 0, .ref k0_25, .ref k0_26, .int 0, .int 0, .ref k0_29, .ref k0_30, .ref k0_31, .ref k0_32, .int 0, .long 0, .long 0, .long 0, .long 0, .int 0, .ref k0_39, .ref k0_40, .int 0, .ref k0_42, .int 0, .ref k0_44, .ref k0_45, .int 0, .int 0, .int 0, .int 0, .int 0, .int 0])), (k0_2, .inl (cI, 35942, .inl mrow))]) (hS : va_S (fun q : Nat => s.heap.size ≤ q) s.heap H locs) (hl : lv_has ls 4 [(3, .int 0), (2, .ref k0), (1, .ref h0), (0, .ref b)]) : W p l e room_1 s m #[Value.ref b] below meth c H locs 221 158368 (lw_Z below #[Value.ref b] s) (F0 m 1434 ls []) := by
  have hK := hKK.1
  have hA : ∀ q : Nat, s.heap.size ≤ q → (fun q : Nat => s.heap.size ≤ q) q := fun _ h => h
  have hbA : ¬ (fun q : Nat => s.heap.size ≤ q) b := Nat.not_le.mpr hbl
  refine lv_aload_n hx hb dL_law_1434 rfl (lv_at hl 2 rfl) ?_
  refine lv_aload_n hx hb dL_law_1435 rfl (lv_at hl 3 rfl) ?_
  refine lv_iload_n hx hb dL_law_1436 rfl (lv_at hl 0 rfl) ?_
  refine lv_iconst (v := 1) hx hb dL_law_1437 (by decide) ?_
  refine lv_iadd hx hb dL_law_1438 ?_
  refine lv_topi (fun x1 ex1 => ?_)
  obtain rfl : 1 = x1 := (ex1.trans (by decide)).symm
  refine va_sld hx hb hX hbl hbA hS (vp_in_iff.mpr (by decide)) dL_law_1439 ?_
  refine lv_topi (fun x2 ex2 => ?_)
  obtain rfl : xs 1 = x2 := (ex2.trans rfl).symm
  refine goV (As := [.int (xs 1)]) (rest := []) (wr := [(k0, .inr (12, [.int 0, .int 0, .ref k0_2, .ref k0_3, .ref k0_4, .ref k0_5, .int 0, .int 0, .int 0, .ref k0_9, .ref k0_10, .ref k0_11, .int 0, .int 0, .int 0, .int 0, .long 0, .int (-1), .int 0, .int 0, .ref k0_20, .int 0, .ref k0_22, .ref k0_23, .int 0, .ref k0_25, .ref k0_26, .int 0, .int 0, .ref k0_29, .ref k0_30, .ref k0_31, .ref k0_32, .int 0, .long 0, .long 0, .long 0, .long 0, .int 0, .ref k0_39, .ref k0_40, .int 0, .ref k0_42, .int 0, .ref k0_44, .ref k0_45, .int 0, .int 0, .int 0, .int 0, .int 0, .int 0])), (k0_2, .inl (cI, 35942, .inl mrow))]) ⟨hx, hb, hml, hown, hts⟩ (c_X11_choose l G cI cJ cZ cD cR cT h0 (xs 1) h0_0 h0_1 h0_2 h0_3 h0_6 h0_7 h0_8 h0_10 h0_11 h0_13 h0_0_0 h0_0_1 h0_0_2 h0_0_3 h0_0_4 h0_0_5 h0_0_8 h0_0_15 h0_0_16 _) (cwV 1 hts gv_law36_163_X11_choose rfl rfl rfl (by decide +kernel) ⟨Nat.le_of_ble_eq_true rfl, Nat.le_of_ble_eq_true rfl⟩) 0 rfl rfl rfl hKK hP hD hS hA [0, 1] [2, 3] rfl rfl (by decide +kernel) (by decide +kernel) (by decide +kernel) rfl hl.1 rfl (lv_room (Nat.le_of_ble_eq_true rfl)) dL_law_1440 ⟨Nat.le_of_ble_eq_true rfl, Nat.le_of_ble_eq_true rfl⟩ (fun v4 q3 gq3 H locs hv4 => appW (ws' := [(k0, .inr (12, [.int 0, .int 0, .ref k0_2, .ref k0_3, .ref k0_4, .ref k0_5, .int 0, .int 0, .int 0, .ref k0_9, .ref k0_10, .ref k0_11, .int 0, .int 0, .int 0, .int 0, .long 0, .int (-1), .int 0, .int 0, .ref k0_20, .int 0, .ref k0_22, .ref k0_23, .int 0, .ref k0_25, .ref k0_26, .int 0, .int 0, .ref k0_29, .ref k0_30, .ref k0_31, .ref k0_32, .int 0, .long 0, .long 0, .long 0, .long 0, .int 0, .ref k0_39, .ref k0_40, .int 0, .ref k0_42, .int 0, .ref k0_44, .ref k0_45, .int 0, .int 0, .int 0, .int 0, .int 0, .int 0])), (k0_2, .inl (cI, 35942, .inl mrow))]) rfl (fun hP hD hS => ?_))
  obtain ⟨r5, rfl, hr5⟩ := hv4
  refine lv_aload_n hx hb dL_law_1443 rfl (lv_at hl 1 rfl) ?_
  refine lv_aload_n hx hb dL_law_1444 rfl (lv_at hl 3 rfl) ?_
  refine lv_iload_n hx hb dL_law_1445 rfl (lv_at hl 0 rfl) ?_
  refine lv_iconst (v := 1) hx hb dL_law_1446 (by decide) ?_
  refine lv_iadd hx hb dL_law_1447 ?_
  refine lv_topi (fun x6 ex6 => ?_)
  obtain rfl : 1 = x6 := (ex6.trans (by decide)).symm
  refine va_sld hx hb hX hbl hbA hS (vp_in_iff.mpr (by decide)) dL_law_1448 ?_
  refine lv_topi (fun x7 ex7 => ?_)
  obtain rfl : xs 1 = x7 := (ex7.trans rfl).symm
  refine goV (As := [.int (xs 1)]) (rest := [.int r5]) (wr := []) ⟨hx, hb, hml, hown, hts⟩ (c_X12_choose l G cI cJ cZ cD cR cT k0 (xs 1) k0_2 k0_3 k0_4 k0_5 k0_9 k0_10 k0_11 k0_20 k0_22 k0_23 k0_25 k0_26 k0_29 k0_30 k0_31 k0_32 k0_39 k0_40 k0_42 k0_44 k0_45 _) (cwV 1 hts gv_law36_166_X12_choose rfl rfl rfl (by decide +kernel) ⟨Nat.le_of_ble_eq_true rfl, Nat.le_of_ble_eq_true rfl⟩) 0 rfl rfl rfl hKK hP hD hS hA [0, 1] [] rfl rfl (by decide +kernel) (by decide +kernel) (by decide +kernel) rfl hl.1 rfl (lv_room (Nat.le_of_ble_eq_true rfl)) dL_law_1449 ⟨Nat.le_of_ble_eq_true rfl, Nat.le_of_ble_eq_true rfl⟩ (fun v9 q8 gq8 H locs hv9 => appW (ws' := []) rfl (fun hP hD hS => ?_))
  obtain ⟨r10, rfl, hr10⟩ := hv9
  refine lv_icmp_eq (tgt := 1678) hx hb dL_law_1452 (by decide) (fun _ => ?_) (fun c => absurd (hr5.trans hr10.symm) c)
  refine lv_iinc (v := 6) (lv' := [(3, .int 6), (2, .ref k0), (1, .ref h0), (0, .ref b)]) hx hb dL_law_1678 hl (k := 0) rfl (by decide) (by decide) rfl (fun ls hl => ?_)
  refine lv_goto (tgt := 18) hx hb dL_law_1681 (by decide) ?_
  refine lv_iload_n hx hb dL_law_18 rfl (lv_at hl 0 rfl) ?_
  refine lv_aload_n hx hb dL_law_19 rfl (lv_at hl 3 rfl) ?_
  refine va_slen hx hb hX hbl hbA hS dL_law_20 ?_
  refine lv_topi (fun x11 ex11 => ?_)
  obtain rfl : 6 = x11 := (ex11.trans rfl).symm
  refine lv_bipush (v := 6) hx hb dL_law_21 (by decide) ?_
  refine lv_isub hx hb dL_law_23 ?_
  refine lv_topi (fun x12 ex12 => ?_)
  obtain rfl : 0 = x12 := (ex12.trans (by decide)).symm
  refine lv_icmp_gt (tgt := 1684) hx hb dL_law_24 (by decide) (fun _ => ?_) (fun c => absurd c (by decide))
  refine lv_iconst (v := 1) hx hb dL_law_1684 (by decide) ?_
  refine va_forget (fun q h => hS.2.2 q h) ?_
  refine W.widen (k := 600000) (n := 7302250) (Nat.le_of_ble_eq_true rfl) (Nat.le_of_ble_eq_true rfl) ?_
  exact W.base (lw_ret (Drawn.sameBut.refl s.drawn lw_cs) hx hb hr hlocks dL_law_1685)
set_option maxRecDepth 20000 in
theorem gv_law37_167_X11_chosen : GoodIn lw_tbl (wsV RL 167 RX11 yX11_chosen v_X11_chosen) := goodIn_app (goodIn_r _ [1323, 1324, 1325, 103] (by decide +kernel) (by decide +kernel)) (gi tb_X11_chosen gd_X11_chosen)
set_option maxRecDepth 20000 in
theorem gv_law37_170_X12_chosen : GoodIn lw_tbl (wsV RL 170 RX12 yX12_chosen v_X12_chosen) := goodIn_app (goodIn_r _ [2051, 2052, 2053, 114] (by decide +kernel) (by decide +kernel)) (gi tb_X12_chosen gd_X12_chosen)
set_option maxHeartbeats 4000000 in
set_option maxRecDepth 100000 in
theorem law_case_37 {p : Program} {e : Env} {s : State} {m : MethodId} {below : List Frame} {meth : Method} {c : Code} (l : Launch) (G : va_G) (cI cJ cZ cD cR cT : ClassId) {b : Nat} {xs : Nat → Int32} (h0 k0 h0_0 h0_1 h0_2 h0_3 h0_6 h0_7 h0_8 h0_10 h0_11 h0_13 k0_2 k0_3 k0_4 k0_5 k0_9 k0_10 k0_11 k0_20 k0_22 k0_23 k0_25 k0_26 k0_29 k0_30 k0_31 k0_32 k0_39 k0_40 k0_42 k0_44 k0_45 : Nat) {H : Heap} {locs : List Loc} {ls : Array Slot} (hx : p.tables.exec = Jvm.exec) (hb : c.code = code) (hr : meth.sig.returnType = ret) (hml : c.maxLocals = 4) (hown : s.vm.findClass RL = some m.cls) (hts : ∀ w ∈ lw_tbl, w.before #[Value.ref b] s = true) (hX : va_X b 6 xs s s.heap) (hbl : b < s.heap.size) (hlocks : meth.locks = false) (hKK : KK G (tys6 cI cJ cZ cD cR cT) s) (hP : va_P G vwCl [(h0, .inr (11, [.ref h0_0, .ref h0_1, .ref h0_2, .ref h0_3, .int 0, .int 0, .ref h0_6, .ref h0_7, .ref h0_8, .int 0, .ref h0_10, .ref h0_11, .int 0, .ref h0_13, .int 0, .int 0])), (k0, .inr (12, [.int 0, .int 0, .ref k0_2, .ref k0_3, .ref k0_4, .ref k0_5, .int 0, .int 0, .int 0, .ref k0_9, .ref k0_10, .ref k0_11, .int 0, .int 0, .int 0, .int 0, .long 0, .int (-1), .int 0, .int 0, .ref k0_20, .int 0, .ref k0_22, .ref k0_23, .int 0, .ref k0_25, .ref k0_26, .int 0, .int 0, .ref k0_29, .ref k0_30, .ref k0_31, .ref k0_32, .int 0, .long 0, .long 0, .long 0, .long 0, .int 0, .ref k0_39, .ref k0_40, .int 0, .ref k0_42, .int 0, .ref k0_44, .ref k0_45, .int 0, .int 0, .int 0, .int 0, .int 0, .int 0]))] H) (hD : va_D (fun q : Nat => s.heap.size ≤ q) [(h0, .inr (11, [.ref h0_0, .ref h0_1, .ref h0_2, .ref h0_3, .int 0, .int 0, .ref h0_6, .ref h0_7, .ref h0_8, .int 0, .ref h0_10, .ref h0_11, .int 0, .ref h0_13, .int 0, .int 0])), (k0, .inr (12, [.int 0, .int 0, .ref k0_2, .ref k0_3, .ref k0_4, .ref k0_5, .int 0, .int 0, .int 0, .ref k0_9, .ref k0_10, .ref k0_11, .int 0, .int 0, .int 0, .int 0, .long 0, .int (-1), .int 0, .int 0, .ref k0_20, .int 0, .ref k0_22, .ref k0_23, .int 0, .ref k0_25, .ref k0_26, .int 0, .int 0, .ref k0_29, .ref k0_30, .ref k0_31, .ref k0_32, .int 0, .long 0, .long 0, .long 0, .long 0, .int 0, .ref k0_39, .ref k0_40, .int 0, .ref k0_42, .int 0, .ref k0_44, .ref k0_45, .int 0, .int 0, .int 0, .int 0, .int 0, .int 0]))]) (hS : va_S (fun q : Nat => s.heap.size ≤ q) s.heap H locs) (hl : lv_has ls 4 [(3, .int 0), (2, .ref k0), (1, .ref h0), (0, .ref b)]) : W p l e room_1 s m #[Value.ref b] below meth c H locs 221 158368 (lw_Z below #[Value.ref b] s) (F0 m 1457 ls []) := by
  have hK := hKK.1
  have hA : ∀ q : Nat, s.heap.size ≤ q → (fun q : Nat => s.heap.size ≤ q) q := fun _ h => h
  have hbA : ¬ (fun q : Nat => s.heap.size ≤ q) b := Nat.not_le.mpr hbl
  refine lv_aload_n hx hb dL_law_1457 rfl (lv_at hl 2 rfl) ?_
  refine lv_aload_n hx hb dL_law_1458 rfl (lv_at hl 3 rfl) ?_
  refine lv_iload_n hx hb dL_law_1459 rfl (lv_at hl 0 rfl) ?_
  refine lv_iconst (v := 1) hx hb dL_law_1460 (by decide) ?_
  refine lv_iadd hx hb dL_law_1461 ?_
  refine lv_topi (fun x1 ex1 => ?_)
  obtain rfl : 1 = x1 := (ex1.trans (by decide)).symm
  refine va_sld hx hb hX hbl hbA hS (vp_in_iff.mpr (by decide)) dL_law_1462 ?_
  refine lv_topi (fun x2 ex2 => ?_)
  obtain rfl : xs 1 = x2 := (ex2.trans rfl).symm
  refine goV (As := [.int (xs 1)]) (rest := []) (wr := [(k0, .inr (12, [.int 0, .int 0, .ref k0_2, .ref k0_3, .ref k0_4, .ref k0_5, .int 0, .int 0, .int 0, .ref k0_9, .ref k0_10, .ref k0_11, .int 0, .int 0, .int 0, .int 0, .long 0, .int (-1), .int 0, .int 0, .ref k0_20, .int 0, .ref k0_22, .ref k0_23, .int 0, .ref k0_25, .ref k0_26, .int 0, .int 0, .ref k0_29, .ref k0_30, .ref k0_31, .ref k0_32, .int 0, .long 0, .long 0, .long 0, .long 0, .int 0, .ref k0_39, .ref k0_40, .int 0, .ref k0_42, .int 0, .ref k0_44, .ref k0_45, .int 0, .int 0, .int 0, .int 0, .int 0, .int 0]))]) ⟨hx, hb, hml, hown, hts⟩ (c_X11_chosen l G cI cJ cZ cD cR cT h0 (xs 1) h0_0 h0_1 h0_2 h0_3 h0_6 h0_7 h0_8 h0_10 h0_11 h0_13 _) (cwV 1 hts gv_law37_167_X11_chosen rfl rfl rfl (by decide +kernel) ⟨Nat.le_of_ble_eq_true rfl, Nat.le_of_ble_eq_true rfl⟩) 0 rfl rfl rfl hKK hP hD hS hA [0] [1] rfl rfl (by decide +kernel) (by decide +kernel) (by decide +kernel) rfl hl.1 rfl (lv_room (Nat.le_of_ble_eq_true rfl)) dL_law_1463 ⟨Nat.le_of_ble_eq_true rfl, Nat.le_of_ble_eq_true rfl⟩ (fun v4 q3 gq3 H locs hv4 => appW (ws' := [(k0, .inr (12, [.int 0, .int 0, .ref k0_2, .ref k0_3, .ref k0_4, .ref k0_5, .int 0, .int 0, .int 0, .ref k0_9, .ref k0_10, .ref k0_11, .int 0, .int 0, .int 0, .int 0, .long 0, .int (-1), .int 0, .int 0, .ref k0_20, .int 0, .ref k0_22, .ref k0_23, .int 0, .ref k0_25, .ref k0_26, .int 0, .int 0, .ref k0_29, .ref k0_30, .ref k0_31, .ref k0_32, .int 0, .long 0, .long 0, .long 0, .long 0, .int 0, .ref k0_39, .ref k0_40, .int 0, .ref k0_42, .int 0, .ref k0_44, .ref k0_45, .int 0, .int 0, .int 0, .int 0, .int 0, .int 0]))]) rfl (fun hP hD hS => ?_))
  obtain ⟨r5, rfl, hr5⟩ := hv4
  refine lv_aload_n hx hb dL_law_1466 rfl (lv_at hl 1 rfl) ?_
  refine lv_aload_n hx hb dL_law_1467 rfl (lv_at hl 3 rfl) ?_
  refine lv_iload_n hx hb dL_law_1468 rfl (lv_at hl 0 rfl) ?_
  refine lv_iconst (v := 1) hx hb dL_law_1469 (by decide) ?_
  refine lv_iadd hx hb dL_law_1470 ?_
  refine lv_topi (fun x6 ex6 => ?_)
  obtain rfl : 1 = x6 := (ex6.trans (by decide)).symm
  refine va_sld hx hb hX hbl hbA hS (vp_in_iff.mpr (by decide)) dL_law_1471 ?_
  refine lv_topi (fun x7 ex7 => ?_)
  obtain rfl : xs 1 = x7 := (ex7.trans rfl).symm
  refine goV (As := [.int (xs 1)]) (rest := [.int r5]) (wr := []) ⟨hx, hb, hml, hown, hts⟩ (c_X12_chosen l G cI cJ cZ cD cR cT k0 (xs 1) k0_2 k0_3 k0_4 k0_5 k0_9 k0_10 k0_11 k0_20 k0_22 k0_23 k0_25 k0_26 k0_29 k0_30 k0_31 k0_32 k0_39 k0_40 k0_42 k0_44 k0_45 _) (cwV 1 hts gv_law37_170_X12_chosen rfl rfl rfl (by decide +kernel) ⟨Nat.le_of_ble_eq_true rfl, Nat.le_of_ble_eq_true rfl⟩) 0 rfl rfl rfl hKK hP hD hS hA [0] [] rfl rfl (by decide +kernel) (by decide +kernel) (by decide +kernel) rfl hl.1 rfl (lv_room (Nat.le_of_ble_eq_true rfl)) dL_law_1472 ⟨Nat.le_of_ble_eq_true rfl, Nat.le_of_ble_eq_true rfl⟩ (fun v9 q8 gq8 H locs hv9 => appW (ws' := []) rfl (fun hP hD hS => ?_))
  obtain ⟨r10, rfl, hr10⟩ := hv9
  refine lv_icmp_eq (tgt := 1678) hx hb dL_law_1475 (by decide) (fun _ => ?_) (fun c => absurd (hr5.trans hr10.symm) c)
  refine lv_iinc (v := 6) (lv' := [(3, .int 6), (2, .ref k0), (1, .ref h0), (0, .ref b)]) hx hb dL_law_1678 hl (k := 0) rfl (by decide) (by decide) rfl (fun ls hl => ?_)
  refine lv_goto (tgt := 18) hx hb dL_law_1681 (by decide) ?_
  refine lv_iload_n hx hb dL_law_18 rfl (lv_at hl 0 rfl) ?_
  refine lv_aload_n hx hb dL_law_19 rfl (lv_at hl 3 rfl) ?_
  refine va_slen hx hb hX hbl hbA hS dL_law_20 ?_
  refine lv_topi (fun x11 ex11 => ?_)
  obtain rfl : 6 = x11 := (ex11.trans rfl).symm
  refine lv_bipush (v := 6) hx hb dL_law_21 (by decide) ?_
  refine lv_isub hx hb dL_law_23 ?_
  refine lv_topi (fun x12 ex12 => ?_)
  obtain rfl : 0 = x12 := (ex12.trans (by decide)).symm
  refine lv_icmp_gt (tgt := 1684) hx hb dL_law_24 (by decide) (fun _ => ?_) (fun c => absurd c (by decide))
  refine lv_iconst (v := 1) hx hb dL_law_1684 (by decide) ?_
  refine va_forget (fun q h => hS.2.2 q h) ?_
  refine W.widen (k := 600000) (n := 7302250) (Nat.le_of_ble_eq_true rfl) (Nat.le_of_ble_eq_true rfl) ?_
  exact W.base (lw_ret (Drawn.sameBut.refl s.drawn lw_cs) hx hb hr hlocks dL_law_1685)
set_option maxRecDepth 20000 in
theorem gv_law38_171_X11_judge : GoodIn lw_tbl (wsV RL 171 RX11 yX11_judge v_X11_judge) := goodIn_app (goodIn_r _ [1327, 1328, 1329, 103] (by decide +kernel) (by decide +kernel)) (gi tb_X11_judge gd_X11_judge)
set_option maxRecDepth 20000 in
theorem gv_law38_174_X12_judge : GoodIn lw_tbl (wsV RL 174 RX12 yX12_judge v_X12_judge) := goodIn_app (goodIn_r _ [2055, 2056, 2057, 114] (by decide +kernel) (by decide +kernel)) (gi tb_X12_judge gd_X12_judge)
set_option maxHeartbeats 4000000 in
set_option maxRecDepth 100000 in
theorem law_case_38 {p : Program} {e : Env} {s : State} {m : MethodId} {below : List Frame} {meth : Method} {c : Code} (l : Launch) (G : va_G) (cI cJ cZ cD cR cT : ClassId) {b : Nat} {xs : Nat → Int32} (h0 k0 h0_0 h0_1 h0_2 h0_3 h0_6 h0_7 h0_8 h0_10 h0_11 h0_13 h0_0_0 h0_0_1 h0_0_2 h0_0_3 h0_0_4 h0_0_5 h0_0_8 h0_0_15 h0_0_16 k0_2 k0_3 k0_4 k0_5 k0_9 k0_10 k0_11 k0_20 k0_22 k0_23 k0_25 k0_26 k0_29 k0_30 k0_31 k0_32 k0_39 k0_40 k0_42 k0_44 k0_45 : Nat) {H : Heap} {locs : List Loc} {ls : Array Slot} (hx : p.tables.exec = Jvm.exec) (hb : c.code = code) (hr : meth.sig.returnType = ret) (hml : c.maxLocals = 4) (hown : s.vm.findClass RL = some m.cls) (hts : ∀ w ∈ lw_tbl, w.before #[Value.ref b] s = true) (hX : va_X b 6 xs s s.heap) (hbl : b < s.heap.size) (hlocks : meth.locks = false) (hKK : KK G (tys6 cI cJ cZ cD cR cT) s) (hP : va_P G vwCl [(h0, .inr (11, [.ref h0_0, .ref h0_1, .ref h0_2, .ref h0_3, .int 0, .int 0, .ref h0_6, .ref h0_7, .ref h0_8, .int 0, .ref h0_10, .ref h0_11, .int 0, .ref h0_13, .int 0, .int 0])), (h0_0, .inr (0, [.ref h0_0_0, .ref h0_0_1, .ref h0_0_2, .ref h0_0_3, .ref h0_0_4, .ref h0_0_5, .int 0, .int 0, .ref h0_0_8, .int 0, .int 0, .int 0, .int 0, .long 0, .int 0, .ref h0_0_15, .ref h0_0_16])), (k0, .inr (12, [.int 0, .int 0, .ref k0_2, .ref k0_3, .ref k0_4, .ref k0_5, .int 0, .int 0, .int 0, .ref k0_9, .ref k0_10, .ref k0_11, .int 0, .int 0, .int 0, .int 0, .long 0, .int (-1), .int 0, .int 0, .ref k0_20, .int 0, .ref k0_22, .ref k0_23, .int 0, .ref k0_25, .ref k0_26, .int 0, .int 0, .ref k0_29, .ref k0_30, .ref k0_31, .ref k0_32, .int 0, .long 0, .long 0, .long 0, .long 0, .int 0, .ref k0_39, .ref k0_40, .int 0, .ref k0_42, .int 0, .ref k0_44, .ref k0_45, .int 0, .int 0, .int 0, .int 0, .int 0, .int 0])), (k0_2, .inl (cI, 35942, .inl mrow))] H) (hD : va_D (fun q : Nat => s.heap.size ≤ q) [(h0, .inr (11, [.ref h0_0, .ref h0_1, .ref h0_2, .ref h0_3, .int 0, .int 0, .ref h0_6, .ref h0_7, .ref h0_8, .int 0, .ref h0_10, .ref h0_11, .int 0, .ref h0_13, .int 0, .int 0])), (h0_0, .inr (0, [.ref h0_0_0, .ref h0_0_1, .ref h0_0_2, .ref h0_0_3, .ref h0_0_4, .ref h0_0_5, .int 0, .int 0, .ref h0_0_8, .int 0, .int 0, .int 0, .int 0, .long 0, .int 0, .ref h0_0_15, .ref h0_0_16])), (k0, .inr (12, [.int 0, .int 0, .ref k0_2, .ref k0_3, .ref k0_4, .ref k0_5, .int 0, .int 0, .int 0, .ref k0_9, .ref k0_10, .ref k0_11, .int 0, .int 0, .int 0, .int 0, .long 0, .int (-1), .int 0, .int 0, .ref k0_20, .int 0, .ref k0_22, .ref k0_23, .int 0, .ref k0_25, .ref k0_26, .int 0, .int 0, .ref k0_29, .ref k0_30, .ref k0_31, .ref k0_32, .int 0, .long 0, .long 0, .long 0, .long 0, .int 0, .ref k0_39, .ref k0_40, .int 0, .ref k0_42, .int 0, .ref k0_44, .ref k0_45, .int 0, .int 0, .int 0, .int 0, .int 0, .int 0])), (k0_2, .inl (cI, 35942, .inl mrow))]) (hS : va_S (fun q : Nat => s.heap.size ≤ q) s.heap H locs) (hl : lv_has ls 4 [(3, .int 0), (2, .ref k0), (1, .ref h0), (0, .ref b)]) : W p l e room_1 s m #[Value.ref b] below meth c H locs 221 158368 (lw_Z below #[Value.ref b] s) (F0 m 1480 ls []) := by
  have hK := hKK.1
  have hA : ∀ q : Nat, s.heap.size ≤ q → (fun q : Nat => s.heap.size ≤ q) q := fun _ h => h
  have hbA : ¬ (fun q : Nat => s.heap.size ≤ q) b := Nat.not_le.mpr hbl
  refine lv_aload_n hx hb dL_law_1480 rfl (lv_at hl 2 rfl) ?_
  refine lv_aload_n hx hb dL_law_1481 rfl (lv_at hl 3 rfl) ?_
  refine lv_iload_n hx hb dL_law_1482 rfl (lv_at hl 0 rfl) ?_
  refine lv_iconst (v := 1) hx hb dL_law_1483 (by decide) ?_
  refine lv_iadd hx hb dL_law_1484 ?_
  refine lv_topi (fun x1 ex1 => ?_)
  obtain rfl : 1 = x1 := (ex1.trans (by decide)).symm
  refine va_sld hx hb hX hbl hbA hS (vp_in_iff.mpr (by decide)) dL_law_1485 ?_
  refine lv_topi (fun x2 ex2 => ?_)
  obtain rfl : xs 1 = x2 := (ex2.trans rfl).symm
  refine lv_aload_n hx hb dL_law_1486 rfl (lv_at hl 3 rfl) ?_
  refine lv_iload_n hx hb dL_law_1487 rfl (lv_at hl 0 rfl) ?_
  refine lv_iconst (v := 2) hx hb dL_law_1488 (by decide) ?_
  refine lv_iadd hx hb dL_law_1489 ?_
  refine lv_topi (fun x3 ex3 => ?_)
  obtain rfl : 2 = x3 := (ex3.trans (by decide)).symm
  refine va_sld hx hb hX hbl hbA hS (vp_in_iff.mpr (by decide)) dL_law_1490 ?_
  refine lv_topi (fun x4 ex4 => ?_)
  obtain rfl : xs 2 = x4 := (ex4.trans rfl).symm
  refine goV (As := [.int (xs 1), .int (xs 2)]) (rest := []) (wr := [(k0, .inr (12, [.int 0, .int 0, .ref k0_2, .ref k0_3, .ref k0_4, .ref k0_5, .int 0, .int 0, .int 0, .ref k0_9, .ref k0_10, .ref k0_11, .int 0, .int 0, .int 0, .int 0, .long 0, .int (-1), .int 0, .int 0, .ref k0_20, .int 0, .ref k0_22, .ref k0_23, .int 0, .ref k0_25, .ref k0_26, .int 0, .int 0, .ref k0_29, .ref k0_30, .ref k0_31, .ref k0_32, .int 0, .long 0, .long 0, .long 0, .long 0, .int 0, .ref k0_39, .ref k0_40, .int 0, .ref k0_42, .int 0, .ref k0_44, .ref k0_45, .int 0, .int 0, .int 0, .int 0, .int 0, .int 0])), (k0_2, .inl (cI, 35942, .inl mrow))]) ⟨hx, hb, hml, hown, hts⟩ (c_X11_judge l G cI cJ cZ cD cR cT h0 (xs 1) (xs 2) h0_0 h0_1 h0_2 h0_3 h0_6 h0_7 h0_8 h0_10 h0_11 h0_13 h0_0_0 h0_0_1 h0_0_2 h0_0_3 h0_0_4 h0_0_5 h0_0_8 h0_0_15 h0_0_16 _) (cwV 2 hts gv_law38_171_X11_judge rfl rfl rfl (by decide +kernel) ⟨Nat.le_of_ble_eq_true rfl, Nat.le_of_ble_eq_true rfl⟩) 0 rfl rfl rfl hKK hP hD hS hA [0, 1] [2, 3] rfl rfl (by decide +kernel) (by decide +kernel) (by decide +kernel) rfl hl.1 rfl (lv_room (Nat.le_of_ble_eq_true rfl)) dL_law_1491 ⟨Nat.le_of_ble_eq_true rfl, Nat.le_of_ble_eq_true rfl⟩ (fun v6 q5 gq5 H locs hv6 => appW (ws' := [(k0, .inr (12, [.int 0, .int 0, .ref k0_2, .ref k0_3, .ref k0_4, .ref k0_5, .int 0, .int 0, .int 0, .ref k0_9, .ref k0_10, .ref k0_11, .int 0, .int 0, .int 0, .int 0, .long 0, .int (-1), .int 0, .int 0, .ref k0_20, .int 0, .ref k0_22, .ref k0_23, .int 0, .ref k0_25, .ref k0_26, .int 0, .int 0, .ref k0_29, .ref k0_30, .ref k0_31, .ref k0_32, .int 0, .long 0, .long 0, .long 0, .long 0, .int 0, .ref k0_39, .ref k0_40, .int 0, .ref k0_42, .int 0, .ref k0_44, .ref k0_45, .int 0, .int 0, .int 0, .int 0, .int 0, .int 0])), (k0_2, .inl (cI, 35942, .inl mrow))]) rfl (fun hP hD hS => ?_))
  obtain ⟨r7, rfl, hr7⟩ := hv6
  refine lv_aload_n hx hb dL_law_1494 rfl (lv_at hl 1 rfl) ?_
  refine lv_aload_n hx hb dL_law_1495 rfl (lv_at hl 3 rfl) ?_
  refine lv_iload_n hx hb dL_law_1496 rfl (lv_at hl 0 rfl) ?_
  refine lv_iconst (v := 1) hx hb dL_law_1497 (by decide) ?_
  refine lv_iadd hx hb dL_law_1498 ?_
  refine lv_topi (fun x8 ex8 => ?_)
  obtain rfl : 1 = x8 := (ex8.trans (by decide)).symm
  refine va_sld hx hb hX hbl hbA hS (vp_in_iff.mpr (by decide)) dL_law_1499 ?_
  refine lv_topi (fun x9 ex9 => ?_)
  obtain rfl : xs 1 = x9 := (ex9.trans rfl).symm
  refine lv_aload_n hx hb dL_law_1500 rfl (lv_at hl 3 rfl) ?_
  refine lv_iload_n hx hb dL_law_1501 rfl (lv_at hl 0 rfl) ?_
  refine lv_iconst (v := 2) hx hb dL_law_1502 (by decide) ?_
  refine lv_iadd hx hb dL_law_1503 ?_
  refine lv_topi (fun x10 ex10 => ?_)
  obtain rfl : 2 = x10 := (ex10.trans (by decide)).symm
  refine va_sld hx hb hX hbl hbA hS (vp_in_iff.mpr (by decide)) dL_law_1504 ?_
  refine lv_topi (fun x11 ex11 => ?_)
  obtain rfl : xs 2 = x11 := (ex11.trans rfl).symm
  refine goV (As := [.int (xs 1), .int (xs 2)]) (rest := [.int r7]) (wr := []) ⟨hx, hb, hml, hown, hts⟩ (c_X12_judge l G cI cJ cZ cD cR cT k0 (xs 1) (xs 2) k0_2 k0_3 k0_4 k0_5 k0_9 k0_10 k0_11 k0_20 k0_22 k0_23 k0_25 k0_26 k0_29 k0_30 k0_31 k0_32 k0_39 k0_40 k0_42 k0_44 k0_45 _) (cwV 2 hts gv_law38_174_X12_judge rfl rfl rfl (by decide +kernel) ⟨Nat.le_of_ble_eq_true rfl, Nat.le_of_ble_eq_true rfl⟩) 0 rfl rfl rfl hKK hP hD hS hA [0, 1] [] rfl rfl (by decide +kernel) (by decide +kernel) (by decide +kernel) rfl hl.1 rfl (lv_room (Nat.le_of_ble_eq_true rfl)) dL_law_1505 ⟨Nat.le_of_ble_eq_true rfl, Nat.le_of_ble_eq_true rfl⟩ (fun v13 q12 gq12 H locs hv13 => appW (ws' := []) rfl (fun hP hD hS => ?_))
  obtain ⟨r14, rfl, hr14⟩ := hv13
  refine lv_icmp_eq (tgt := 1678) hx hb dL_law_1508 (by decide) (fun _ => ?_) (fun c => absurd (hr7.trans hr14.symm) c)
  refine lv_iinc (v := 6) (lv' := [(3, .int 6), (2, .ref k0), (1, .ref h0), (0, .ref b)]) hx hb dL_law_1678 hl (k := 0) rfl (by decide) (by decide) rfl (fun ls hl => ?_)
  refine lv_goto (tgt := 18) hx hb dL_law_1681 (by decide) ?_
  refine lv_iload_n hx hb dL_law_18 rfl (lv_at hl 0 rfl) ?_
  refine lv_aload_n hx hb dL_law_19 rfl (lv_at hl 3 rfl) ?_
  refine va_slen hx hb hX hbl hbA hS dL_law_20 ?_
  refine lv_topi (fun x15 ex15 => ?_)
  obtain rfl : 6 = x15 := (ex15.trans rfl).symm
  refine lv_bipush (v := 6) hx hb dL_law_21 (by decide) ?_
  refine lv_isub hx hb dL_law_23 ?_
  refine lv_topi (fun x16 ex16 => ?_)
  obtain rfl : 0 = x16 := (ex16.trans (by decide)).symm
  refine lv_icmp_gt (tgt := 1684) hx hb dL_law_24 (by decide) (fun _ => ?_) (fun c => absurd c (by decide))
  refine lv_iconst (v := 1) hx hb dL_law_1684 (by decide) ?_
  refine va_forget (fun q h => hS.2.2 q h) ?_
  refine W.widen (k := 600000) (n := 7302250) (Nat.le_of_ble_eq_true rfl) (Nat.le_of_ble_eq_true rfl) ?_
  exact W.base (lw_ret (Drawn.sameBut.refl s.drawn lw_cs) hx hb hr hlocks dL_law_1685)
set_option maxRecDepth 20000 in
theorem gv_law39_175_X11_beside : GoodIn lw_tbl (wsV RL 175 RX11 yX11_beside v_X11_beside) := goodIn_app (goodIn_r _ [1331, 1332, 1333, 103] (by decide +kernel) (by decide +kernel)) (gi tb_X11_beside gd_X11_beside)
set_option maxRecDepth 20000 in
theorem gv_law39_179_X12_beside : GoodIn lw_tbl (wsV RL 179 RX12 yX12_beside v_X12_beside) := goodIn_app (goodIn_r _ [2059, 2060, 2061, 114] (by decide +kernel) (by decide +kernel)) (gi tb_X12_beside gd_X12_beside)
set_option maxHeartbeats 4000000 in
set_option maxRecDepth 100000 in
theorem law_case_39 {p : Program} {e : Env} {s : State} {m : MethodId} {below : List Frame} {meth : Method} {c : Code} (l : Launch) (G : va_G) (cI cJ cZ cD cR cT : ClassId) {b : Nat} {xs : Nat → Int32} (h0 k0 h0_0 h0_1 h0_2 h0_3 h0_6 h0_7 h0_8 h0_10 h0_11 h0_13 h0_0_0 h0_0_1 h0_0_2 h0_0_3 h0_0_4 h0_0_5 h0_0_8 h0_0_15 h0_0_16 h0_0_4_1 h0_0_4_2 h0_0_4_3 h0_6_1 h0_6_2 h0_7_3 h0_7_4 h0_7_5 h0_7_6 h0_7_7 h0_7_9 h0_7_10 h0_7_12 h0_7_13 h0_7_14 k0_2 k0_3 k0_4 k0_5 k0_9 k0_10 k0_11 k0_20 k0_22 k0_23 k0_25 k0_26 k0_29 k0_30 k0_31 k0_32 k0_39 k0_40 k0_42 k0_44 k0_45 : Nat) {H : Heap} {locs : List Loc} {ls : Array Slot} (hx : p.tables.exec = Jvm.exec) (hb : c.code = code) (hr : meth.sig.returnType = ret) (hml : c.maxLocals = 4) (hown : s.vm.findClass RL = some m.cls) (hts : ∀ w ∈ lw_tbl, w.before #[Value.ref b] s = true) (hX : va_X b 6 xs s s.heap) (hbl : b < s.heap.size) (hlocks : meth.locks = false) (hKK : KK G (tys6 cI cJ cZ cD cR cT) s) (hP : va_P G vwCl [(h0, .inr (11, [.ref h0_0, .ref h0_1, .ref h0_2, .ref h0_3, .int 0, .int 0, .ref h0_6, .ref h0_7, .ref h0_8, .int 0, .ref h0_10, .ref h0_11, .int 0, .ref h0_13, .int 0, .int 0])), (h0_0, .inr (0, [.ref h0_0_0, .ref h0_0_1, .ref h0_0_2, .ref h0_0_3, .ref h0_0_4, .ref h0_0_5, .int 0, .int 0, .ref h0_0_8, .int 0, .int 0, .int 0, .int 0, .long 0, .int 0, .ref h0_0_15, .ref h0_0_16])), (h0_0_4, .inr (2, [.int 0, .ref h0_0_4_1, .ref h0_0_4_2, .ref h0_0_4_3])), (h0_6, .inr (8, [.int 0, .ref h0_6_1, .ref h0_6_2, .int 0])), (h0_7, .inr (5, [.int (-1), .int 0, .int 0, .ref h0_7_3, .ref h0_7_4, .ref h0_7_5, .ref h0_7_6, .ref h0_7_7, .int 0, .ref h0_7_9, .ref h0_7_10, .int 0, .ref h0_7_12, .ref h0_7_13, .ref h0_7_14, .int 0, .int 0])), (h0_7_3, .inl (cI, 12, .inl (fun _ => 0))), (h0_7_4, .inl (cI, 12, .inl (fun _ => 0))), (h0_7_5, .inl (cI, 12, .inl (fun _ => 0))), (h0_7_6, .inl (cI, 12, .inl (fun _ => 0))), (h0_7_7, .inl (cI, 12, .inl (fun _ => 0))), (h0_7_12, .inl (cI, 401, .inl (fun _ => 0))), (h0_7_13, .inl (cI, 401, .inl (fun _ => 0))), (k0, .inr (12, [.int 0, .int 0, .ref k0_2, .ref k0_3, .ref k0_4, .ref k0_5, .int 0, .int 0, .int 0, .ref k0_9, .ref k0_10, .ref k0_11, .int 0, .int 0, .int 0, .int 0, .long 0, .int (-1), .int 0, .int 0, .ref k0_20, .int 0, .ref k0_22, .ref k0_23, .int 0, .ref k0_25, .ref k0_26, .int 0, .int 0, .ref k0_29, .ref k0_30, .ref k0_31, .ref k0_32, .int 0, .long 0, .long 0, .long 0, .long 0, .int 0, .ref k0_39, .ref k0_40, .int 0, .ref k0_42, .int 0, .ref k0_44, .ref k0_45, .int 0, .int 0, .int 0, .int 0, .int 0, .int 0])), (k0_2, .inl (cI, 35942, .inl mrow)), (k0_4, .inl (cI, 35942, .inl (fun _ => 0)))] H) (hD : va_D (fun q : Nat => s.heap.size ≤ q) [(h0, .inr (11, [.ref h0_0, .ref h0_1, .ref h0_2, .ref h0_3, .int 0, .int 0, .ref h0_6, .ref h0_7, .ref h0_8, .int 0, .ref h0_10, .ref h0_11, .int 0, .ref h0_13, .int 0, .int 0])), (h0_0, .inr (0, [.ref h0_0_0, .ref h0_0_1, .ref h0_0_2, .ref h0_0_3, .ref h0_0_4, .ref h0_0_5, .int 0, .int 0, .ref h0_0_8, .int 0, .int 0, .int 0, .int 0, .long 0, .int 0, .ref h0_0_15, .ref h0_0_16])), (h0_0_4, .inr (2, [.int 0, .ref h0_0_4_1, .ref h0_0_4_2, .ref h0_0_4_3])), (h0_6, .inr (8, [.int 0, .ref h0_6_1, .ref h0_6_2, .int 0])), (h0_7, .inr (5, [.int (-1), .int 0, .int 0, .ref h0_7_3, .ref h0_7_4, .ref h0_7_5, .ref h0_7_6, .ref h0_7_7, .int 0, .ref h0_7_9, .ref h0_7_10, .int 0, .ref h0_7_12, .ref h0_7_13, .ref h0_7_14, .int 0, .int 0])), (h0_7_3, .inl (cI, 12, .inl (fun _ => 0))), (h0_7_4, .inl (cI, 12, .inl (fun _ => 0))), (h0_7_5, .inl (cI, 12, .inl (fun _ => 0))), (h0_7_6, .inl (cI, 12, .inl (fun _ => 0))), (h0_7_7, .inl (cI, 12, .inl (fun _ => 0))), (h0_7_12, .inl (cI, 401, .inl (fun _ => 0))), (h0_7_13, .inl (cI, 401, .inl (fun _ => 0))), (k0, .inr (12, [.int 0, .int 0, .ref k0_2, .ref k0_3, .ref k0_4, .ref k0_5, .int 0, .int 0, .int 0, .ref k0_9, .ref k0_10, .ref k0_11, .int 0, .int 0, .int 0, .int 0, .long 0, .int (-1), .int 0, .int 0, .ref k0_20, .int 0, .ref k0_22, .ref k0_23, .int 0, .ref k0_25, .ref k0_26, .int 0, .int 0, .ref k0_29, .ref k0_30, .ref k0_31, .ref k0_32, .int 0, .long 0, .long 0, .long 0, .long 0, .int 0, .ref k0_39, .ref k0_40, .int 0, .ref k0_42, .int 0, .ref k0_44, .ref k0_45, .int 0, .int 0, .int 0, .int 0, .int 0, .int 0])), (k0_2, .inl (cI, 35942, .inl mrow)), (k0_4, .inl (cI, 35942, .inl (fun _ => 0)))]) (hS : va_S (fun q : Nat => s.heap.size ≤ q) s.heap H locs) (hl : lv_has ls 4 [(3, .int 0), (2, .ref k0), (1, .ref h0), (0, .ref b)]) : W p l e room_1 s m #[Value.ref b] below meth c H locs 221 158368 (lw_Z below #[Value.ref b] s) (F0 m 1513 ls []) := by
  have hK := hKK.1
  have hA : ∀ q : Nat, s.heap.size ≤ q → (fun q : Nat => s.heap.size ≤ q) q := fun _ h => h
  have hbA : ¬ (fun q : Nat => s.heap.size ≤ q) b := Nat.not_le.mpr hbl
  refine lv_aload_n hx hb dL_law_1513 rfl (lv_at hl 2 rfl) ?_
  refine lv_aload_n hx hb dL_law_1514 rfl (lv_at hl 3 rfl) ?_
  refine lv_iload_n hx hb dL_law_1515 rfl (lv_at hl 0 rfl) ?_
  refine lv_iconst (v := 1) hx hb dL_law_1516 (by decide) ?_
  refine lv_iadd hx hb dL_law_1517 ?_
  refine lv_topi (fun x1 ex1 => ?_)
  obtain rfl : 1 = x1 := (ex1.trans (by decide)).symm
  refine va_sld hx hb hX hbl hbA hS (vp_in_iff.mpr (by decide)) dL_law_1518 ?_
  refine lv_topi (fun x2 ex2 => ?_)
  obtain rfl : xs 1 = x2 := (ex2.trans rfl).symm
  refine goV (As := [.int (xs 1)]) (rest := []) (wr := [(k0, .inr (12, [.int 0, .int 0, .ref k0_2, .ref k0_3, .ref k0_4, .ref k0_5, .int 0, .int 0, .int 0, .ref k0_9, .ref k0_10, .ref k0_11, .int 0, .int 0, .int 0, .int 0, .long 0, .int (-1), .int 0, .int 0, .ref k0_20, .int 0, .ref k0_22, .ref k0_23, .int 0, .ref k0_25, .ref k0_26, .int 0, .int 0, .ref k0_29, .ref k0_30, .ref k0_31, .ref k0_32, .int 0, .long 0, .long 0, .long 0, .long 0, .int 0, .ref k0_39, .ref k0_40, .int 0, .ref k0_42, .int 0, .ref k0_44, .ref k0_45, .int 0, .int 0, .int 0, .int 0, .int 0, .int 0])), (k0_2, .inl (cI, 35942, .inl mrow)), (k0_4, .inl (cI, 35942, .inl (fun _ => 0)))]) ⟨hx, hb, hml, hown, hts⟩ (c_X11_beside l G cI cJ cZ cD cR cT h0 (xs 1) h0_0 h0_1 h0_2 h0_3 h0_6 h0_7 h0_8 h0_10 h0_11 h0_13 h0_0_0 h0_0_1 h0_0_2 h0_0_3 h0_0_4 h0_0_5 h0_0_8 h0_0_15 h0_0_16 h0_0_4_1 h0_0_4_2 h0_0_4_3 h0_6_1 h0_6_2 h0_7_3 h0_7_4 h0_7_5 h0_7_6 h0_7_7 h0_7_9 h0_7_10 h0_7_12 h0_7_13 h0_7_14 _) (cwV 1 hts gv_law39_175_X11_beside rfl rfl rfl (by decide +kernel) ⟨Nat.le_of_ble_eq_true rfl, Nat.le_of_ble_eq_true rfl⟩) 0 rfl rfl rfl hKK hP hD hS hA [0, 1, 2, 3, 4, 5, 6, 7, 8, 9, 10, 11] [12, 13, 14] rfl rfl (by decide +kernel) (by decide +kernel) (by decide +kernel) rfl hl.1 rfl (lv_room (Nat.le_of_ble_eq_true rfl)) dL_law_1519 ⟨Nat.le_of_ble_eq_true rfl, Nat.le_of_ble_eq_true rfl⟩ (fun v4 q3 gq3 H locs hv4 => appW (ws' := [(k0, .inr (12, [.int 0, .int 0, .ref k0_2, .ref k0_3, .ref k0_4, .ref k0_5, .int 0, .int 0, .int 0, .ref k0_9, .ref k0_10, .ref k0_11, .int 0, .int 0, .int 0, .int 0, .long 0, .int (-1), .int 0, .int 0, .ref k0_20, .int 0, .ref k0_22, .ref k0_23, .int 0, .ref k0_25, .ref k0_26, .int 0, .int 0, .ref k0_29, .ref k0_30, .ref k0_31, .ref k0_32, .int 0, .long 0, .long 0, .long 0, .long 0, .int 0, .ref k0_39, .ref k0_40, .int 0, .ref k0_42, .int 0, .ref k0_44, .ref k0_45, .int 0, .int 0, .int 0, .int 0, .int 0, .int 0])), (k0_2, .inl (cI, 35942, .inl mrow)), (k0_4, .inl (cI, 35942, .inl (fun _ => 0)))]) rfl (fun hP hD hS => ?_))
  obtain ⟨_, rfl, rfl⟩ := hv4
  refine lv_aload_n hx hb dL_law_1522 rfl (lv_at hl 1 rfl) ?_
  refine lv_aload_n hx hb dL_law_1523 rfl (lv_at hl 3 rfl) ?_
  refine lv_iload_n hx hb dL_law_1524 rfl (lv_at hl 0 rfl) ?_
  refine lv_iconst (v := 1) hx hb dL_law_1525 (by decide) ?_
  refine lv_iadd hx hb dL_law_1526 ?_
  refine lv_topi (fun x6 ex6 => ?_)
  obtain rfl : 1 = x6 := (ex6.trans (by decide)).symm
  refine va_sld hx hb hX hbl hbA hS (vp_in_iff.mpr (by decide)) dL_law_1527 ?_
  refine lv_topi (fun x7 ex7 => ?_)
  obtain rfl : xs 1 = x7 := (ex7.trans rfl).symm
  refine goV (As := [.int (xs 1)]) (rest := [.long (-2000000000000)]) (wr := []) ⟨hx, hb, hml, hown, hts⟩ (c_X12_beside l G cI cJ cZ cD cR cT k0 (xs 1) k0_2 k0_3 k0_4 k0_5 k0_9 k0_10 k0_11 k0_20 k0_22 k0_23 k0_25 k0_26 k0_29 k0_30 k0_31 k0_32 k0_39 k0_40 k0_42 k0_44 k0_45 _) (cwV 1 hts gv_law39_179_X12_beside rfl rfl rfl (by decide +kernel) ⟨Nat.le_of_ble_eq_true rfl, Nat.le_of_ble_eq_true rfl⟩) 0 rfl rfl rfl hKK hP hD hS hA [0, 1, 2] [] rfl rfl (by decide +kernel) (by decide +kernel) (by decide +kernel) rfl hl.1 rfl (lv_room (Nat.le_of_ble_eq_true rfl)) dL_law_1528 ⟨Nat.le_of_ble_eq_true rfl, Nat.le_of_ble_eq_true rfl⟩ (fun v9 q8 gq8 H locs hv9 => appW (ws' := []) rfl (fun hP hD hS => ?_))
  obtain ⟨_, rfl, rfl⟩ := hv9
  refine W.lcmp hx hb dL_law_1531 ?_
  refine lv_topi (fun x11 ex11 => ?_)
  obtain rfl : 0 = x11 := (ex11.trans (by decide)).symm
  refine lv_if_eq (tgt := 1678) hx hb dL_law_1532 (by decide) (fun _ => ?_) (fun c => absurd c (by decide))
  refine lv_iinc (v := 6) (lv' := [(3, .int 6), (2, .ref k0), (1, .ref h0), (0, .ref b)]) hx hb dL_law_1678 hl (k := 0) rfl (by decide) (by decide) rfl (fun ls hl => ?_)
  refine lv_goto (tgt := 18) hx hb dL_law_1681 (by decide) ?_
  refine lv_iload_n hx hb dL_law_18 rfl (lv_at hl 0 rfl) ?_
  refine lv_aload_n hx hb dL_law_19 rfl (lv_at hl 3 rfl) ?_
  refine va_slen hx hb hX hbl hbA hS dL_law_20 ?_
  refine lv_topi (fun x12 ex12 => ?_)
  obtain rfl : 6 = x12 := (ex12.trans rfl).symm
  refine lv_bipush (v := 6) hx hb dL_law_21 (by decide) ?_
  refine lv_isub hx hb dL_law_23 ?_
  refine lv_topi (fun x13 ex13 => ?_)
  obtain rfl : 0 = x13 := (ex13.trans (by decide)).symm
  refine lv_icmp_gt (tgt := 1684) hx hb dL_law_24 (by decide) (fun _ => ?_) (fun c => absurd c (by decide))
  refine lv_iconst (v := 1) hx hb dL_law_1684 (by decide) ?_
  refine va_forget (fun q h => hS.2.2 q h) ?_
  refine W.widen (k := 600000) (n := 7302250) (Nat.le_of_ble_eq_true rfl) (Nat.le_of_ble_eq_true rfl) ?_
  exact W.base (lw_ret (Drawn.sameBut.refl s.drawn lw_cs) hx hb hr hlocks dL_law_1685)
set_option maxRecDepth 20000 in
theorem gv_law40_180_X11_seal : GoodIn lw_tbl (wsV RL 180 RX11 yX11_seal v_X11_seal) := goodIn_app (goodIn_r _ [1340, 1341, 1342, 103] (by decide +kernel) (by decide +kernel)) (gi tb_X11_seal gd_X11_seal)
set_option maxRecDepth 20000 in
theorem gv_law40_183_X12_seal : GoodIn lw_tbl (wsV RL 183 RX12 yX12_seal v_X12_seal) := goodIn_app (goodIn_r _ [2068, 2069, 2070, 114] (by decide +kernel) (by decide +kernel)) (gi tb_X12_seal gd_X12_seal)
set_option maxHeartbeats 4000000 in
set_option maxRecDepth 100000 in
theorem law_case_40 {p : Program} {e : Env} {s : State} {m : MethodId} {below : List Frame} {meth : Method} {c : Code} (l : Launch) (G : va_G) (cI cJ cZ cD cR cT : ClassId) {b : Nat} {xs : Nat → Int32} (h0 k0 h0_0 h0_1 h0_2 h0_3 h0_6 h0_7 h0_8 h0_10 h0_11 h0_13 h0_0_0 h0_0_1 h0_0_2 h0_0_3 h0_0_4 h0_0_5 h0_0_8 h0_0_15 h0_0_16 h0_0_1_1 h0_0_1_2 h0_0_1_3 h0_0_1_4 h0_0_1_5 h0_0_1_6 h0_0_1_7 h0_0_1_9 h0_0_1_10 h0_0_1_11 k0_2 k0_3 k0_4 k0_5 k0_9 k0_10 k0_11 k0_20 k0_22 k0_23 k0_25 k0_26 k0_29 k0_30 k0_31 k0_32 k0_39 k0_40 k0_42 k0_44 k0_45 : Nat) {H : Heap} {locs : List Loc} {ls : Array Slot} (hx : p.tables.exec = Jvm.exec) (hb : c.code = code) (hr : meth.sig.returnType = ret) (hml : c.maxLocals = 4) (hown : s.vm.findClass RL = some m.cls) (hts : ∀ w ∈ lw_tbl, w.before #[Value.ref b] s = true) (hX : va_X b 6 xs s s.heap) (hbl : b < s.heap.size) (hlocks : meth.locks = false) (hKK : KK G (tys6 cI cJ cZ cD cR cT) s) (hP : va_P G vwCl [(h0, .inr (11, [.ref h0_0, .ref h0_1, .ref h0_2, .ref h0_3, .int 0, .int 0, .ref h0_6, .ref h0_7, .ref h0_8, .int 0, .ref h0_10, .ref h0_11, .int 0, .ref h0_13, .int 0, .int 0])), (h0_0, .inr (0, [.ref h0_0_0, .ref h0_0_1, .ref h0_0_2, .ref h0_0_3, .ref h0_0_4, .ref h0_0_5, .int 0, .int 0, .ref h0_0_8, .int 0, .int 0, .int 0, .int 0, .long 0, .int 0, .ref h0_0_15, .ref h0_0_16])), (h0_0_1, .inr (1, [.int 0, .ref h0_0_1_1, .ref h0_0_1_2, .ref h0_0_1_3, .ref h0_0_1_4, .ref h0_0_1_5, .ref h0_0_1_6, .ref h0_0_1_7, .int 0, .ref h0_0_1_9, .ref h0_0_1_10, .ref h0_0_1_11, .int (-1), .long 0, .long 0])), (k0, .inr (12, [.int 0, .int 0, .ref k0_2, .ref k0_3, .ref k0_4, .ref k0_5, .int 0, .int 0, .int 0, .ref k0_9, .ref k0_10, .ref k0_11, .int 0, .int 0, .int 0, .int 0, .long 0, .int (-1), .int 0, .int 0, .ref k0_20, .int 0, .ref k0_22, .ref k0_23, .int 0, .ref k0_25, .ref k0_26, .int 0, .int 0, .ref k0_29, .ref k0_30, .ref k0_31, .ref k0_32, .int 0, .long 0, .long 0, .long 0, .long 0, .int 0, .ref k0_39, .ref k0_40, .int 0, .ref k0_42, .int 0, .ref k0_44, .ref k0_45, .int 0, .int 0, .int 0, .int 0, .int 0, .int 0])), (k0_2, .inl (cI, 35942, .inl mrow))] H) (hD : va_D (fun q : Nat => s.heap.size ≤ q) [(h0, .inr (11, [.ref h0_0, .ref h0_1, .ref h0_2, .ref h0_3, .int 0, .int 0, .ref h0_6, .ref h0_7, .ref h0_8, .int 0, .ref h0_10, .ref h0_11, .int 0, .ref h0_13, .int 0, .int 0])), (h0_0, .inr (0, [.ref h0_0_0, .ref h0_0_1, .ref h0_0_2, .ref h0_0_3, .ref h0_0_4, .ref h0_0_5, .int 0, .int 0, .ref h0_0_8, .int 0, .int 0, .int 0, .int 0, .long 0, .int 0, .ref h0_0_15, .ref h0_0_16])), (h0_0_1, .inr (1, [.int 0, .ref h0_0_1_1, .ref h0_0_1_2, .ref h0_0_1_3, .ref h0_0_1_4, .ref h0_0_1_5, .ref h0_0_1_6, .ref h0_0_1_7, .int 0, .ref h0_0_1_9, .ref h0_0_1_10, .ref h0_0_1_11, .int (-1), .long 0, .long 0])), (k0, .inr (12, [.int 0, .int 0, .ref k0_2, .ref k0_3, .ref k0_4, .ref k0_5, .int 0, .int 0, .int 0, .ref k0_9, .ref k0_10, .ref k0_11, .int 0, .int 0, .int 0, .int 0, .long 0, .int (-1), .int 0, .int 0, .ref k0_20, .int 0, .ref k0_22, .ref k0_23, .int 0, .ref k0_25, .ref k0_26, .int 0, .int 0, .ref k0_29, .ref k0_30, .ref k0_31, .ref k0_32, .int 0, .long 0, .long 0, .long 0, .long 0, .int 0, .ref k0_39, .ref k0_40, .int 0, .ref k0_42, .int 0, .ref k0_44, .ref k0_45, .int 0, .int 0, .int 0, .int 0, .int 0, .int 0])), (k0_2, .inl (cI, 35942, .inl mrow))]) (hS : va_S (fun q : Nat => s.heap.size ≤ q) s.heap H locs) (hl : lv_has ls 4 [(3, .int 0), (2, .ref k0), (1, .ref h0), (0, .ref b)]) : W p l e room_1 s m #[Value.ref b] below meth c H locs 221 158368 (lw_Z below #[Value.ref b] s) (F0 m 1537 ls []) := by
  have hK := hKK.1
  have hA : ∀ q : Nat, s.heap.size ≤ q → (fun q : Nat => s.heap.size ≤ q) q := fun _ h => h
  have hbA : ¬ (fun q : Nat => s.heap.size ≤ q) b := Nat.not_le.mpr hbl
  refine lv_aload_n hx hb dL_law_1537 rfl (lv_at hl 2 rfl) ?_
  refine goV (As := []) (rest := []) (wr := [(k0, .inr (12, [.int 0, .int 0, .ref k0_2, .ref k0_3, .ref k0_4, .ref k0_5, .int 0, .int 0, .int 0, .ref k0_9, .ref k0_10, .ref k0_11, .int 0, .int 0, .int 0, .int 0, .long 0, .int (-1), .int 0, .int 0, .ref k0_20, .int 0, .ref k0_22, .ref k0_23, .int 0, .ref k0_25, .ref k0_26, .int 0, .int 0, .ref k0_29, .ref k0_30, .ref k0_31, .ref k0_32, .int 0, .long 0, .long 0, .long 0, .long 0, .int 0, .ref k0_39, .ref k0_40, .int 0, .ref k0_42, .int 0, .ref k0_44, .ref k0_45, .int 0, .int 0, .int 0, .int 0, .int 0, .int 0])), (k0_2, .inl (cI, 35942, .inl mrow))]) ⟨hx, hb, hml, hown, hts⟩ (c_X11_seal l G cI cJ cZ cD cR cT h0 h0_0 h0_1 h0_2 h0_3 h0_6 h0_7 h0_8 h0_10 h0_11 h0_13 h0_0_0 h0_0_1 h0_0_2 h0_0_3 h0_0_4 h0_0_5 h0_0_8 h0_0_15 h0_0_16 h0_0_1_1 h0_0_1_2 h0_0_1_3 h0_0_1_4 h0_0_1_5 h0_0_1_6 h0_0_1_7 h0_0_1_9 h0_0_1_10 h0_0_1_11 _) (cwV 0 hts gv_law40_180_X11_seal rfl rfl rfl (by decide +kernel) ⟨Nat.le_of_ble_eq_true rfl, Nat.le_of_ble_eq_true rfl⟩) 0 rfl rfl rfl hKK hP hD hS hA [0, 1, 2] [3, 4] rfl rfl (by decide +kernel) (by decide +kernel) (by decide +kernel) rfl hl.1 rfl (lv_room (Nat.le_of_ble_eq_true rfl)) dL_law_1538 ⟨Nat.le_of_ble_eq_true rfl, Nat.le_of_ble_eq_true rfl⟩ (fun v2 q1 gq1 H locs hv2 => appW (ws' := [(k0, .inr (12, [.int 0, .int 0, .ref k0_2, .ref k0_3, .ref k0_4, .ref k0_5, .int 0, .int 0, .int 0, .ref k0_9, .ref k0_10, .ref k0_11, .int 0, .int 0, .int 0, .int 0, .long 0, .int (-1), .int 0, .int 0, .ref k0_20, .int 0, .ref k0_22, .ref k0_23, .int 0, .ref k0_25, .ref k0_26, .int 0, .int 0, .ref k0_29, .ref k0_30, .ref k0_31, .ref k0_32, .int 0, .long 0, .long 0, .long 0, .long 0, .int 0, .ref k0_39, .ref k0_40, .int 0, .ref k0_42, .int 0, .ref k0_44, .ref k0_45, .int 0, .int 0, .int 0, .int 0, .int 0, .int 0])), (k0_2, .inl (cI, 35942, .inl mrow))]) rfl (fun hP hD hS => ?_))
  obtain ⟨r3, rfl, hr3⟩ := hv2
  refine lv_aload_n hx hb dL_law_1541 rfl (lv_at hl 1 rfl) ?_
  refine goV (As := []) (rest := [.int r3]) (wr := []) ⟨hx, hb, hml, hown, hts⟩ (c_X12_seal l G cI cJ cZ cD cR cT k0 k0_2 k0_3 k0_4 k0_5 k0_9 k0_10 k0_11 k0_20 k0_22 k0_23 k0_25 k0_26 k0_29 k0_30 k0_31 k0_32 k0_39 k0_40 k0_42 k0_44 k0_45 _) (cwV 0 hts gv_law40_183_X12_seal rfl rfl rfl (by decide +kernel) ⟨Nat.le_of_ble_eq_true rfl, Nat.le_of_ble_eq_true rfl⟩) 0 rfl rfl rfl hKK hP hD hS hA [0, 1] [] rfl rfl (by decide +kernel) (by decide +kernel) (by decide +kernel) rfl hl.1 rfl (lv_room (Nat.le_of_ble_eq_true rfl)) dL_law_1542 ⟨Nat.le_of_ble_eq_true rfl, Nat.le_of_ble_eq_true rfl⟩ (fun v5 q4 gq4 H locs hv5 => appW (ws' := []) rfl (fun hP hD hS => ?_))
  obtain ⟨r6, rfl, hr6⟩ := hv5
  refine lv_icmp_eq (tgt := 1678) hx hb dL_law_1545 (by decide) (fun _ => ?_) (fun c => absurd (hr3.trans hr6.symm) c)
  refine lv_iinc (v := 6) (lv' := [(3, .int 6), (2, .ref k0), (1, .ref h0), (0, .ref b)]) hx hb dL_law_1678 hl (k := 0) rfl (by decide) (by decide) rfl (fun ls hl => ?_)
  refine lv_goto (tgt := 18) hx hb dL_law_1681 (by decide) ?_
  refine lv_iload_n hx hb dL_law_18 rfl (lv_at hl 0 rfl) ?_
  refine lv_aload_n hx hb dL_law_19 rfl (lv_at hl 3 rfl) ?_
  refine va_slen hx hb hX hbl hbA hS dL_law_20 ?_
  refine lv_topi (fun x7 ex7 => ?_)
  obtain rfl : 6 = x7 := (ex7.trans rfl).symm
  refine lv_bipush (v := 6) hx hb dL_law_21 (by decide) ?_
  refine lv_isub hx hb dL_law_23 ?_
  refine lv_topi (fun x8 ex8 => ?_)
  obtain rfl : 0 = x8 := (ex8.trans (by decide)).symm
  refine lv_icmp_gt (tgt := 1684) hx hb dL_law_24 (by decide) (fun _ => ?_) (fun c => absurd c (by decide))
  refine lv_iconst (v := 1) hx hb dL_law_1684 (by decide) ?_
  refine va_forget (fun q h => hS.2.2 q h) ?_
  refine W.widen (k := 600000) (n := 7302250) (Nat.le_of_ble_eq_true rfl) (Nat.le_of_ble_eq_true rfl) ?_
  exact W.base (lw_ret (Drawn.sameBut.refl s.drawn lw_cs) hx hb hr hlocks dL_law_1685)
set_option maxRecDepth 20000 in
theorem gv_law41_184_X11_alter : GoodIn lw_tbl (wsV RL 184 RX11 yX11_alter v_X11_alter) := goodIn_app (goodIn_r _ [1356, 1357, 1358, 103] (by decide +kernel) (by decide +kernel)) (gi tb_X11_alter gd_X11_alter)
set_option maxRecDepth 20000 in
theorem gv_law41_187_X12_alter : GoodIn lw_tbl (wsV RL 187 RX12 yX12_alter v_X12_alter) := goodIn_app (goodIn_r _ [2076, 2077, 2078, 114] (by decide +kernel) (by decide +kernel)) (gi tb_X12_alter gd_X12_alter)
set_option maxHeartbeats 4000000 in
set_option maxRecDepth 100000 in
theorem law_case_41 {p : Program} {e : Env} {s : State} {m : MethodId} {below : List Frame} {meth : Method} {c : Code} (l : Launch) (G : va_G) (cI cJ cZ cD cR cT : ClassId) {b : Nat} {xs : Nat → Int32} (h0 k0 h0_0 h0_1 h0_2 h0_3 h0_6 h0_7 h0_8 h0_10 h0_11 h0_13 h0_0_0 h0_0_1 h0_0_2 h0_0_3 h0_0_4 h0_0_5 h0_0_8 h0_0_15 h0_0_16 h0_0_1_1 h0_0_1_2 h0_0_1_3 h0_0_1_4 h0_0_1_5 h0_0_1_6 h0_0_1_7 h0_0_1_9 h0_0_1_10 h0_0_1_11 k0_2 k0_3 k0_4 k0_5 k0_9 k0_10 k0_11 k0_20 k0_22 k0_23 k0_25 k0_26 k0_29 k0_30 k0_31 k0_32 k0_39 k0_40 k0_42 k0_44 k0_45 : Nat) {H : Heap} {locs : List Loc} {ls : Array Slot} (hx : p.tables.exec = Jvm.exec) (hb : c.code = code) (hr : meth.sig.returnType = ret) (hml : c.maxLocals = 4) (hown : s.vm.findClass RL = some m.cls) (hts : ∀ w ∈ lw_tbl, w.before #[Value.ref b] s = true) (hX : va_X b 6 xs s s.heap) (hbl : b < s.heap.size) (hlocks : meth.locks = false) (hKK : KK G (tys6 cI cJ cZ cD cR cT) s) (hP : va_P G vwCl [(h0, .inr (11, [.ref h0_0, .ref h0_1, .ref h0_2, .ref h0_3, .int 0, .int 0, .ref h0_6, .ref h0_7, .ref h0_8, .int 0, .ref h0_10, .ref h0_11, .int 0, .ref h0_13, .int 0, .int 0])), (h0_0, .inr (0, [.ref h0_0_0, .ref h0_0_1, .ref h0_0_2, .ref h0_0_3, .ref h0_0_4, .ref h0_0_5, .int 0, .int 0, .ref h0_0_8, .int 0, .int 0, .int 0, .int 0, .long 0, .int 0, .ref h0_0_15, .ref h0_0_16])), (h0_0_1, .inr (1, [.int 0, .ref h0_0_1_1, .ref h0_0_1_2, .ref h0_0_1_3, .ref h0_0_1_4, .ref h0_0_1_5, .ref h0_0_1_6, .ref h0_0_1_7, .int 0, .ref h0_0_1_9, .ref h0_0_1_10, .ref h0_0_1_11, .int (-1), .long 0, .long 0])), (k0, .inr (12, [.int 0, .int 0, .ref k0_2, .ref k0_3, .ref k0_4, .ref k0_5, .int 0, .int 0, .int 0, .ref k0_9, .ref k0_10, .ref k0_11, .int 0, .int 0, .int 0, .int 0, .long 0, .int (-1), .int 0, .int 0, .ref k0_20, .int 0, .ref k0_22, .ref k0_23, .int 0, .ref k0_25, .ref k0_26, .int 0, .int 0, .ref k0_29, .ref k0_30, .ref k0_31, .ref k0_32, .int 0, .long 0, .long 0, .long 0, .long 0, .int 0, .ref k0_39, .ref k0_40, .int 0, .ref k0_42, .int 0, .ref k0_44, .ref k0_45, .int 0, .int 0, .int 0, .int 0, .int 0, .int 0])), (k0_2, .inl (cI, 35942, .inl mrow))] H) (hD : va_D (fun q : Nat => s.heap.size ≤ q) [(h0, .inr (11, [.ref h0_0, .ref h0_1, .ref h0_2, .ref h0_3, .int 0, .int 0, .ref h0_6, .ref h0_7, .ref h0_8, .int 0, .ref h0_10, .ref h0_11, .int 0, .ref h0_13, .int 0, .int 0])), (h0_0, .inr (0, [.ref h0_0_0, .ref h0_0_1, .ref h0_0_2, .ref h0_0_3, .ref h0_0_4, .ref h0_0_5, .int 0, .int 0, .ref h0_0_8, .int 0, .int 0, .int 0, .int 0, .long 0, .int 0, .ref h0_0_15, .ref h0_0_16])), (h0_0_1, .inr (1, [.int 0, .ref h0_0_1_1, .ref h0_0_1_2, .ref h0_0_1_3, .ref h0_0_1_4, .ref h0_0_1_5, .ref h0_0_1_6, .ref h0_0_1_7, .int 0, .ref h0_0_1_9, .ref h0_0_1_10, .ref h0_0_1_11, .int (-1), .long 0, .long 0])), (k0, .inr (12, [.int 0, .int 0, .ref k0_2, .ref k0_3, .ref k0_4, .ref k0_5, .int 0, .int 0, .int 0, .ref k0_9, .ref k0_10, .ref k0_11, .int 0, .int 0, .int 0, .int 0, .long 0, .int (-1), .int 0, .int 0, .ref k0_20, .int 0, .ref k0_22, .ref k0_23, .int 0, .ref k0_25, .ref k0_26, .int 0, .int 0, .ref k0_29, .ref k0_30, .ref k0_31, .ref k0_32, .int 0, .long 0, .long 0, .long 0, .long 0, .int 0, .ref k0_39, .ref k0_40, .int 0, .ref k0_42, .int 0, .ref k0_44, .ref k0_45, .int 0, .int 0, .int 0, .int 0, .int 0, .int 0])), (k0_2, .inl (cI, 35942, .inl mrow))]) (hS : va_S (fun q : Nat => s.heap.size ≤ q) s.heap H locs) (hl : lv_has ls 4 [(3, .int 0), (2, .ref k0), (1, .ref h0), (0, .ref b)]) : W p l e room_1 s m #[Value.ref b] below meth c H locs 221 158368 (lw_Z below #[Value.ref b] s) (F0 m 1550 ls []) := by
  have hK := hKK.1
  have hA : ∀ q : Nat, s.heap.size ≤ q → (fun q : Nat => s.heap.size ≤ q) q := fun _ h => h
  have hbA : ¬ (fun q : Nat => s.heap.size ≤ q) b := Nat.not_le.mpr hbl
  refine lv_aload_n hx hb dL_law_1550 rfl (lv_at hl 2 rfl) ?_
  refine lv_aload_n hx hb dL_law_1551 rfl (lv_at hl 3 rfl) ?_
  refine lv_iload_n hx hb dL_law_1552 rfl (lv_at hl 0 rfl) ?_
  refine lv_iconst (v := 1) hx hb dL_law_1553 (by decide) ?_
  refine lv_iadd hx hb dL_law_1554 ?_
  refine lv_topi (fun x1 ex1 => ?_)
  obtain rfl : 1 = x1 := (ex1.trans (by decide)).symm
  refine va_sld hx hb hX hbl hbA hS (vp_in_iff.mpr (by decide)) dL_law_1555 ?_
  refine lv_topi (fun x2 ex2 => ?_)
  obtain rfl : xs 1 = x2 := (ex2.trans rfl).symm
  refine lv_aload_n hx hb dL_law_1556 rfl (lv_at hl 3 rfl) ?_
  refine lv_iload_n hx hb dL_law_1557 rfl (lv_at hl 0 rfl) ?_
  refine lv_iconst (v := 2) hx hb dL_law_1558 (by decide) ?_
  refine lv_iadd hx hb dL_law_1559 ?_
  refine lv_topi (fun x3 ex3 => ?_)
  obtain rfl : 2 = x3 := (ex3.trans (by decide)).symm
  refine va_sld hx hb hX hbl hbA hS (vp_in_iff.mpr (by decide)) dL_law_1560 ?_
  refine lv_topi (fun x4 ex4 => ?_)
  obtain rfl : xs 2 = x4 := (ex4.trans rfl).symm
  refine goV (As := [.int (xs 1), .int (xs 2)]) (rest := []) (wr := [(k0, .inr (12, [.int 0, .int 0, .ref k0_2, .ref k0_3, .ref k0_4, .ref k0_5, .int 0, .int 0, .int 0, .ref k0_9, .ref k0_10, .ref k0_11, .int 0, .int 0, .int 0, .int 0, .long 0, .int (-1), .int 0, .int 0, .ref k0_20, .int 0, .ref k0_22, .ref k0_23, .int 0, .ref k0_25, .ref k0_26, .int 0, .int 0, .ref k0_29, .ref k0_30, .ref k0_31, .ref k0_32, .int 0, .long 0, .long 0, .long 0, .long 0, .int 0, .ref k0_39, .ref k0_40, .int 0, .ref k0_42, .int 0, .ref k0_44, .ref k0_45, .int 0, .int 0, .int 0, .int 0, .int 0, .int 0])), (k0_2, .inl (cI, 35942, .inl mrow))]) ⟨hx, hb, hml, hown, hts⟩ (c_X11_alter l G cI cJ cZ cD cR cT h0 (xs 1) (xs 2) h0_0 h0_1 h0_2 h0_3 h0_6 h0_7 h0_8 h0_10 h0_11 h0_13 h0_0_0 h0_0_1 h0_0_2 h0_0_3 h0_0_4 h0_0_5 h0_0_8 h0_0_15 h0_0_16 h0_0_1_1 h0_0_1_2 h0_0_1_3 h0_0_1_4 h0_0_1_5 h0_0_1_6 h0_0_1_7 h0_0_1_9 h0_0_1_10 h0_0_1_11 _) (cwV 2 hts gv_law41_184_X11_alter rfl rfl rfl (by decide +kernel) ⟨Nat.le_of_ble_eq_true rfl, Nat.le_of_ble_eq_true rfl⟩) 0 rfl rfl rfl hKK hP hD hS hA [0, 1, 2] [3, 4] rfl rfl (by decide +kernel) (by decide +kernel) (by decide +kernel) rfl hl.1 rfl (lv_room (Nat.le_of_ble_eq_true rfl)) dL_law_1561 ⟨Nat.le_of_ble_eq_true rfl, Nat.le_of_ble_eq_true rfl⟩ (fun v6 q5 gq5 H locs hv6 => appW (ws' := [(k0, .inr (12, [.int 0, .int 0, .ref k0_2, .ref k0_3, .ref k0_4, .ref k0_5, .int 0, .int 0, .int 0, .ref k0_9, .ref k0_10, .ref k0_11, .int 0, .int 0, .int 0, .int 0, .long 0, .int (-1), .int 0, .int 0, .ref k0_20, .int 0, .ref k0_22, .ref k0_23, .int 0, .ref k0_25, .ref k0_26, .int 0, .int 0, .ref k0_29, .ref k0_30, .ref k0_31, .ref k0_32, .int 0, .long 0, .long 0, .long 0, .long 0, .int 0, .ref k0_39, .ref k0_40, .int 0, .ref k0_42, .int 0, .ref k0_44, .ref k0_45, .int 0, .int 0, .int 0, .int 0, .int 0, .int 0])), (k0_2, .inl (cI, 35942, .inl mrow))]) rfl (fun hP hD hS => ?_))
  obtain ⟨r7, rfl, hr7⟩ := hv6
  refine lv_aload_n hx hb dL_law_1564 rfl (lv_at hl 1 rfl) ?_
  refine lv_aload_n hx hb dL_law_1565 rfl (lv_at hl 3 rfl) ?_
  refine lv_iload_n hx hb dL_law_1566 rfl (lv_at hl 0 rfl) ?_
  refine lv_iconst (v := 1) hx hb dL_law_1567 (by decide) ?_
  refine lv_iadd hx hb dL_law_1568 ?_
  refine lv_topi (fun x8 ex8 => ?_)
  obtain rfl : 1 = x8 := (ex8.trans (by decide)).symm
  refine va_sld hx hb hX hbl hbA hS (vp_in_iff.mpr (by decide)) dL_law_1569 ?_
  refine lv_topi (fun x9 ex9 => ?_)
  obtain rfl : xs 1 = x9 := (ex9.trans rfl).symm
  refine lv_aload_n hx hb dL_law_1570 rfl (lv_at hl 3 rfl) ?_
  refine lv_iload_n hx hb dL_law_1571 rfl (lv_at hl 0 rfl) ?_
  refine lv_iconst (v := 2) hx hb dL_law_1572 (by decide) ?_
  refine lv_iadd hx hb dL_law_1573 ?_
  refine lv_topi (fun x10 ex10 => ?_)
  obtain rfl : 2 = x10 := (ex10.trans (by decide)).symm
  refine va_sld hx hb hX hbl hbA hS (vp_in_iff.mpr (by decide)) dL_law_1574 ?_
  refine lv_topi (fun x11 ex11 => ?_)
  obtain rfl : xs 2 = x11 := (ex11.trans rfl).symm
  refine goV (As := [.int (xs 1), .int (xs 2)]) (rest := [.int r7]) (wr := []) ⟨hx, hb, hml, hown, hts⟩ (c_X12_alter l G cI cJ cZ cD cR cT k0 (xs 1) (xs 2) k0_2 k0_3 k0_4 k0_5 k0_9 k0_10 k0_11 k0_20 k0_22 k0_23 k0_25 k0_26 k0_29 k0_30 k0_31 k0_32 k0_39 k0_40 k0_42 k0_44 k0_45 _) (cwV 2 hts gv_law41_187_X12_alter rfl rfl rfl (by decide +kernel) ⟨Nat.le_of_ble_eq_true rfl, Nat.le_of_ble_eq_true rfl⟩) 0 rfl rfl rfl hKK hP hD hS hA [0, 1] [] rfl rfl (by decide +kernel) (by decide +kernel) (by decide +kernel) rfl hl.1 rfl (lv_room (Nat.le_of_ble_eq_true rfl)) dL_law_1575 ⟨Nat.le_of_ble_eq_true rfl, Nat.le_of_ble_eq_true rfl⟩ (fun v13 q12 gq12 H locs hv13 => appW (ws' := []) rfl (fun hP hD hS => ?_))
  obtain ⟨r14, rfl, hr14⟩ := hv13
  refine lv_icmp_eq (tgt := 1678) hx hb dL_law_1578 (by decide) (fun _ => ?_) (fun c => absurd (hr7.trans hr14.symm) c)
  refine lv_iinc (v := 6) (lv' := [(3, .int 6), (2, .ref k0), (1, .ref h0), (0, .ref b)]) hx hb dL_law_1678 hl (k := 0) rfl (by decide) (by decide) rfl (fun ls hl => ?_)
  refine lv_goto (tgt := 18) hx hb dL_law_1681 (by decide) ?_
  refine lv_iload_n hx hb dL_law_18 rfl (lv_at hl 0 rfl) ?_
  refine lv_aload_n hx hb dL_law_19 rfl (lv_at hl 3 rfl) ?_
  refine va_slen hx hb hX hbl hbA hS dL_law_20 ?_
  refine lv_topi (fun x15 ex15 => ?_)
  obtain rfl : 6 = x15 := (ex15.trans rfl).symm
  refine lv_bipush (v := 6) hx hb dL_law_21 (by decide) ?_
  refine lv_isub hx hb dL_law_23 ?_
  refine lv_topi (fun x16 ex16 => ?_)
  obtain rfl : 0 = x16 := (ex16.trans (by decide)).symm
  refine lv_icmp_gt (tgt := 1684) hx hb dL_law_24 (by decide) (fun _ => ?_) (fun c => absurd c (by decide))
  refine lv_iconst (v := 1) hx hb dL_law_1684 (by decide) ?_
  refine va_forget (fun q h => hS.2.2 q h) ?_
  refine W.widen (k := 600000) (n := 7302250) (Nat.le_of_ble_eq_true rfl) (Nat.le_of_ble_eq_true rfl) ?_
  exact W.base (lw_ret (Drawn.sameBut.refl s.drawn lw_cs) hx hb hr hlocks dL_law_1685)
set_option maxRecDepth 20000 in
theorem gv_law42_188_X11_found : GoodIn lw_tbl (wsV RL 188 RX11 yX11_found v_X11_found) := goodIn_app (goodIn_r _ [1360, 1361, 1362, 103] (by decide +kernel) (by decide +kernel)) (gi tb_X11_found gd_X11_found)
set_option maxRecDepth 20000 in
theorem gv_law42_191_X12_found : GoodIn lw_tbl (wsV RL 191 RX12 yX12_found v_X12_found) := goodIn_app (goodIn_r _ [2081, 2082, 2083, 114] (by decide +kernel) (by decide +kernel)) (gi tb_X12_found gd_X12_found)
set_option maxHeartbeats 4000000 in
set_option maxRecDepth 100000 in
theorem law_case_42 {p : Program} {e : Env} {s : State} {m : MethodId} {below : List Frame} {meth : Method} {c : Code} (l : Launch) (G : va_G) (cI cJ cZ cD cR cT : ClassId) {b : Nat} {xs : Nat → Int32} (h0 k0 h0_0 h0_1 h0_2 h0_3 h0_6 h0_7 h0_8 h0_10 h0_11 h0_13 h0_0_0 h0_0_1 h0_0_2 h0_0_3 h0_0_4 h0_0_5 h0_0_8 h0_0_15 h0_0_16 h0_0_1_1 h0_0_1_2 h0_0_1_3 h0_0_1_4 h0_0_1_5 h0_0_1_6 h0_0_1_7 h0_0_1_9 h0_0_1_10 h0_0_1_11 k0_2 k0_3 k0_4 k0_5 k0_9 k0_10 k0_11 k0_20 k0_22 k0_23 k0_25 k0_26 k0_29 k0_30 k0_31 k0_32 k0_39 k0_40 k0_42 k0_44 k0_45 : Nat) {H : Heap} {locs : List Loc} {ls : Array Slot} (hx : p.tables.exec = Jvm.exec) (hb : c.code = code) (hr : meth.sig.returnType = ret) (hml : c.maxLocals = 4) (hown : s.vm.findClass RL = some m.cls) (hts : ∀ w ∈ lw_tbl, w.before #[Value.ref b] s = true) (hX : va_X b 6 xs s s.heap) (hbl : b < s.heap.size) (hlocks : meth.locks = false) (hKK : KK G (tys6 cI cJ cZ cD cR cT) s) (hP : va_P G vwCl [(h0, .inr (11, [.ref h0_0, .ref h0_1, .ref h0_2, .ref h0_3, .int 0, .int 0, .ref h0_6, .ref h0_7, .ref h0_8, .int 0, .ref h0_10, .ref h0_11, .int 0, .ref h0_13, .int 0, .int 0])), (h0_0, .inr (0, [.ref h0_0_0, .ref h0_0_1, .ref h0_0_2, .ref h0_0_3, .ref h0_0_4, .ref h0_0_5, .int 0, .int 0, .ref h0_0_8, .int 0, .int 0, .int 0, .int 0, .long 0, .int 0, .ref h0_0_15, .ref h0_0_16])), (h0_0_1, .inr (1, [.int 0, .ref h0_0_1_1, .ref h0_0_1_2, .ref h0_0_1_3, .ref h0_0_1_4, .ref h0_0_1_5, .ref h0_0_1_6, .ref h0_0_1_7, .int 0, .ref h0_0_1_9, .ref h0_0_1_10, .ref h0_0_1_11, .int (-1), .long 0, .long 0])), (k0, .inr (12, [.int 0, .int 0, .ref k0_2, .ref k0_3, .ref k0_4, .ref k0_5, .int 0, .int 0, .int 0, .ref k0_9, .ref k0_10, .ref k0_11, .int 0, .int 0, .int 0, .int 0, .long 0, .int (-1), .int 0, .int 0, .ref k0_20, .int 0, .ref k0_22, .ref k0_23, .int 0, .ref k0_25, .ref k0_26, .int 0, .int 0, .ref k0_29, .ref k0_30, .ref k0_31, .ref k0_32, .int 0, .long 0, .long 0, .long 0, .long 0, .int 0, .ref k0_39, .ref k0_40, .int 0, .ref k0_42, .int 0, .ref k0_44, .ref k0_45, .int 0, .int 0, .int 0, .int 0, .int 0, .int 0])), (k0_2, .inl (cI, 35942, .inl mrow))] H) (hD : va_D (fun q : Nat => s.heap.size ≤ q) [(h0, .inr (11, [.ref h0_0, .ref h0_1, .ref h0_2, .ref h0_3, .int 0, .int 0, .ref h0_6, .ref h0_7, .ref h0_8, .int 0, .ref h0_10, .ref h0_11, .int 0, .ref h0_13, .int 0, .int 0])), (h0_0, .inr (0, [.ref h0_0_0, .ref h0_0_1, .ref h0_0_2, .ref h0_0_3, .ref h0_0_4, .ref h0_0_5, .int 0, .int 0, .ref h0_0_8, .int 0, .int 0, .int 0, .int 0, .long 0, .int 0, .ref h0_0_15, .ref h0_0_16])), (h0_0_1, .inr (1, [.int 0, .ref h0_0_1_1, .ref h0_0_1_2, .ref h0_0_1_3, .ref h0_0_1_4, .ref h0_0_1_5, .ref h0_0_1_6, .ref h0_0_1_7, .int 0, .ref h0_0_1_9, .ref h0_0_1_10, .ref h0_0_1_11, .int (-1), .long 0, .long 0])), (k0, .inr (12, [.int 0, .int 0, .ref k0_2, .ref k0_3, .ref k0_4, .ref k0_5, .int 0, .int 0, .int 0, .ref k0_9, .ref k0_10, .ref k0_11, .int 0, .int 0, .int 0, .int 0, .long 0, .int (-1), .int 0, .int 0, .ref k0_20, .int 0, .ref k0_22, .ref k0_23, .int 0, .ref k0_25, .ref k0_26, .int 0, .int 0, .ref k0_29, .ref k0_30, .ref k0_31, .ref k0_32, .int 0, .long 0, .long 0, .long 0, .long 0, .int 0, .ref k0_39, .ref k0_40, .int 0, .ref k0_42, .int 0, .ref k0_44, .ref k0_45, .int 0, .int 0, .int 0, .int 0, .int 0, .int 0])), (k0_2, .inl (cI, 35942, .inl mrow))]) (hS : va_S (fun q : Nat => s.heap.size ≤ q) s.heap H locs) (hl : lv_has ls 4 [(3, .int 0), (2, .ref k0), (1, .ref h0), (0, .ref b)]) : W p l e room_1 s m #[Value.ref b] below meth c H locs 221 158368 (lw_Z below #[Value.ref b] s) (F0 m 1583 ls []) := by
  have hK := hKK.1
  have hA : ∀ q : Nat, s.heap.size ≤ q → (fun q : Nat => s.heap.size ≤ q) q := fun _ h => h
  have hbA : ¬ (fun q : Nat => s.heap.size ≤ q) b := Nat.not_le.mpr hbl
  refine lv_aload_n hx hb dL_law_1583 rfl (lv_at hl 2 rfl) ?_
  refine goV (As := []) (rest := []) (wr := [(k0, .inr (12, [.int 0, .int 0, .ref k0_2, .ref k0_3, .ref k0_4, .ref k0_5, .int 0, .int 0, .int 0, .ref k0_9, .ref k0_10, .ref k0_11, .int 0, .int 0, .int 0, .int 0, .long 0, .int (-1), .int 0, .int 0, .ref k0_20, .int 0, .ref k0_22, .ref k0_23, .int 0, .ref k0_25, .ref k0_26, .int 0, .int 0, .ref k0_29, .ref k0_30, .ref k0_31, .ref k0_32, .int 0, .long 0, .long 0, .long 0, .long 0, .int 0, .ref k0_39, .ref k0_40, .int 0, .ref k0_42, .int 0, .ref k0_44, .ref k0_45, .int 0, .int 0, .int 0, .int 0, .int 0, .int 0])), (k0_2, .inl (cI, 35942, .inl mrow))]) ⟨hx, hb, hml, hown, hts⟩ (c_X11_found l G cI cJ cZ cD cR cT h0 h0_0 h0_1 h0_2 h0_3 h0_6 h0_7 h0_8 h0_10 h0_11 h0_13 h0_0_0 h0_0_1 h0_0_2 h0_0_3 h0_0_4 h0_0_5 h0_0_8 h0_0_15 h0_0_16 h0_0_1_1 h0_0_1_2 h0_0_1_3 h0_0_1_4 h0_0_1_5 h0_0_1_6 h0_0_1_7 h0_0_1_9 h0_0_1_10 h0_0_1_11 _) (cwV 0 hts gv_law42_188_X11_found rfl rfl rfl (by decide +kernel) ⟨Nat.le_of_ble_eq_true rfl, Nat.le_of_ble_eq_true rfl⟩) 0 rfl rfl rfl hKK hP hD hS hA [0, 1, 2] [3, 4] rfl rfl (by decide +kernel) (by decide +kernel) (by decide +kernel) rfl hl.1 rfl (lv_room (Nat.le_of_ble_eq_true rfl)) dL_law_1584 ⟨Nat.le_of_ble_eq_true rfl, Nat.le_of_ble_eq_true rfl⟩ (fun v2 q1 gq1 H locs hv2 => appW (ws' := [(k0, .inr (12, [.int 0, .int 0, .ref k0_2, .ref k0_3, .ref k0_4, .ref k0_5, .int 0, .int 0, .int 0, .ref k0_9, .ref k0_10, .ref k0_11, .int 0, .int 0, .int 0, .int 0, .long 0, .int (-1), .int 0, .int 0, .ref k0_20, .int 0, .ref k0_22, .ref k0_23, .int 0, .ref k0_25, .ref k0_26, .int 0, .int 0, .ref k0_29, .ref k0_30, .ref k0_31, .ref k0_32, .int 0, .long 0, .long 0, .long 0, .long 0, .int 0, .ref k0_39, .ref k0_40, .int 0, .ref k0_42, .int 0, .ref k0_44, .ref k0_45, .int 0, .int 0, .int 0, .int 0, .int 0, .int 0])), (k0_2, .inl (cI, 35942, .inl mrow))]) rfl (fun hP hD hS => ?_))
  obtain ⟨r3, rfl, hr3⟩ := hv2
  refine lv_aload_n hx hb dL_law_1587 rfl (lv_at hl 1 rfl) ?_
  refine goV (As := []) (rest := [.int r3]) (wr := []) ⟨hx, hb, hml, hown, hts⟩ (c_X12_found l G cI cJ cZ cD cR cT k0 k0_2 k0_3 k0_4 k0_5 k0_9 k0_10 k0_11 k0_20 k0_22 k0_23 k0_25 k0_26 k0_29 k0_30 k0_31 k0_32 k0_39 k0_40 k0_42 k0_44 k0_45 _) (cwV 0 hts gv_law42_191_X12_found rfl rfl rfl (by decide +kernel) ⟨Nat.le_of_ble_eq_true rfl, Nat.le_of_ble_eq_true rfl⟩) 0 rfl rfl rfl hKK hP hD hS hA [0, 1] [] rfl rfl (by decide +kernel) (by decide +kernel) (by decide +kernel) rfl hl.1 rfl (lv_room (Nat.le_of_ble_eq_true rfl)) dL_law_1588 ⟨Nat.le_of_ble_eq_true rfl, Nat.le_of_ble_eq_true rfl⟩ (fun v5 q4 gq4 H locs hv5 => appW (ws' := []) rfl (fun hP hD hS => ?_))
  obtain ⟨r6, rfl, hr6⟩ := hv5
  refine lv_icmp_eq (tgt := 1678) hx hb dL_law_1591 (by decide) (fun _ => ?_) (fun c => absurd (hr3.trans hr6.symm) c)
  refine lv_iinc (v := 6) (lv' := [(3, .int 6), (2, .ref k0), (1, .ref h0), (0, .ref b)]) hx hb dL_law_1678 hl (k := 0) rfl (by decide) (by decide) rfl (fun ls hl => ?_)
  refine lv_goto (tgt := 18) hx hb dL_law_1681 (by decide) ?_
  refine lv_iload_n hx hb dL_law_18 rfl (lv_at hl 0 rfl) ?_
  refine lv_aload_n hx hb dL_law_19 rfl (lv_at hl 3 rfl) ?_
  refine va_slen hx hb hX hbl hbA hS dL_law_20 ?_
  refine lv_topi (fun x7 ex7 => ?_)
  obtain rfl : 6 = x7 := (ex7.trans rfl).symm
  refine lv_bipush (v := 6) hx hb dL_law_21 (by decide) ?_
  refine lv_isub hx hb dL_law_23 ?_
  refine lv_topi (fun x8 ex8 => ?_)
  obtain rfl : 0 = x8 := (ex8.trans (by decide)).symm
  refine lv_icmp_gt (tgt := 1684) hx hb dL_law_24 (by decide) (fun _ => ?_) (fun c => absurd c (by decide))
  refine lv_iconst (v := 1) hx hb dL_law_1684 (by decide) ?_
  refine va_forget (fun q h => hS.2.2 q h) ?_
  refine W.widen (k := 600000) (n := 7302250) (Nat.le_of_ble_eq_true rfl) (Nat.le_of_ble_eq_true rfl) ?_
  exact W.base (lw_ret (Drawn.sameBut.refl s.drawn lw_cs) hx hb hr hlocks dL_law_1685)
set_option maxRecDepth 20000 in
theorem gv_law43_192_X11_image : GoodIn lw_tbl (wsV RL 192 RX11 yX11_image v_X11_image) := goodIn_app (goodIn_r _ [1368, 1369, 1370, 103] (by decide +kernel) (by decide +kernel)) (gi tb_X11_image gd_X11_image)
set_option maxRecDepth 20000 in
theorem gv_law43_195_X12_image : GoodIn lw_tbl (wsV RL 195 RX12 yX12_image v_X12_image) := goodIn_app (goodIn_r _ [1550, 1551, 1552, 114] (by decide +kernel) (by decide +kernel)) (gi tb_X12_image gd_X12_image)
set_option maxHeartbeats 4000000 in
set_option maxRecDepth 100000 in
theorem law_case_43 {p : Program} {e : Env} {s : State} {m : MethodId} {below : List Frame} {meth : Method} {c : Code} (l : Launch) (G : va_G) (cI cJ cZ cD cR cT : ClassId) {b : Nat} {xs : Nat → Int32} (h0 k0 h0_0 h0_1 h0_2 h0_3 h0_6 h0_7 h0_8 h0_10 h0_11 h0_13 h0_0_0 h0_0_1 h0_0_2 h0_0_3 h0_0_4 h0_0_5 h0_0_8 h0_0_15 h0_0_16 h0_0_0_1 h0_0_0_2 h0_0_0_3 h0_0_0_4 h0_0_0_5 h0_0_0_6 h0_0_0_7 h0_0_0_8 h0_0_0_9 h0_0_1_1 h0_0_1_2 h0_0_1_3 h0_0_1_4 h0_0_1_5 h0_0_1_6 h0_0_1_7 h0_0_1_9 h0_0_1_10 h0_0_1_11 h0_0_2_1 h0_0_2_2 h0_0_2_3 h0_0_2_4 h0_0_2_5 h0_0_2_6 h0_0_2_8 h0_0_2_9 h0_0_2_10 h0_0_3_0 h0_0_3_1 h0_0_4_1 h0_0_4_2 h0_0_4_3 h0_0_5_4 h0_0_5_5 h0_2_0 h0_2_1 h0_2_2 h0_2_3 h0_2_4 h0_2_5 h0_2_8 h0_2_15 h0_2_16 h0_2_0_1 h0_2_0_2 h0_2_0_3 h0_2_0_4 h0_2_0_5 h0_2_0_6 h0_2_0_7 h0_2_0_8 h0_2_0_9 h0_2_1_1 h0_2_1_2 h0_2_1_3 h0_2_1_4 h0_2_1_5 h0_2_1_6 h0_2_1_7 h0_2_1_9 h0_2_1_10 h0_2_1_11 h0_2_2_1 h0_2_2_2 h0_2_2_3 h0_2_2_4 h0_2_2_5 h0_2_2_6 h0_2_2_8 h0_2_2_9 h0_2_2_10 h0_2_3_0 h0_2_3_1 h0_2_4_1 h0_2_4_2 h0_2_4_3 h0_2_5_4 h0_2_5_5 h0_3_0 h0_3_1 h0_3_2 h0_3_3 h0_3_4 h0_3_5 h0_3_8 h0_3_15 h0_3_16 h0_3_0_1 h0_3_0_2 h0_3_0_3 h0_3_0_4 h0_3_0_5 h0_3_0_6 h0_3_0_7 h0_3_0_8 h0_3_0_9 h0_3_1_1 h0_3_1_2 h0_3_1_3 h0_3_1_4 h0_3_1_5 h0_3_1_6 h0_3_1_7 h0_3_1_9 h0_3_1_10 h0_3_1_11 h0_3_2_1 h0_3_2_2 h0_3_2_3 h0_3_2_4 h0_3_2_5 h0_3_2_6 h0_3_2_8 h0_3_2_9 h0_3_2_10 h0_3_3_0 h0_3_3_1 h0_3_4_1 h0_3_4_2 h0_3_4_3 h0_3_5_4 h0_3_5_5 k0_2 k0_3 k0_4 k0_5 k0_9 k0_10 k0_11 k0_20 k0_22 k0_23 k0_25 k0_26 k0_29 k0_30 k0_31 k0_32 k0_39 k0_40 k0_42 k0_44 k0_45 : Nat) {H : Heap} {locs : List Loc} {ls : Array Slot} (hx : p.tables.exec = Jvm.exec) (hb : c.code = code) (hr : meth.sig.returnType = ret) (hml : c.maxLocals = 4) (hown : s.vm.findClass RL = some m.cls) (hts : ∀ w ∈ lw_tbl, w.before #[Value.ref b] s = true) (hX : va_X b 6 xs s s.heap) (hbl : b < s.heap.size) (hlocks : meth.locks = false) (hKK : KK G (tys6 cI cJ cZ cD cR cT) s) (hP : va_P G vwCl [(h0, .inr (11, [.ref h0_0, .ref h0_1, .ref h0_2, .ref h0_3, .int 0, .int 0, .ref h0_6, .ref h0_7, .ref h0_8, .int 0, .ref h0_10, .ref h0_11, .int 0, .ref h0_13, .int 0, .int 0])), (h0_0, .inr (0, [.ref h0_0_0, .ref h0_0_1, .ref h0_0_2, .ref h0_0_3, .ref h0_0_4, .ref h0_0_5, .int 0, .int 0, .ref h0_0_8, .int 0, .int 0, .int 0, .int 0, .long 0, .int 0, .ref h0_0_15, .ref h0_0_16])), (h0_0_0, .inr (4, [.int 0, .ref h0_0_0_1, .ref h0_0_0_2, .ref h0_0_0_3, .ref h0_0_0_4, .ref h0_0_0_5, .ref h0_0_0_6, .ref h0_0_0_7, .ref h0_0_0_8, .ref h0_0_0_9])), (h0_0_0_1, .inl (cI, 40, .inl (fun _ => 0))), (h0_0_0_2, .inl (cI, 40, .inl (fun _ => 0))), (h0_0_0_3, .inl (cI, 40, .inl (fun _ => 0))), (h0_0_0_4, .inl (cI, 40, .inl (fun _ => 0))), (h0_0_0_5, .inl (cI, 40, .inl (fun _ => 0))), (h0_0_0_6, .inl (cI, 40, .inl (fun _ => 0))), (h0_0_0_7, .inl (cI, 40, .inl (fun _ => 0))), (h0_0_0_8, .inl (cI, 40, .inl (fun _ => 0))), (h0_0_1, .inr (1, [.int 0, .ref h0_0_1_1, .ref h0_0_1_2, .ref h0_0_1_3, .ref h0_0_1_4, .ref h0_0_1_5, .ref h0_0_1_6, .ref h0_0_1_7, .int 0, .ref h0_0_1_9, .ref h0_0_1_10, .ref h0_0_1_11, .int (-1), .long 0, .long 0])), (h0_0_1_1, .inl (cI, 40, .inl (fun _ => 0))), (h0_0_1_2, .inl (cI, 40, .inl (fun _ => 0))), (h0_0_1_3, .inl (cI, 40, .inl (fun _ => 0))), (h0_0_1_4, .inl (cI, 40, .inl (fun _ => 0))), (h0_0_1_5, .inl (cI, 40, .inl (fun _ => 0))), (h0_0_1_6, .inl (cI, 40, .inl (fun _ => 0))), (h0_0_1_7, .inl (cI, 40, .inl (fun _ => 0))), (h0_0_1_9, .inl (cI, 8, .inl (fun _ => 0))), (h0_0_1_10, .inl (cI, 8, .inl (fun _ => 0))), (h0_0_1_11, .inl (cI, 8, .inl (fun _ => 0))), (h0_0_2, .inr (10, [.int 0, .ref h0_0_2_1, .ref h0_0_2_2, .ref h0_0_2_3, .ref h0_0_2_4, .ref h0_0_2_5, .ref h0_0_2_6, .int 0, .ref h0_0_2_8, .ref h0_0_2_9, .ref h0_0_2_10])), (h0_0_2_1, .inl (cI, 60, .inl (fun _ => 0))), (h0_0_2_2, .inl (cI, 60, .inl (fun _ => 0))), (h0_0_2_3, .inl (cI, 60, .inl (fun _ => 0))), (h0_0_2_4, .inl (cI, 60, .inl (fun _ => 0))), (h0_0_2_5, .inl (cI, 60, .inl (fun _ => 0))), (h0_0_2_6, .inl (cI, 60, .inl (fun _ => 0))), (h0_0_2_8, .inl (cI, 40, .inl (fun _ => 0))), (h0_0_2_9, .inl (cI, 40, .inl (fun _ => 0))), (h0_0_2_10, .inl (cI, 40, .inl (fun _ => 0))), (h0_0_3, .inr (7, [.ref h0_0_3_0, .ref h0_0_3_1])), (h0_0_3_0, .inl (cI, 400, .inl (fillU (fun _ => 0) (-1) 400))), (h0_0_3_1, .inl (cR, 400, .inr (.inr (.inr (.inr (fun _ => none)))))), (h0_0_4, .inr (2, [.int 0, .ref h0_0_4_1, .ref h0_0_4_2, .ref h0_0_4_3])), (h0_0_4_1, .inl (cT, 20, .inr (.inr (.inr (.inr (fun _ => none)))))), (h0_0_5, .inr (3, [.int 0, .int 50, .int 0, .int 0, .ref h0_0_5_4, .ref h0_0_5_5])), (h0_0_5_4, .inl (cI, 9, .inl (fun _ => 0))), (h0_0_5_5, .inl (cI, 9, .inl (fun _ => 0))), (h0_2, .inr (0, [.ref h0_2_0, .ref h0_2_1, .ref h0_2_2, .ref h0_2_3, .ref h0_2_4, .ref h0_2_5, .int 0, .int 0, .ref h0_2_8, .int 0, .int 0, .int 0, .int 0, .long 0, .int 0, .ref h0_2_15, .ref h0_2_16])), (h0_2_0, .inr (4, [.int 0, .ref h0_2_0_1, .ref h0_2_0_2, .ref h0_2_0_3, .ref h0_2_0_4, .ref h0_2_0_5, .ref h0_2_0_6, .ref h0_2_0_7, .ref h0_2_0_8, .ref h0_2_0_9])), (h0_2_0_1, .inl (cI, 40, .inl (fun _ => 0))), (h0_2_0_2, .inl (cI, 40, .inl (fun _ => 0))), (h0_2_0_3, .inl (cI, 40, .inl (fun _ => 0))), (h0_2_0_4, .inl (cI, 40, .inl (fun _ => 0))), (h0_2_0_5, .inl (cI, 40, .inl (fun _ => 0))), (h0_2_0_6, .inl (cI, 40, .inl (fun _ => 0))), (h0_2_0_7, .inl (cI, 40, .inl (fun _ => 0))), (h0_2_0_8, .inl (cI, 40, .inl (fun _ => 0))), (h0_2_1, .inr (1, [.int 0, .ref h0_2_1_1, .ref h0_2_1_2, .ref h0_2_1_3, .ref h0_2_1_4, .ref h0_2_1_5, .ref h0_2_1_6, .ref h0_2_1_7, .int 0, .ref h0_2_1_9, .ref h0_2_1_10, .ref h0_2_1_11, .int (-1), .long 0, .long 0])), (h0_2_1_1, .inl (cI, 40, .inl (fun _ => 0))), (h0_2_1_2, .inl (cI, 40, .inl (fun _ => 0))), (h0_2_1_3, .inl (cI, 40, .inl (fun _ => 0))), (h0_2_1_4, .inl (cI, 40, .inl (fun _ => 0))), (h0_2_1_5, .inl (cI, 40, .inl (fun _ => 0))), (h0_2_1_6, .inl (cI, 40, .inl (fun _ => 0))), (h0_2_1_7, .inl (cI, 40, .inl (fun _ => 0))), (h0_2_1_9, .inl (cI, 8, .inl (fun _ => 0))), (h0_2_1_10, .inl (cI, 8, .inl (fun _ => 0))), (h0_2_1_11, .inl (cI, 8, .inl (fun _ => 0))), (h0_2_2, .inr (10, [.int 0, .ref h0_2_2_1, .ref h0_2_2_2, .ref h0_2_2_3, .ref h0_2_2_4, .ref h0_2_2_5, .ref h0_2_2_6, .int 0, .ref h0_2_2_8, .ref h0_2_2_9, .ref h0_2_2_10])), (h0_2_2_1, .inl (cI, 60, .inl (fun _ => 0))), (h0_2_2_2, .inl (cI, 60, .inl (fun _ => 0))), (h0_2_2_3, .inl (cI, 60, .inl (fun _ => 0))), (h0_2_2_4, .inl (cI, 60, .inl (fun _ => 0))), (h0_2_2_5, .inl (cI, 60, .inl (fun _ => 0))), (h0_2_2_6, .inl (cI, 60, .inl (fun _ => 0))), (h0_2_2_8, .inl (cI, 40, .inl (fun _ => 0))), (h0_2_2_9, .inl (cI, 40, .inl (fun _ => 0))), (h0_2_2_10, .inl (cI, 40, .inl (fun _ => 0))), (h0_2_3, .inr (7, [.ref h0_2_3_0, .ref h0_2_3_1])), (h0_2_3_0, .inl (cI, 400, .inl (fillU (fun _ => 0) (-1) 400))), (h0_2_3_1, .inl (cR, 400, .inr (.inr (.inr (.inr (fun _ => none)))))), (h0_2_4, .inr (2, [.int 0, .ref h0_2_4_1, .ref h0_2_4_2, .ref h0_2_4_3])), (h0_2_4_1, .inl (cT, 20, .inr (.inr (.inr (.inr (fun _ => none)))))), (h0_2_5, .inr (3, [.int 0, .int 50, .int 0, .int 0, .ref h0_2_5_4, .ref h0_2_5_5])), (h0_2_5_4, .inl (cI, 9, .inl (fun _ => 0))), (h0_2_5_5, .inl (cI, 9, .inl (fun _ => 0))), (h0_2_8, .inl (cI, 40, .inl (fillU (fun _ => 0) (-1) 40))), (h0_3, .inr (0, [.ref h0_3_0, .ref h0_3_1, .ref h0_3_2, .ref h0_3_3, .ref h0_3_4, .ref h0_3_5, .int 0, .int 0, .ref h0_3_8, .int 0, .int 0, .int 0, .int 0, .long 0, .int 0, .ref h0_3_15, .ref h0_3_16])), (h0_3_0, .inr (4, [.int 0, .ref h0_3_0_1, .ref h0_3_0_2, .ref h0_3_0_3, .ref h0_3_0_4, .ref h0_3_0_5, .ref h0_3_0_6, .ref h0_3_0_7, .ref h0_3_0_8, .ref h0_3_0_9])), (h0_3_0_1, .inl (cI, 40, .inl (fun _ => 0))), (h0_3_0_2, .inl (cI, 40, .inl (fun _ => 0))), (h0_3_0_3, .inl (cI, 40, .inl (fun _ => 0))), (h0_3_0_4, .inl (cI, 40, .inl (fun _ => 0))), (h0_3_0_5, .inl (cI, 40, .inl (fun _ => 0))), (h0_3_0_6, .inl (cI, 40, .inl (fun _ => 0))), (h0_3_0_7, .inl (cI, 40, .inl (fun _ => 0))), (h0_3_0_8, .inl (cI, 40, .inl (fun _ => 0))), (h0_3_1, .inr (1, [.int 0, .ref h0_3_1_1, .ref h0_3_1_2, .ref h0_3_1_3, .ref h0_3_1_4, .ref h0_3_1_5, .ref h0_3_1_6, .ref h0_3_1_7, .int 0, .ref h0_3_1_9, .ref h0_3_1_10, .ref h0_3_1_11, .int (-1), .long 0, .long 0])), (h0_3_1_1, .inl (cI, 40, .inl (fun _ => 0))), (h0_3_1_2, .inl (cI, 40, .inl (fun _ => 0))), (h0_3_1_3, .inl (cI, 40, .inl (fun _ => 0))), (h0_3_1_4, .inl (cI, 40, .inl (fun _ => 0))), (h0_3_1_5, .inl (cI, 40, .inl (fun _ => 0))), (h0_3_1_6, .inl (cI, 40, .inl (fun _ => 0))), (h0_3_1_7, .inl (cI, 40, .inl (fun _ => 0))), (h0_3_1_9, .inl (cI, 8, .inl (fun _ => 0))), (h0_3_1_10, .inl (cI, 8, .inl (fun _ => 0))), (h0_3_1_11, .inl (cI, 8, .inl (fun _ => 0))), (h0_3_2, .inr (10, [.int 0, .ref h0_3_2_1, .ref h0_3_2_2, .ref h0_3_2_3, .ref h0_3_2_4, .ref h0_3_2_5, .ref h0_3_2_6, .int 0, .ref h0_3_2_8, .ref h0_3_2_9, .ref h0_3_2_10])), (h0_3_2_1, .inl (cI, 60, .inl (fun _ => 0))), (h0_3_2_2, .inl (cI, 60, .inl (fun _ => 0))), (h0_3_2_3, .inl (cI, 60, .inl (fun _ => 0))), (h0_3_2_4, .inl (cI, 60, .inl (fun _ => 0))), (h0_3_2_5, .inl (cI, 60, .inl (fun _ => 0))), (h0_3_2_6, .inl (cI, 60, .inl (fun _ => 0))), (h0_3_2_8, .inl (cI, 40, .inl (fun _ => 0))), (h0_3_2_9, .inl (cI, 40, .inl (fun _ => 0))), (h0_3_2_10, .inl (cI, 40, .inl (fun _ => 0))), (h0_3_3, .inr (7, [.ref h0_3_3_0, .ref h0_3_3_1])), (h0_3_3_0, .inl (cI, 400, .inl (fillU (fun _ => 0) (-1) 400))), (h0_3_3_1, .inl (cR, 400, .inr (.inr (.inr (.inr (fun _ => none)))))), (h0_3_4, .inr (2, [.int 0, .ref h0_3_4_1, .ref h0_3_4_2, .ref h0_3_4_3])), (h0_3_4_1, .inl (cT, 20, .inr (.inr (.inr (.inr (fun _ => none)))))), (h0_3_5, .inr (3, [.int 0, .int 50, .int 0, .int 0, .ref h0_3_5_4, .ref h0_3_5_5])), (h0_3_5_4, .inl (cI, 9, .inl (fun _ => 0))), (h0_3_5_5, .inl (cI, 9, .inl (fun _ => 0))), (h0_3_8, .inl (cI, 40, .inl (fillU (fun _ => 0) (-1) 40))), (k0, .inr (12, [.int 0, .int 0, .ref k0_2, .ref k0_3, .ref k0_4, .ref k0_5, .int 0, .int 0, .int 0, .ref k0_9, .ref k0_10, .ref k0_11, .int 0, .int 0, .int 0, .int 0, .long 0, .int (-1), .int 0, .int 0, .ref k0_20, .int 0, .ref k0_22, .ref k0_23, .int 0, .ref k0_25, .ref k0_26, .int 0, .int 0, .ref k0_29, .ref k0_30, .ref k0_31, .ref k0_32, .int 0, .long 0, .long 0, .long 0, .long 0, .int 0, .ref k0_39, .ref k0_40, .int 0, .ref k0_42, .int 0, .ref k0_44, .ref k0_45, .int 0, .int 0, .int 0, .int 0, .int 0, .int 0])), (k0_2, .inl (cI, 35942, .inl mrow)), (k0_3, .inl (cI, 71884, .inl (fun _ => 0))), (k0_5, .inl (cZ, 2, .inl (fun _ => 0)))] H) (hD : va_D (fun q : Nat => s.heap.size ≤ q) [(h0, .inr (11, [.ref h0_0, .ref h0_1, .ref h0_2, .ref h0_3, .int 0, .int 0, .ref h0_6, .ref h0_7, .ref h0_8, .int 0, .ref h0_10, .ref h0_11, .int 0, .ref h0_13, .int 0, .int 0])), (h0_0, .inr (0, [.ref h0_0_0, .ref h0_0_1, .ref h0_0_2, .ref h0_0_3, .ref h0_0_4, .ref h0_0_5, .int 0, .int 0, .ref h0_0_8, .int 0, .int 0, .int 0, .int 0, .long 0, .int 0, .ref h0_0_15, .ref h0_0_16])), (h0_0_0, .inr (4, [.int 0, .ref h0_0_0_1, .ref h0_0_0_2, .ref h0_0_0_3, .ref h0_0_0_4, .ref h0_0_0_5, .ref h0_0_0_6, .ref h0_0_0_7, .ref h0_0_0_8, .ref h0_0_0_9])), (h0_0_0_1, .inl (cI, 40, .inl (fun _ => 0))), (h0_0_0_2, .inl (cI, 40, .inl (fun _ => 0))), (h0_0_0_3, .inl (cI, 40, .inl (fun _ => 0))), (h0_0_0_4, .inl (cI, 40, .inl (fun _ => 0))), (h0_0_0_5, .inl (cI, 40, .inl (fun _ => 0))), (h0_0_0_6, .inl (cI, 40, .inl (fun _ => 0))), (h0_0_0_7, .inl (cI, 40, .inl (fun _ => 0))), (h0_0_0_8, .inl (cI, 40, .inl (fun _ => 0))), (h0_0_1, .inr (1, [.int 0, .ref h0_0_1_1, .ref h0_0_1_2, .ref h0_0_1_3, .ref h0_0_1_4, .ref h0_0_1_5, .ref h0_0_1_6, .ref h0_0_1_7, .int 0, .ref h0_0_1_9, .ref h0_0_1_10, .ref h0_0_1_11, .int (-1), .long 0, .long 0])), (h0_0_1_1, .inl (cI, 40, .inl (fun _ => 0))), (h0_0_1_2, .inl (cI, 40, .inl (fun _ => 0))), (h0_0_1_3, .inl (cI, 40, .inl (fun _ => 0))), (h0_0_1_4, .inl (cI, 40, .inl (fun _ => 0))), (h0_0_1_5, .inl (cI, 40, .inl (fun _ => 0))), (h0_0_1_6, .inl (cI, 40, .inl (fun _ => 0))), (h0_0_1_7, .inl (cI, 40, .inl (fun _ => 0))), (h0_0_1_9, .inl (cI, 8, .inl (fun _ => 0))), (h0_0_1_10, .inl (cI, 8, .inl (fun _ => 0))), (h0_0_1_11, .inl (cI, 8, .inl (fun _ => 0))), (h0_0_2, .inr (10, [.int 0, .ref h0_0_2_1, .ref h0_0_2_2, .ref h0_0_2_3, .ref h0_0_2_4, .ref h0_0_2_5, .ref h0_0_2_6, .int 0, .ref h0_0_2_8, .ref h0_0_2_9, .ref h0_0_2_10])), (h0_0_2_1, .inl (cI, 60, .inl (fun _ => 0))), (h0_0_2_2, .inl (cI, 60, .inl (fun _ => 0))), (h0_0_2_3, .inl (cI, 60, .inl (fun _ => 0))), (h0_0_2_4, .inl (cI, 60, .inl (fun _ => 0))), (h0_0_2_5, .inl (cI, 60, .inl (fun _ => 0))), (h0_0_2_6, .inl (cI, 60, .inl (fun _ => 0))), (h0_0_2_8, .inl (cI, 40, .inl (fun _ => 0))), (h0_0_2_9, .inl (cI, 40, .inl (fun _ => 0))), (h0_0_2_10, .inl (cI, 40, .inl (fun _ => 0))), (h0_0_3, .inr (7, [.ref h0_0_3_0, .ref h0_0_3_1])), (h0_0_3_0, .inl (cI, 400, .inl (fillU (fun _ => 0) (-1) 400))), (h0_0_3_1, .inl (cR, 400, .inr (.inr (.inr (.inr (fun _ => none)))))), (h0_0_4, .inr (2, [.int 0, .ref h0_0_4_1, .ref h0_0_4_2, .ref h0_0_4_3])), (h0_0_4_1, .inl (cT, 20, .inr (.inr (.inr (.inr (fun _ => none)))))), (h0_0_5, .inr (3, [.int 0, .int 50, .int 0, .int 0, .ref h0_0_5_4, .ref h0_0_5_5])), (h0_0_5_4, .inl (cI, 9, .inl (fun _ => 0))), (h0_0_5_5, .inl (cI, 9, .inl (fun _ => 0))), (h0_2, .inr (0, [.ref h0_2_0, .ref h0_2_1, .ref h0_2_2, .ref h0_2_3, .ref h0_2_4, .ref h0_2_5, .int 0, .int 0, .ref h0_2_8, .int 0, .int 0, .int 0, .int 0, .long 0, .int 0, .ref h0_2_15, .ref h0_2_16])), (h0_2_0, .inr (4, [.int 0, .ref h0_2_0_1, .ref h0_2_0_2, .ref h0_2_0_3, .ref h0_2_0_4, .ref h0_2_0_5, .ref h0_2_0_6, .ref h0_2_0_7, .ref h0_2_0_8, .ref h0_2_0_9])), (h0_2_0_1, .inl (cI, 40, .inl (fun _ => 0))), (h0_2_0_2, .inl (cI, 40, .inl (fun _ => 0))), (h0_2_0_3, .inl (cI, 40, .inl (fun _ => 0))), (h0_2_0_4, .inl (cI, 40, .inl (fun _ => 0))), (h0_2_0_5, .inl (cI, 40, .inl (fun _ => 0))), (h0_2_0_6, .inl (cI, 40, .inl (fun _ => 0))), (h0_2_0_7, .inl (cI, 40, .inl (fun _ => 0))), (h0_2_0_8, .inl (cI, 40, .inl (fun _ => 0))), (h0_2_1, .inr (1, [.int 0, .ref h0_2_1_1, .ref h0_2_1_2, .ref h0_2_1_3, .ref h0_2_1_4, .ref h0_2_1_5, .ref h0_2_1_6, .ref h0_2_1_7, .int 0, .ref h0_2_1_9, .ref h0_2_1_10, .ref h0_2_1_11, .int (-1), .long 0, .long 0])), (h0_2_1_1, .inl (cI, 40, .inl (fun _ => 0))), (h0_2_1_2, .inl (cI, 40, .inl (fun _ => 0))), (h0_2_1_3, .inl (cI, 40, .inl (fun _ => 0))), (h0_2_1_4, .inl (cI, 40, .inl (fun _ => 0))), (h0_2_1_5, .inl (cI, 40, .inl (fun _ => 0))), (h0_2_1_6, .inl (cI, 40, .inl (fun _ => 0))), (h0_2_1_7, .inl (cI, 40, .inl (fun _ => 0))), (h0_2_1_9, .inl (cI, 8, .inl (fun _ => 0))), (h0_2_1_10, .inl (cI, 8, .inl (fun _ => 0))), (h0_2_1_11, .inl (cI, 8, .inl (fun _ => 0))), (h0_2_2, .inr (10, [.int 0, .ref h0_2_2_1, .ref h0_2_2_2, .ref h0_2_2_3, .ref h0_2_2_4, .ref h0_2_2_5, .ref h0_2_2_6, .int 0, .ref h0_2_2_8, .ref h0_2_2_9, .ref h0_2_2_10])), (h0_2_2_1, .inl (cI, 60, .inl (fun _ => 0))), (h0_2_2_2, .inl (cI, 60, .inl (fun _ => 0))), (h0_2_2_3, .inl (cI, 60, .inl (fun _ => 0))), (h0_2_2_4, .inl (cI, 60, .inl (fun _ => 0))), (h0_2_2_5, .inl (cI, 60, .inl (fun _ => 0))), (h0_2_2_6, .inl (cI, 60, .inl (fun _ => 0))), (h0_2_2_8, .inl (cI, 40, .inl (fun _ => 0))), (h0_2_2_9, .inl (cI, 40, .inl (fun _ => 0))), (h0_2_2_10, .inl (cI, 40, .inl (fun _ => 0))), (h0_2_3, .inr (7, [.ref h0_2_3_0, .ref h0_2_3_1])), (h0_2_3_0, .inl (cI, 400, .inl (fillU (fun _ => 0) (-1) 400))), (h0_2_3_1, .inl (cR, 400, .inr (.inr (.inr (.inr (fun _ => none)))))), (h0_2_4, .inr (2, [.int 0, .ref h0_2_4_1, .ref h0_2_4_2, .ref h0_2_4_3])), (h0_2_4_1, .inl (cT, 20, .inr (.inr (.inr (.inr (fun _ => none)))))), (h0_2_5, .inr (3, [.int 0, .int 50, .int 0, .int 0, .ref h0_2_5_4, .ref h0_2_5_5])), (h0_2_5_4, .inl (cI, 9, .inl (fun _ => 0))), (h0_2_5_5, .inl (cI, 9, .inl (fun _ => 0))), (h0_2_8, .inl (cI, 40, .inl (fillU (fun _ => 0) (-1) 40))), (h0_3, .inr (0, [.ref h0_3_0, .ref h0_3_1, .ref h0_3_2, .ref h0_3_3, .ref h0_3_4, .ref h0_3_5, .int 0, .int 0, .ref h0_3_8, .int 0, .int 0, .int 0, .int 0, .long 0, .int 0, .ref h0_3_15, .ref h0_3_16])), (h0_3_0, .inr (4, [.int 0, .ref h0_3_0_1, .ref h0_3_0_2, .ref h0_3_0_3, .ref h0_3_0_4, .ref h0_3_0_5, .ref h0_3_0_6, .ref h0_3_0_7, .ref h0_3_0_8, .ref h0_3_0_9])), (h0_3_0_1, .inl (cI, 40, .inl (fun _ => 0))), (h0_3_0_2, .inl (cI, 40, .inl (fun _ => 0))), (h0_3_0_3, .inl (cI, 40, .inl (fun _ => 0))), (h0_3_0_4, .inl (cI, 40, .inl (fun _ => 0))), (h0_3_0_5, .inl (cI, 40, .inl (fun _ => 0))), (h0_3_0_6, .inl (cI, 40, .inl (fun _ => 0))), (h0_3_0_7, .inl (cI, 40, .inl (fun _ => 0))), (h0_3_0_8, .inl (cI, 40, .inl (fun _ => 0))), (h0_3_1, .inr (1, [.int 0, .ref h0_3_1_1, .ref h0_3_1_2, .ref h0_3_1_3, .ref h0_3_1_4, .ref h0_3_1_5, .ref h0_3_1_6, .ref h0_3_1_7, .int 0, .ref h0_3_1_9, .ref h0_3_1_10, .ref h0_3_1_11, .int (-1), .long 0, .long 0])), (h0_3_1_1, .inl (cI, 40, .inl (fun _ => 0))), (h0_3_1_2, .inl (cI, 40, .inl (fun _ => 0))), (h0_3_1_3, .inl (cI, 40, .inl (fun _ => 0))), (h0_3_1_4, .inl (cI, 40, .inl (fun _ => 0))), (h0_3_1_5, .inl (cI, 40, .inl (fun _ => 0))), (h0_3_1_6, .inl (cI, 40, .inl (fun _ => 0))), (h0_3_1_7, .inl (cI, 40, .inl (fun _ => 0))), (h0_3_1_9, .inl (cI, 8, .inl (fun _ => 0))), (h0_3_1_10, .inl (cI, 8, .inl (fun _ => 0))), (h0_3_1_11, .inl (cI, 8, .inl (fun _ => 0))), (h0_3_2, .inr (10, [.int 0, .ref h0_3_2_1, .ref h0_3_2_2, .ref h0_3_2_3, .ref h0_3_2_4, .ref h0_3_2_5, .ref h0_3_2_6, .int 0, .ref h0_3_2_8, .ref h0_3_2_9, .ref h0_3_2_10])), (h0_3_2_1, .inl (cI, 60, .inl (fun _ => 0))), (h0_3_2_2, .inl (cI, 60, .inl (fun _ => 0))), (h0_3_2_3, .inl (cI, 60, .inl (fun _ => 0))), (h0_3_2_4, .inl (cI, 60, .inl (fun _ => 0))), (h0_3_2_5, .inl (cI, 60, .inl (fun _ => 0))), (h0_3_2_6, .inl (cI, 60, .inl (fun _ => 0))), (h0_3_2_8, .inl (cI, 40, .inl (fun _ => 0))), (h0_3_2_9, .inl (cI, 40, .inl (fun _ => 0))), (h0_3_2_10, .inl (cI, 40, .inl (fun _ => 0))), (h0_3_3, .inr (7, [.ref h0_3_3_0, .ref h0_3_3_1])), (h0_3_3_0, .inl (cI, 400, .inl (fillU (fun _ => 0) (-1) 400))), (h0_3_3_1, .inl (cR, 400, .inr (.inr (.inr (.inr (fun _ => none)))))), (h0_3_4, .inr (2, [.int 0, .ref h0_3_4_1, .ref h0_3_4_2, .ref h0_3_4_3])), (h0_3_4_1, .inl (cT, 20, .inr (.inr (.inr (.inr (fun _ => none)))))), (h0_3_5, .inr (3, [.int 0, .int 50, .int 0, .int 0, .ref h0_3_5_4, .ref h0_3_5_5])), (h0_3_5_4, .inl (cI, 9, .inl (fun _ => 0))), (h0_3_5_5, .inl (cI, 9, .inl (fun _ => 0))), (h0_3_8, .inl (cI, 40, .inl (fillU (fun _ => 0) (-1) 40))), (k0, .inr (12, [.int 0, .int 0, .ref k0_2, .ref k0_3, .ref k0_4, .ref k0_5, .int 0, .int 0, .int 0, .ref k0_9, .ref k0_10, .ref k0_11, .int 0, .int 0, .int 0, .int 0, .long 0, .int (-1), .int 0, .int 0, .ref k0_20, .int 0, .ref k0_22, .ref k0_23, .int 0, .ref k0_25, .ref k0_26, .int 0, .int 0, .ref k0_29, .ref k0_30, .ref k0_31, .ref k0_32, .int 0, .long 0, .long 0, .long 0, .long 0, .int 0, .ref k0_39, .ref k0_40, .int 0, .ref k0_42, .int 0, .ref k0_44, .ref k0_45, .int 0, .int 0, .int 0, .int 0, .int 0, .int 0])), (k0_2, .inl (cI, 35942, .inl mrow)), (k0_3, .inl (cI, 71884, .inl (fun _ => 0))), (k0_5, .inl (cZ, 2, .inl (fun _ => 0)))]) (hS : va_S (fun q : Nat => s.heap.size ≤ q) s.heap H locs) (hl : lv_has ls 4 [(3, .int 0), (2, .ref k0), (1, .ref h0), (0, .ref b)]) : W p l e room_1 s m #[Value.ref b] below meth c H locs 221 158368 (lw_Z below #[Value.ref b] s) (F0 m 1596 ls []) := by
  have hK := hKK.1
  have hA : ∀ q : Nat, s.heap.size ≤ q → (fun q : Nat => s.heap.size ≤ q) q := fun _ h => h
  have hbA : ¬ (fun q : Nat => s.heap.size ≤ q) b := Nat.not_le.mpr hbl
  refine lv_aload_n hx hb dL_law_1596 rfl (lv_at hl 2 rfl) ?_
  refine lv_aload_n hx hb dL_law_1597 rfl (lv_at hl 3 rfl) ?_
  refine lv_iload_n hx hb dL_law_1598 rfl (lv_at hl 0 rfl) ?_
  refine lv_iconst (v := 1) hx hb dL_law_1599 (by decide) ?_
  refine lv_iadd hx hb dL_law_1600 ?_
  refine lv_topi (fun x1 ex1 => ?_)
  obtain rfl : 1 = x1 := (ex1.trans (by decide)).symm
  refine va_sld hx hb hX hbl hbA hS (vp_in_iff.mpr (by decide)) dL_law_1601 ?_
  refine lv_topi (fun x2 ex2 => ?_)
  obtain rfl : xs 1 = x2 := (ex2.trans rfl).symm
  refine goV (As := [.int (xs 1)]) (rest := []) (wr := [(k0, .inr (12, [.int 0, .int 0, .ref k0_2, .ref k0_3, .ref k0_4, .ref k0_5, .int 0, .int 0, .int 0, .ref k0_9, .ref k0_10, .ref k0_11, .int 0, .int 0, .int 0, .int 0, .long 0, .int (-1), .int 0, .int 0, .ref k0_20, .int 0, .ref k0_22, .ref k0_23, .int 0, .ref k0_25, .ref k0_26, .int 0, .int 0, .ref k0_29, .ref k0_30, .ref k0_31, .ref k0_32, .int 0, .long 0, .long 0, .long 0, .long 0, .int 0, .ref k0_39, .ref k0_40, .int 0, .ref k0_42, .int 0, .ref k0_44, .ref k0_45, .int 0, .int 0, .int 0, .int 0, .int 0, .int 0])), (k0_2, .inl (cI, 35942, .inl mrow)), (k0_3, .inl (cI, 71884, .inl (fun _ => 0))), (k0_5, .inl (cZ, 2, .inl (fun _ => 0)))]) ⟨hx, hb, hml, hown, hts⟩ (c_X11_image l G cI cJ cZ cD cR cT h0 (xs 1) h0_0 h0_1 h0_2 h0_3 h0_6 h0_7 h0_8 h0_10 h0_11 h0_13 h0_0_0 h0_0_1 h0_0_2 h0_0_3 h0_0_4 h0_0_5 h0_0_8 h0_0_15 h0_0_16 h0_0_0_1 h0_0_0_2 h0_0_0_3 h0_0_0_4 h0_0_0_5 h0_0_0_6 h0_0_0_7 h0_0_0_8 h0_0_0_9 h0_0_1_1 h0_0_1_2 h0_0_1_3 h0_0_1_4 h0_0_1_5 h0_0_1_6 h0_0_1_7 h0_0_1_9 h0_0_1_10 h0_0_1_11 h0_0_2_1 h0_0_2_2 h0_0_2_3 h0_0_2_4 h0_0_2_5 h0_0_2_6 h0_0_2_8 h0_0_2_9 h0_0_2_10 h0_0_3_0 h0_0_3_1 h0_0_4_1 h0_0_4_2 h0_0_4_3 h0_0_5_4 h0_0_5_5 h0_2_0 h0_2_1 h0_2_2 h0_2_3 h0_2_4 h0_2_5 h0_2_8 h0_2_15 h0_2_16 h0_2_0_1 h0_2_0_2 h0_2_0_3 h0_2_0_4 h0_2_0_5 h0_2_0_6 h0_2_0_7 h0_2_0_8 h0_2_0_9 h0_2_1_1 h0_2_1_2 h0_2_1_3 h0_2_1_4 h0_2_1_5 h0_2_1_6 h0_2_1_7 h0_2_1_9 h0_2_1_10 h0_2_1_11 h0_2_2_1 h0_2_2_2 h0_2_2_3 h0_2_2_4 h0_2_2_5 h0_2_2_6 h0_2_2_8 h0_2_2_9 h0_2_2_10 h0_2_3_0 h0_2_3_1 h0_2_4_1 h0_2_4_2 h0_2_4_3 h0_2_5_4 h0_2_5_5 h0_3_0 h0_3_1 h0_3_2 h0_3_3 h0_3_4 h0_3_5 h0_3_8 h0_3_15 h0_3_16 h0_3_0_1 h0_3_0_2 h0_3_0_3 h0_3_0_4 h0_3_0_5 h0_3_0_6 h0_3_0_7 h0_3_0_8 h0_3_0_9 h0_3_1_1 h0_3_1_2 h0_3_1_3 h0_3_1_4 h0_3_1_5 h0_3_1_6 h0_3_1_7 h0_3_1_9 h0_3_1_10 h0_3_1_11 h0_3_2_1 h0_3_2_2 h0_3_2_3 h0_3_2_4 h0_3_2_5 h0_3_2_6 h0_3_2_8 h0_3_2_9 h0_3_2_10 h0_3_3_0 h0_3_3_1 h0_3_4_1 h0_3_4_2 h0_3_4_3 h0_3_5_4 h0_3_5_5 _) (cwV 1 hts gv_law43_192_X11_image rfl rfl rfl (by decide +kernel) ⟨Nat.le_of_ble_eq_true rfl, Nat.le_of_ble_eq_true rfl⟩) 0 rfl rfl rfl hKK hP hD hS hA [0, 1, 2, 3, 4, 5, 6, 7, 8, 9, 10, 11, 12, 13, 14, 15, 16, 17, 18, 19, 20, 21, 22, 23, 24, 25, 26, 27, 28, 29, 30, 31, 32, 33, 34, 35, 36, 37, 38, 39, 40, 41, 42, 43, 44, 45, 46, 47, 48, 49, 50, 51, 52, 53, 54, 55, 56, 57, 58, 59, 60, 61, 62, 63, 64, 65, 66, 67, 68, 69, 70, 71, 72, 73, 74, 75, 76, 77, 78, 79, 80, 81, 82, 83, 84, 85, 86, 87, 88, 89, 90, 91, 92, 93, 94, 95, 96, 97, 98, 99, 100, 101, 102, 103, 104, 105, 106, 107, 108, 109, 110, 111, 112, 113, 114, 115, 116, 117, 118, 119] [120, 121, 122, 123] rfl rfl (by decide +kernel) (by decide +kernel) (by decide +kernel) rfl hl.1 rfl (lv_room (Nat.le_of_ble_eq_true rfl)) dL_law_1602 ⟨Nat.le_of_ble_eq_true rfl, Nat.le_of_ble_eq_true rfl⟩ (fun v4 q3 gq3 H locs hv4 => appW (ws' := [(k0, .inr (12, [.int 0, .int 0, .ref k0_2, .ref k0_3, .ref k0_4, .ref k0_5, .int 0, .int 0, .int 0, .ref k0_9, .ref k0_10, .ref k0_11, .int 0, .int 0, .int 0, .int 0, .long 0, .int (-1), .int 0, .int 0, .ref k0_20, .int 0, .ref k0_22, .ref k0_23, .int 0, .ref k0_25, .ref k0_26, .int 0, .int 0, .ref k0_29, .ref k0_30, .ref k0_31, .ref k0_32, .int 0, .long 0, .long 0, .long 0, .long 0, .int 0, .ref k0_39, .ref k0_40, .int 0, .ref k0_42, .int 0, .ref k0_44, .ref k0_45, .int 0, .int 0, .int 0, .int 0, .int 0, .int 0])), (k0_2, .inl (cI, 35942, .inl mrow)), (k0_3, .inl (cI, 71884, .inl (fun _ => 0))), (k0_5, .inl (cZ, 2, .inl (fun _ => 0)))]) rfl (fun hP hD hS => ?_))
  obtain ⟨r5, rfl, hr5⟩ := hv4
  refine lv_aload_n hx hb dL_law_1605 rfl (lv_at hl 1 rfl) ?_
  refine lv_aload_n hx hb dL_law_1606 rfl (lv_at hl 3 rfl) ?_
  refine lv_iload_n hx hb dL_law_1607 rfl (lv_at hl 0 rfl) ?_
  refine lv_iconst (v := 1) hx hb dL_law_1608 (by decide) ?_
  refine lv_iadd hx hb dL_law_1609 ?_
  refine lv_topi (fun x6 ex6 => ?_)
  obtain rfl : 1 = x6 := (ex6.trans (by decide)).symm
  refine va_sld hx hb hX hbl hbA hS (vp_in_iff.mpr (by decide)) dL_law_1610 ?_
  refine lv_topi (fun x7 ex7 => ?_)
  obtain rfl : xs 1 = x7 := (ex7.trans rfl).symm
  refine goV (As := [.int (xs 1)]) (rest := [.int r5]) (wr := []) ⟨hx, hb, hml, hown, hts⟩ (c_X12_image l G cI cJ cZ cD cR cT k0 (xs 1) k0_2 k0_3 k0_4 k0_5 k0_9 k0_10 k0_11 k0_20 k0_22 k0_23 k0_25 k0_26 k0_29 k0_30 k0_31 k0_32 k0_39 k0_40 k0_42 k0_44 k0_45 _) (cwV 1 hts gv_law43_195_X12_image rfl rfl rfl (by decide +kernel) ⟨Nat.le_of_ble_eq_true rfl, Nat.le_of_ble_eq_true rfl⟩) 0 rfl rfl rfl hKK hP hD hS hA [0, 1, 2, 3] [] rfl rfl (by decide +kernel) (by decide +kernel) (by decide +kernel) rfl hl.1 rfl (lv_room (Nat.le_of_ble_eq_true rfl)) dL_law_1611 ⟨Nat.le_of_ble_eq_true rfl, Nat.le_of_ble_eq_true rfl⟩ (fun v9 q8 gq8 H locs hv9 => appW (ws' := []) rfl (fun hP hD hS => ?_))
  obtain ⟨r10, rfl, hr10⟩ := hv9
  refine lv_icmp_eq (tgt := 1678) hx hb dL_law_1614 (by decide) (fun _ => ?_) (fun c => absurd (hr5.trans hr10.symm) c)
  refine lv_iinc (v := 6) (lv' := [(3, .int 6), (2, .ref k0), (1, .ref h0), (0, .ref b)]) hx hb dL_law_1678 hl (k := 0) rfl (by decide) (by decide) rfl (fun ls hl => ?_)
  refine lv_goto (tgt := 18) hx hb dL_law_1681 (by decide) ?_
  refine lv_iload_n hx hb dL_law_18 rfl (lv_at hl 0 rfl) ?_
  refine lv_aload_n hx hb dL_law_19 rfl (lv_at hl 3 rfl) ?_
  refine va_slen hx hb hX hbl hbA hS dL_law_20 ?_
  refine lv_topi (fun x11 ex11 => ?_)
  obtain rfl : 6 = x11 := (ex11.trans rfl).symm
  refine lv_bipush (v := 6) hx hb dL_law_21 (by decide) ?_
  refine lv_isub hx hb dL_law_23 ?_
  refine lv_topi (fun x12 ex12 => ?_)
  obtain rfl : 0 = x12 := (ex12.trans (by decide)).symm
  refine lv_icmp_gt (tgt := 1684) hx hb dL_law_24 (by decide) (fun _ => ?_) (fun c => absurd c (by decide))
  refine lv_iconst (v := 1) hx hb dL_law_1684 (by decide) ?_
  refine va_forget (fun q h => hS.2.2 q h) ?_
  refine W.widen (k := 600000) (n := 7302250) (Nat.le_of_ble_eq_true rfl) (Nat.le_of_ble_eq_true rfl) ?_
  exact W.base (lw_ret (Drawn.sameBut.refl s.drawn lw_cs) hx hb hr hlocks dL_law_1685)
set_option maxRecDepth 20000 in
theorem gv_law44_196_X11_back : GoodIn lw_tbl (wsV RL 196 RX11 yX11_back v_X11_back) := goodIn_app (goodIn_r _ [1372, 1373, 1374, 103] (by decide +kernel) (by decide +kernel)) (gi tb_X11_back gd_X11_back)
set_option maxRecDepth 20000 in
theorem gv_law44_199_X12_back : GoodIn lw_tbl (wsV RL 199 RX12 yX12_back v_X12_back) := goodIn_app (goodIn_r _ [1561, 1562, 1563, 114] (by decide +kernel) (by decide +kernel)) (gi tb_X12_back gd_X12_back)
set_option maxHeartbeats 4000000 in
set_option maxRecDepth 100000 in
theorem law_case_44 {p : Program} {e : Env} {s : State} {m : MethodId} {below : List Frame} {meth : Method} {c : Code} (l : Launch) (G : va_G) (cI cJ cZ cD cR cT : ClassId) {b : Nat} {xs : Nat → Int32} (h0 k0 h0_0 h0_1 h0_2 h0_3 h0_6 h0_7 h0_8 h0_10 h0_11 h0_13 k0_2 k0_3 k0_4 k0_5 k0_9 k0_10 k0_11 k0_20 k0_22 k0_23 k0_25 k0_26 k0_29 k0_30 k0_31 k0_32 k0_39 k0_40 k0_42 k0_44 k0_45 : Nat) {H : Heap} {locs : List Loc} {ls : Array Slot} (hx : p.tables.exec = Jvm.exec) (hb : c.code = code) (hr : meth.sig.returnType = ret) (hml : c.maxLocals = 4) (hown : s.vm.findClass RL = some m.cls) (hts : ∀ w ∈ lw_tbl, w.before #[Value.ref b] s = true) (hX : va_X b 6 xs s s.heap) (hbl : b < s.heap.size) (hlocks : meth.locks = false) (hKK : KK G (tys6 cI cJ cZ cD cR cT) s) (hP : va_P G vwCl [(h0, .inr (11, [.ref h0_0, .ref h0_1, .ref h0_2, .ref h0_3, .int 0, .int 0, .ref h0_6, .ref h0_7, .ref h0_8, .int 0, .ref h0_10, .ref h0_11, .int 0, .ref h0_13, .int 0, .int 0])), (k0, .inr (12, [.int 0, .int 0, .ref k0_2, .ref k0_3, .ref k0_4, .ref k0_5, .int 0, .int 0, .int 0, .ref k0_9, .ref k0_10, .ref k0_11, .int 0, .int 0, .int 0, .int 0, .long 0, .int (-1), .int 0, .int 0, .ref k0_20, .int 0, .ref k0_22, .ref k0_23, .int 0, .ref k0_25, .ref k0_26, .int 0, .int 0, .ref k0_29, .ref k0_30, .ref k0_31, .ref k0_32, .int 0, .long 0, .long 0, .long 0, .long 0, .int 0, .ref k0_39, .ref k0_40, .int 0, .ref k0_42, .int 0, .ref k0_44, .ref k0_45, .int 0, .int 0, .int 0, .int 0, .int 0, .int 0])), (k0_5, .inl (cZ, 2, .inl (fun _ => 0)))] H) (hD : va_D (fun q : Nat => s.heap.size ≤ q) [(h0, .inr (11, [.ref h0_0, .ref h0_1, .ref h0_2, .ref h0_3, .int 0, .int 0, .ref h0_6, .ref h0_7, .ref h0_8, .int 0, .ref h0_10, .ref h0_11, .int 0, .ref h0_13, .int 0, .int 0])), (k0, .inr (12, [.int 0, .int 0, .ref k0_2, .ref k0_3, .ref k0_4, .ref k0_5, .int 0, .int 0, .int 0, .ref k0_9, .ref k0_10, .ref k0_11, .int 0, .int 0, .int 0, .int 0, .long 0, .int (-1), .int 0, .int 0, .ref k0_20, .int 0, .ref k0_22, .ref k0_23, .int 0, .ref k0_25, .ref k0_26, .int 0, .int 0, .ref k0_29, .ref k0_30, .ref k0_31, .ref k0_32, .int 0, .long 0, .long 0, .long 0, .long 0, .int 0, .ref k0_39, .ref k0_40, .int 0, .ref k0_42, .int 0, .ref k0_44, .ref k0_45, .int 0, .int 0, .int 0, .int 0, .int 0, .int 0])), (k0_5, .inl (cZ, 2, .inl (fun _ => 0)))]) (hS : va_S (fun q : Nat => s.heap.size ≤ q) s.heap H locs) (hl : lv_has ls 4 [(3, .int 0), (2, .ref k0), (1, .ref h0), (0, .ref b)]) : W p l e room_1 s m #[Value.ref b] below meth c H locs 221 158368 (lw_Z below #[Value.ref b] s) (F0 m 1619 ls []) := by
  have hK := hKK.1
  have hA : ∀ q : Nat, s.heap.size ≤ q → (fun q : Nat => s.heap.size ≤ q) q := fun _ h => h
  have hbA : ¬ (fun q : Nat => s.heap.size ≤ q) b := Nat.not_le.mpr hbl
  refine lv_aload_n hx hb dL_law_1619 rfl (lv_at hl 2 rfl) ?_
  refine lv_aload_n hx hb dL_law_1620 rfl (lv_at hl 3 rfl) ?_
  refine lv_iload_n hx hb dL_law_1621 rfl (lv_at hl 0 rfl) ?_
  refine lv_iconst (v := 1) hx hb dL_law_1622 (by decide) ?_
  refine lv_iadd hx hb dL_law_1623 ?_
  refine lv_topi (fun x1 ex1 => ?_)
  obtain rfl : 1 = x1 := (ex1.trans (by decide)).symm
  refine va_sld hx hb hX hbl hbA hS (vp_in_iff.mpr (by decide)) dL_law_1624 ?_
  refine lv_topi (fun x2 ex2 => ?_)
  obtain rfl : xs 1 = x2 := (ex2.trans rfl).symm
  refine goV (As := [.int (xs 1)]) (rest := []) (wr := [(k0, .inr (12, [.int 0, .int 0, .ref k0_2, .ref k0_3, .ref k0_4, .ref k0_5, .int 0, .int 0, .int 0, .ref k0_9, .ref k0_10, .ref k0_11, .int 0, .int 0, .int 0, .int 0, .long 0, .int (-1), .int 0, .int 0, .ref k0_20, .int 0, .ref k0_22, .ref k0_23, .int 0, .ref k0_25, .ref k0_26, .int 0, .int 0, .ref k0_29, .ref k0_30, .ref k0_31, .ref k0_32, .int 0, .long 0, .long 0, .long 0, .long 0, .int 0, .ref k0_39, .ref k0_40, .int 0, .ref k0_42, .int 0, .ref k0_44, .ref k0_45, .int 0, .int 0, .int 0, .int 0, .int 0, .int 0])), (k0_5, .inl (cZ, 2, .inl (fun _ => 0)))]) ⟨hx, hb, hml, hown, hts⟩ (c_X11_back l G cI cJ cZ cD cR cT h0 (xs 1) h0_0 h0_1 h0_2 h0_3 h0_6 h0_7 h0_8 h0_10 h0_11 h0_13 _) (cwV 1 hts gv_law44_196_X11_back rfl rfl rfl (by decide +kernel) ⟨Nat.le_of_ble_eq_true rfl, Nat.le_of_ble_eq_true rfl⟩) 0 rfl rfl rfl hKK hP hD hS hA [0] [1, 2] rfl rfl (by decide +kernel) (by decide +kernel) (by decide +kernel) rfl hl.1 rfl (lv_room (Nat.le_of_ble_eq_true rfl)) dL_law_1625 ⟨Nat.le_of_ble_eq_true rfl, Nat.le_of_ble_eq_true rfl⟩ (fun v4 q3 gq3 H locs hv4 => appW (ws' := [(k0, .inr (12, [.int 0, .int 0, .ref k0_2, .ref k0_3, .ref k0_4, .ref k0_5, .int 0, .int 0, .int 0, .ref k0_9, .ref k0_10, .ref k0_11, .int 0, .int 0, .int 0, .int 0, .long 0, .int (-1), .int 0, .int 0, .ref k0_20, .int 0, .ref k0_22, .ref k0_23, .int 0, .ref k0_25, .ref k0_26, .int 0, .int 0, .ref k0_29, .ref k0_30, .ref k0_31, .ref k0_32, .int 0, .long 0, .long 0, .long 0, .long 0, .int 0, .ref k0_39, .ref k0_40, .int 0, .ref k0_42, .int 0, .ref k0_44, .ref k0_45, .int 0, .int 0, .int 0, .int 0, .int 0, .int 0])), (k0_5, .inl (cZ, 2, .inl (fun _ => 0)))]) rfl (fun hP hD hS => ?_))
  obtain ⟨r5, rfl, hr5⟩ := hv4
  refine lv_aload_n hx hb dL_law_1628 rfl (lv_at hl 1 rfl) ?_
  refine lv_aload_n hx hb dL_law_1629 rfl (lv_at hl 3 rfl) ?_
  refine lv_iload_n hx hb dL_law_1630 rfl (lv_at hl 0 rfl) ?_
  refine lv_iconst (v := 1) hx hb dL_law_1631 (by decide) ?_
  refine lv_iadd hx hb dL_law_1632 ?_
  refine lv_topi (fun x6 ex6 => ?_)
  obtain rfl : 1 = x6 := (ex6.trans (by decide)).symm
  refine va_sld hx hb hX hbl hbA hS (vp_in_iff.mpr (by decide)) dL_law_1633 ?_
  refine lv_topi (fun x7 ex7 => ?_)
  obtain rfl : xs 1 = x7 := (ex7.trans rfl).symm
  refine goV (As := [.int (xs 1)]) (rest := [.int r5]) (wr := []) ⟨hx, hb, hml, hown, hts⟩ (c_X12_back l G cI cJ cZ cD cR cT k0 (xs 1) k0_2 k0_3 k0_4 k0_5 k0_9 k0_10 k0_11 k0_20 k0_22 k0_23 k0_25 k0_26 k0_29 k0_30 k0_31 k0_32 k0_39 k0_40 k0_42 k0_44 k0_45 _) (cwV 1 hts gv_law44_199_X12_back rfl rfl rfl (by decide +kernel) ⟨Nat.le_of_ble_eq_true rfl, Nat.le_of_ble_eq_true rfl⟩) 0 rfl rfl rfl hKK hP hD hS hA [0, 1] [] rfl rfl (by decide +kernel) (by decide +kernel) (by decide +kernel) rfl hl.1 rfl (lv_room (Nat.le_of_ble_eq_true rfl)) dL_law_1634 ⟨Nat.le_of_ble_eq_true rfl, Nat.le_of_ble_eq_true rfl⟩ (fun v9 q8 gq8 H locs hv9 => appW (ws' := []) rfl (fun hP hD hS => ?_))
  obtain ⟨r10, rfl, hr10⟩ := hv9
  refine lv_icmp_eq (tgt := 1678) hx hb dL_law_1637 (by decide) (fun _ => ?_) (fun c => absurd (hr5.trans hr10.symm) c)
  refine lv_iinc (v := 6) (lv' := [(3, .int 6), (2, .ref k0), (1, .ref h0), (0, .ref b)]) hx hb dL_law_1678 hl (k := 0) rfl (by decide) (by decide) rfl (fun ls hl => ?_)
  refine lv_goto (tgt := 18) hx hb dL_law_1681 (by decide) ?_
  refine lv_iload_n hx hb dL_law_18 rfl (lv_at hl 0 rfl) ?_
  refine lv_aload_n hx hb dL_law_19 rfl (lv_at hl 3 rfl) ?_
  refine va_slen hx hb hX hbl hbA hS dL_law_20 ?_
  refine lv_topi (fun x11 ex11 => ?_)
  obtain rfl : 6 = x11 := (ex11.trans rfl).symm
  refine lv_bipush (v := 6) hx hb dL_law_21 (by decide) ?_
  refine lv_isub hx hb dL_law_23 ?_
  refine lv_topi (fun x12 ex12 => ?_)
  obtain rfl : 0 = x12 := (ex12.trans (by decide)).symm
  refine lv_icmp_gt (tgt := 1684) hx hb dL_law_24 (by decide) (fun _ => ?_) (fun c => absurd c (by decide))
  refine lv_iconst (v := 1) hx hb dL_law_1684 (by decide) ?_
  refine va_forget (fun q h => hS.2.2 q h) ?_
  refine W.widen (k := 600000) (n := 7302250) (Nat.le_of_ble_eq_true rfl) (Nat.le_of_ble_eq_true rfl) ?_
  exact W.base (lw_ret (Drawn.sameBut.refl s.drawn lw_cs) hx hb hr hlocks dL_law_1685)
set_option maxRecDepth 20000 in
theorem gv_law45_200_X11_count : GoodIn lw_tbl (wsV RL 200 RX11 yX11_count v_X11_count) := goodIn_app (goodIn_r _ [1376, 1377, 1378, 103] (by decide +kernel) (by decide +kernel)) (gi tb_X11_count gd_X11_count)
set_option maxRecDepth 20000 in
theorem gv_law45_203_X12_count : GoodIn lw_tbl (wsV RL 203 RX12 yX12_count v_X12_count) := goodIn_app (goodIn_r _ [2085, 2086, 2087, 114] (by decide +kernel) (by decide +kernel)) (gi tb_X12_count gd_X12_count)
set_option maxHeartbeats 4000000 in
set_option maxRecDepth 100000 in
theorem law_case_45 {p : Program} {e : Env} {s : State} {m : MethodId} {below : List Frame} {meth : Method} {c : Code} (l : Launch) (G : va_G) (cI cJ cZ cD cR cT : ClassId) {b : Nat} {xs : Nat → Int32} (h0 k0 h0_0 h0_1 h0_2 h0_3 h0_6 h0_7 h0_8 h0_10 h0_11 h0_13 h0_0_0 h0_0_1 h0_0_2 h0_0_3 h0_0_4 h0_0_5 h0_0_8 h0_0_15 h0_0_16 h0_0_0_1 h0_0_0_2 h0_0_0_3 h0_0_0_4 h0_0_0_5 h0_0_0_6 h0_0_0_7 h0_0_0_8 h0_0_0_9 h0_0_1_1 h0_0_1_2 h0_0_1_3 h0_0_1_4 h0_0_1_5 h0_0_1_6 h0_0_1_7 h0_0_1_9 h0_0_1_10 h0_0_1_11 h0_0_2_1 h0_0_2_2 h0_0_2_3 h0_0_2_4 h0_0_2_5 h0_0_2_6 h0_0_2_8 h0_0_2_9 h0_0_2_10 h0_0_4_1 h0_0_4_2 h0_0_4_3 h0_0_5_4 h0_0_5_5 h0_6_1 h0_6_2 k0_2 k0_3 k0_4 k0_5 k0_9 k0_10 k0_11 k0_20 k0_22 k0_23 k0_25 k0_26 k0_29 k0_30 k0_31 k0_32 k0_39 k0_40 k0_42 k0_44 k0_45 : Nat) {H : Heap} {locs : List Loc} {ls : Array Slot} (hx : p.tables.exec = Jvm.exec) (hb : c.code = code) (hr : meth.sig.returnType = ret) (hml : c.maxLocals = 4) (hown : s.vm.findClass RL = some m.cls) (hts : ∀ w ∈ lw_tbl, w.before #[Value.ref b] s = true) (hX : va_X b 6 xs s s.heap) (hbl : b < s.heap.size) (hlocks : meth.locks = false) (hKK : KK G (tys6 cI cJ cZ cD cR cT) s) (hP : va_P G vwCl [(h0, .inr (11, [.ref h0_0, .ref h0_1, .ref h0_2, .ref h0_3, .int 0, .int 0, .ref h0_6, .ref h0_7, .ref h0_8, .int 0, .ref h0_10, .ref h0_11, .int 0, .ref h0_13, .int 0, .int 0])), (h0_0, .inr (0, [.ref h0_0_0, .ref h0_0_1, .ref h0_0_2, .ref h0_0_3, .ref h0_0_4, .ref h0_0_5, .int 0, .int 0, .ref h0_0_8, .int 0, .int 0, .int 0, .int 0, .long 0, .int 0, .ref h0_0_15, .ref h0_0_16])), (h0_0_0, .inr (4, [.int 0, .ref h0_0_0_1, .ref h0_0_0_2, .ref h0_0_0_3, .ref h0_0_0_4, .ref h0_0_0_5, .ref h0_0_0_6, .ref h0_0_0_7, .ref h0_0_0_8, .ref h0_0_0_9])), (h0_0_1, .inr (1, [.int 0, .ref h0_0_1_1, .ref h0_0_1_2, .ref h0_0_1_3, .ref h0_0_1_4, .ref h0_0_1_5, .ref h0_0_1_6, .ref h0_0_1_7, .int 0, .ref h0_0_1_9, .ref h0_0_1_10, .ref h0_0_1_11, .int (-1), .long 0, .long 0])), (h0_0_2, .inr (10, [.int 0, .ref h0_0_2_1, .ref h0_0_2_2, .ref h0_0_2_3, .ref h0_0_2_4, .ref h0_0_2_5, .ref h0_0_2_6, .int 0, .ref h0_0_2_8, .ref h0_0_2_9, .ref h0_0_2_10])), (h0_0_4, .inr (2, [.int 0, .ref h0_0_4_1, .ref h0_0_4_2, .ref h0_0_4_3])), (h0_0_5, .inr (3, [.int 0, .int 50, .int 0, .int 0, .ref h0_0_5_4, .ref h0_0_5_5])), (h0_6, .inr (8, [.int 0, .ref h0_6_1, .ref h0_6_2, .int 0])), (k0, .inr (12, [.int 0, .int 0, .ref k0_2, .ref k0_3, .ref k0_4, .ref k0_5, .int 0, .int 0, .int 0, .ref k0_9, .ref k0_10, .ref k0_11, .int 0, .int 0, .int 0, .int 0, .long 0, .int (-1), .int 0, .int 0, .ref k0_20, .int 0, .ref k0_22, .ref k0_23, .int 0, .ref k0_25, .ref k0_26, .int 0, .int 0, .ref k0_29, .ref k0_30, .ref k0_31, .ref k0_32, .int 0, .long 0, .long 0, .long 0, .long 0, .int 0, .ref k0_39, .ref k0_40, .int 0, .ref k0_42, .int 0, .ref k0_44, .ref k0_45, .int 0, .int 0, .int 0, .int 0, .int 0, .int 0])), (k0_2, .inl (cI, 35942, .inl mrow))] H) (hD : va_D (fun q : Nat => s.heap.size ≤ q) [(h0, .inr (11, [.ref h0_0, .ref h0_1, .ref h0_2, .ref h0_3, .int 0, .int 0, .ref h0_6, .ref h0_7, .ref h0_8, .int 0, .ref h0_10, .ref h0_11, .int 0, .ref h0_13, .int 0, .int 0])), (h0_0, .inr (0, [.ref h0_0_0, .ref h0_0_1, .ref h0_0_2, .ref h0_0_3, .ref h0_0_4, .ref h0_0_5, .int 0, .int 0, .ref h0_0_8, .int 0, .int 0, .int 0, .int 0, .long 0, .int 0, .ref h0_0_15, .ref h0_0_16])), (h0_0_0, .inr (4, [.int 0, .ref h0_0_0_1, .ref h0_0_0_2, .ref h0_0_0_3, .ref h0_0_0_4, .ref h0_0_0_5, .ref h0_0_0_6, .ref h0_0_0_7, .ref h0_0_0_8, .ref h0_0_0_9])), (h0_0_1, .inr (1, [.int 0, .ref h0_0_1_1, .ref h0_0_1_2, .ref h0_0_1_3, .ref h0_0_1_4, .ref h0_0_1_5, .ref h0_0_1_6, .ref h0_0_1_7, .int 0, .ref h0_0_1_9, .ref h0_0_1_10, .ref h0_0_1_11, .int (-1), .long 0, .long 0])), (h0_0_2, .inr (10, [.int 0, .ref h0_0_2_1, .ref h0_0_2_2, .ref h0_0_2_3, .ref h0_0_2_4, .ref h0_0_2_5, .ref h0_0_2_6, .int 0, .ref h0_0_2_8, .ref h0_0_2_9, .ref h0_0_2_10])), (h0_0_4, .inr (2, [.int 0, .ref h0_0_4_1, .ref h0_0_4_2, .ref h0_0_4_3])), (h0_0_5, .inr (3, [.int 0, .int 50, .int 0, .int 0, .ref h0_0_5_4, .ref h0_0_5_5])), (h0_6, .inr (8, [.int 0, .ref h0_6_1, .ref h0_6_2, .int 0])), (k0, .inr (12, [.int 0, .int 0, .ref k0_2, .ref k0_3, .ref k0_4, .ref k0_5, .int 0, .int 0, .int 0, .ref k0_9, .ref k0_10, .ref k0_11, .int 0, .int 0, .int 0, .int 0, .long 0, .int (-1), .int 0, .int 0, .ref k0_20, .int 0, .ref k0_22, .ref k0_23, .int 0, .ref k0_25, .ref k0_26, .int 0, .int 0, .ref k0_29, .ref k0_30, .ref k0_31, .ref k0_32, .int 0, .long 0, .long 0, .long 0, .long 0, .int 0, .ref k0_39, .ref k0_40, .int 0, .ref k0_42, .int 0, .ref k0_44, .ref k0_45, .int 0, .int 0, .int 0, .int 0, .int 0, .int 0])), (k0_2, .inl (cI, 35942, .inl mrow))]) (hS : va_S (fun q : Nat => s.heap.size ≤ q) s.heap H locs) (hl : lv_has ls 4 [(3, .int 0), (2, .ref k0), (1, .ref h0), (0, .ref b)]) : W p l e room_1 s m #[Value.ref b] below meth c H locs 221 158368 (lw_Z below #[Value.ref b] s) (F0 m 1642 ls []) := by
  have hK := hKK.1
  have hA : ∀ q : Nat, s.heap.size ≤ q → (fun q : Nat => s.heap.size ≤ q) q := fun _ h => h
  have hbA : ¬ (fun q : Nat => s.heap.size ≤ q) b := Nat.not_le.mpr hbl
  refine lv_aload_n hx hb dL_law_1642 rfl (lv_at hl 2 rfl) ?_
  refine lv_aload_n hx hb dL_law_1643 rfl (lv_at hl 3 rfl) ?_
  refine lv_iload_n hx hb dL_law_1644 rfl (lv_at hl 0 rfl) ?_
  refine lv_iconst (v := 1) hx hb dL_law_1645 (by decide) ?_
  refine lv_iadd hx hb dL_law_1646 ?_
  refine lv_topi (fun x1 ex1 => ?_)
  obtain rfl : 1 = x1 := (ex1.trans (by decide)).symm
  refine va_sld hx hb hX hbl hbA hS (vp_in_iff.mpr (by decide)) dL_law_1647 ?_
  refine lv_topi (fun x2 ex2 => ?_)
  obtain rfl : xs 1 = x2 := (ex2.trans rfl).symm
  refine goV (As := [.int (xs 1)]) (rest := []) (wr := [(k0, .inr (12, [.int 0, .int 0, .ref k0_2, .ref k0_3, .ref k0_4, .ref k0_5, .int 0, .int 0, .int 0, .ref k0_9, .ref k0_10, .ref k0_11, .int 0, .int 0, .int 0, .int 0, .long 0, .int (-1), .int 0, .int 0, .ref k0_20, .int 0, .ref k0_22, .ref k0_23, .int 0, .ref k0_25, .ref k0_26, .int 0, .int 0, .ref k0_29, .ref k0_30, .ref k0_31, .ref k0_32, .int 0, .long 0, .long 0, .long 0, .long 0, .int 0, .ref k0_39, .ref k0_40, .int 0, .ref k0_42, .int 0, .ref k0_44, .ref k0_45, .int 0, .int 0, .int 0, .int 0, .int 0, .int 0])), (k0_2, .inl (cI, 35942, .inl mrow))]) ⟨hx, hb, hml, hown, hts⟩ (c_X11_count l G cI cJ cZ cD cR cT h0 (xs 1) h0_0 h0_1 h0_2 h0_3 h0_6 h0_7 h0_8 h0_10 h0_11 h0_13 h0_0_0 h0_0_1 h0_0_2 h0_0_3 h0_0_4 h0_0_5 h0_0_8 h0_0_15 h0_0_16 h0_0_0_1 h0_0_0_2 h0_0_0_3 h0_0_0_4 h0_0_0_5 h0_0_0_6 h0_0_0_7 h0_0_0_8 h0_0_0_9 h0_0_1_1 h0_0_1_2 h0_0_1_3 h0_0_1_4 h0_0_1_5 h0_0_1_6 h0_0_1_7 h0_0_1_9 h0_0_1_10 h0_0_1_11 h0_0_2_1 h0_0_2_2 h0_0_2_3 h0_0_2_4 h0_0_2_5 h0_0_2_6 h0_0_2_8 h0_0_2_9 h0_0_2_10 h0_0_4_1 h0_0_4_2 h0_0_4_3 h0_0_5_4 h0_0_5_5 h0_6_1 h0_6_2 _) (cwV 1 hts gv_law45_200_X11_count rfl rfl rfl (by decide +kernel) ⟨Nat.le_of_ble_eq_true rfl, Nat.le_of_ble_eq_true rfl⟩) 0 rfl rfl rfl hKK hP hD hS hA [0, 1, 2, 3, 4, 5, 6, 7] [8, 9] rfl rfl (by decide +kernel) (by decide +kernel) (by decide +kernel) rfl hl.1 rfl (lv_room (Nat.le_of_ble_eq_true rfl)) dL_law_1648 ⟨Nat.le_of_ble_eq_true rfl, Nat.le_of_ble_eq_true rfl⟩ (fun v4 q3 gq3 H locs hv4 => appW (ws' := [(k0, .inr (12, [.int 0, .int 0, .ref k0_2, .ref k0_3, .ref k0_4, .ref k0_5, .int 0, .int 0, .int 0, .ref k0_9, .ref k0_10, .ref k0_11, .int 0, .int 0, .int 0, .int 0, .long 0, .int (-1), .int 0, .int 0, .ref k0_20, .int 0, .ref k0_22, .ref k0_23, .int 0, .ref k0_25, .ref k0_26, .int 0, .int 0, .ref k0_29, .ref k0_30, .ref k0_31, .ref k0_32, .int 0, .long 0, .long 0, .long 0, .long 0, .int 0, .ref k0_39, .ref k0_40, .int 0, .ref k0_42, .int 0, .ref k0_44, .ref k0_45, .int 0, .int 0, .int 0, .int 0, .int 0, .int 0])), (k0_2, .inl (cI, 35942, .inl mrow))]) rfl (fun hP hD hS => ?_))
  obtain ⟨r5, rfl, hr5⟩ := hv4
  refine lv_aload_n hx hb dL_law_1651 rfl (lv_at hl 1 rfl) ?_
  refine lv_aload_n hx hb dL_law_1652 rfl (lv_at hl 3 rfl) ?_
  refine lv_iload_n hx hb dL_law_1653 rfl (lv_at hl 0 rfl) ?_
  refine lv_iconst (v := 1) hx hb dL_law_1654 (by decide) ?_
  refine lv_iadd hx hb dL_law_1655 ?_
  refine lv_topi (fun x6 ex6 => ?_)
  obtain rfl : 1 = x6 := (ex6.trans (by decide)).symm
  refine va_sld hx hb hX hbl hbA hS (vp_in_iff.mpr (by decide)) dL_law_1656 ?_
  refine lv_topi (fun x7 ex7 => ?_)
  obtain rfl : xs 1 = x7 := (ex7.trans rfl).symm
  refine goV (As := [.int (xs 1)]) (rest := [.int r5]) (wr := []) ⟨hx, hb, hml, hown, hts⟩ (c_X12_count l G cI cJ cZ cD cR cT k0 (xs 1) k0_2 k0_3 k0_4 k0_5 k0_9 k0_10 k0_11 k0_20 k0_22 k0_23 k0_25 k0_26 k0_29 k0_30 k0_31 k0_32 k0_39 k0_40 k0_42 k0_44 k0_45 _) (cwV 1 hts gv_law45_203_X12_count rfl rfl rfl (by decide +kernel) ⟨Nat.le_of_ble_eq_true rfl, Nat.le_of_ble_eq_true rfl⟩) 0 rfl rfl rfl hKK hP hD hS hA [0, 1] [] rfl rfl (by decide +kernel) (by decide +kernel) (by decide +kernel) rfl hl.1 rfl (lv_room (Nat.le_of_ble_eq_true rfl)) dL_law_1657 ⟨Nat.le_of_ble_eq_true rfl, Nat.le_of_ble_eq_true rfl⟩ (fun v9 q8 gq8 H locs hv9 => appW (ws' := []) rfl (fun hP hD hS => ?_))
  obtain ⟨r10, rfl, hr10⟩ := hv9
  refine lv_icmp_eq (tgt := 1678) hx hb dL_law_1660 (by decide) (fun _ => ?_) (fun c => absurd (hr5.trans hr10.symm) c)
  refine lv_iinc (v := 6) (lv' := [(3, .int 6), (2, .ref k0), (1, .ref h0), (0, .ref b)]) hx hb dL_law_1678 hl (k := 0) rfl (by decide) (by decide) rfl (fun ls hl => ?_)
  refine lv_goto (tgt := 18) hx hb dL_law_1681 (by decide) ?_
  refine lv_iload_n hx hb dL_law_18 rfl (lv_at hl 0 rfl) ?_
  refine lv_aload_n hx hb dL_law_19 rfl (lv_at hl 3 rfl) ?_
  refine va_slen hx hb hX hbl hbA hS dL_law_20 ?_
  refine lv_topi (fun x11 ex11 => ?_)
  obtain rfl : 6 = x11 := (ex11.trans rfl).symm
  refine lv_bipush (v := 6) hx hb dL_law_21 (by decide) ?_
  refine lv_isub hx hb dL_law_23 ?_
  refine lv_topi (fun x12 ex12 => ?_)
  obtain rfl : 0 = x12 := (ex12.trans (by decide)).symm
  refine lv_icmp_gt (tgt := 1684) hx hb dL_law_24 (by decide) (fun _ => ?_) (fun c => absurd c (by decide))
  refine lv_iconst (v := 1) hx hb dL_law_1684 (by decide) ?_
  refine va_forget (fun q h => hS.2.2 q h) ?_
  refine W.widen (k := 600000) (n := 7302250) (Nat.le_of_ble_eq_true rfl) (Nat.le_of_ble_eq_true rfl) ?_
  exact W.base (lw_ret (Drawn.sameBut.refl s.drawn lw_cs) hx hb hr hlocks dL_law_1685)
set_option maxRecDepth 20000 in
theorem gv_law46_204_X11_status : GoodIn lw_tbl (wsV RL 204 RX11 yX11_status v_X11_status) := goodIn_app (goodIn_r _ [1380, 1381, 1382, 103] (by decide +kernel) (by decide +kernel)) (gi tb_X11_status gd_X11_status)
set_option maxRecDepth 20000 in
theorem gv_law46_207_X12_status : GoodIn lw_tbl (wsV RL 207 RX12 yX12_status v_X12_status) := goodIn_app (goodIn_r _ [2089, 2090, 2091, 114] (by decide +kernel) (by decide +kernel)) (gi tb_X12_status gd_X12_status)
set_option maxHeartbeats 4000000 in
set_option maxRecDepth 100000 in
theorem law_case_46 {p : Program} {e : Env} {s : State} {m : MethodId} {below : List Frame} {meth : Method} {c : Code} (l : Launch) (G : va_G) (cI cJ cZ cD cR cT : ClassId) {b : Nat} {xs : Nat → Int32} (h0 k0 h0_0 h0_1 h0_2 h0_3 h0_6 h0_7 h0_8 h0_10 h0_11 h0_13 k0_2 k0_3 k0_4 k0_5 k0_9 k0_10 k0_11 k0_20 k0_22 k0_23 k0_25 k0_26 k0_29 k0_30 k0_31 k0_32 k0_39 k0_40 k0_42 k0_44 k0_45 : Nat) {H : Heap} {locs : List Loc} {ls : Array Slot} (hx : p.tables.exec = Jvm.exec) (hb : c.code = code) (hr : meth.sig.returnType = ret) (hml : c.maxLocals = 4) (hown : s.vm.findClass RL = some m.cls) (hts : ∀ w ∈ lw_tbl, w.before #[Value.ref b] s = true) (hX : va_X b 6 xs s s.heap) (hbl : b < s.heap.size) (hlocks : meth.locks = false) (hKK : KK G (tys6 cI cJ cZ cD cR cT) s) (hP : va_P G vwCl [(h0, .inr (11, [.ref h0_0, .ref h0_1, .ref h0_2, .ref h0_3, .int 0, .int 0, .ref h0_6, .ref h0_7, .ref h0_8, .int 0, .ref h0_10, .ref h0_11, .int 0, .ref h0_13, .int 0, .int 0])), (k0, .inr (12, [.int 0, .int 0, .ref k0_2, .ref k0_3, .ref k0_4, .ref k0_5, .int 0, .int 0, .int 0, .ref k0_9, .ref k0_10, .ref k0_11, .int 0, .int 0, .int 0, .int 0, .long 0, .int (-1), .int 0, .int 0, .ref k0_20, .int 0, .ref k0_22, .ref k0_23, .int 0, .ref k0_25, .ref k0_26, .int 0, .int 0, .ref k0_29, .ref k0_30, .ref k0_31, .ref k0_32, .int 0, .long 0, .long 0, .long 0, .long 0, .int 0, .ref k0_39, .ref k0_40, .int 0, .ref k0_42, .int 0, .ref k0_44, .ref k0_45, .int 0, .int 0, .int 0, .int 0, .int 0, .int 0]))] H) (hD : va_D (fun q : Nat => s.heap.size ≤ q) [(h0, .inr (11, [.ref h0_0, .ref h0_1, .ref h0_2, .ref h0_3, .int 0, .int 0, .ref h0_6, .ref h0_7, .ref h0_8, .int 0, .ref h0_10, .ref h0_11, .int 0, .ref h0_13, .int 0, .int 0])), (k0, .inr (12, [.int 0, .int 0, .ref k0_2, .ref k0_3, .ref k0_4, .ref k0_5, .int 0, .int 0, .int 0, .ref k0_9, .ref k0_10, .ref k0_11, .int 0, .int 0, .int 0, .int 0, .long 0, .int (-1), .int 0, .int 0, .ref k0_20, .int 0, .ref k0_22, .ref k0_23, .int 0, .ref k0_25, .ref k0_26, .int 0, .int 0, .ref k0_29, .ref k0_30, .ref k0_31, .ref k0_32, .int 0, .long 0, .long 0, .long 0, .long 0, .int 0, .ref k0_39, .ref k0_40, .int 0, .ref k0_42, .int 0, .ref k0_44, .ref k0_45, .int 0, .int 0, .int 0, .int 0, .int 0, .int 0]))]) (hS : va_S (fun q : Nat => s.heap.size ≤ q) s.heap H locs) (hl : lv_has ls 4 [(3, .int 0), (2, .ref k0), (1, .ref h0), (0, .ref b)]) : W p l e room_1 s m #[Value.ref b] below meth c H locs 221 158368 (lw_Z below #[Value.ref b] s) (F0 m 1665 ls []) := by
  have hK := hKK.1
  have hA : ∀ q : Nat, s.heap.size ≤ q → (fun q : Nat => s.heap.size ≤ q) q := fun _ h => h
  have hbA : ¬ (fun q : Nat => s.heap.size ≤ q) b := Nat.not_le.mpr hbl
  refine lv_aload_n hx hb dL_law_1665 rfl (lv_at hl 2 rfl) ?_
  refine goV (As := []) (rest := []) (wr := [(k0, .inr (12, [.int 0, .int 0, .ref k0_2, .ref k0_3, .ref k0_4, .ref k0_5, .int 0, .int 0, .int 0, .ref k0_9, .ref k0_10, .ref k0_11, .int 0, .int 0, .int 0, .int 0, .long 0, .int (-1), .int 0, .int 0, .ref k0_20, .int 0, .ref k0_22, .ref k0_23, .int 0, .ref k0_25, .ref k0_26, .int 0, .int 0, .ref k0_29, .ref k0_30, .ref k0_31, .ref k0_32, .int 0, .long 0, .long 0, .long 0, .long 0, .int 0, .ref k0_39, .ref k0_40, .int 0, .ref k0_42, .int 0, .ref k0_44, .ref k0_45, .int 0, .int 0, .int 0, .int 0, .int 0, .int 0]))]) ⟨hx, hb, hml, hown, hts⟩ (c_X11_status l G cI cJ cZ cD cR cT h0 h0_0 h0_1 h0_2 h0_3 h0_6 h0_7 h0_8 h0_10 h0_11 h0_13 _) (cwV 0 hts gv_law46_204_X11_status rfl rfl rfl (by decide +kernel) ⟨Nat.le_of_ble_eq_true rfl, Nat.le_of_ble_eq_true rfl⟩) 0 rfl rfl rfl hKK hP hD hS hA [0] [1] rfl rfl (by decide +kernel) (by decide +kernel) (by decide +kernel) rfl hl.1 rfl (lv_room (Nat.le_of_ble_eq_true rfl)) dL_law_1666 ⟨Nat.le_of_ble_eq_true rfl, Nat.le_of_ble_eq_true rfl⟩ (fun v2 q1 gq1 H locs hv2 => appW (ws' := [(k0, .inr (12, [.int 0, .int 0, .ref k0_2, .ref k0_3, .ref k0_4, .ref k0_5, .int 0, .int 0, .int 0, .ref k0_9, .ref k0_10, .ref k0_11, .int 0, .int 0, .int 0, .int 0, .long 0, .int (-1), .int 0, .int 0, .ref k0_20, .int 0, .ref k0_22, .ref k0_23, .int 0, .ref k0_25, .ref k0_26, .int 0, .int 0, .ref k0_29, .ref k0_30, .ref k0_31, .ref k0_32, .int 0, .long 0, .long 0, .long 0, .long 0, .int 0, .ref k0_39, .ref k0_40, .int 0, .ref k0_42, .int 0, .ref k0_44, .ref k0_45, .int 0, .int 0, .int 0, .int 0, .int 0, .int 0]))]) rfl (fun hP hD hS => ?_))
  obtain ⟨r3, rfl, hr3⟩ := hv2
  refine lv_aload_n hx hb dL_law_1669 rfl (lv_at hl 1 rfl) ?_
  refine goV (As := []) (rest := [.int r3]) (wr := []) ⟨hx, hb, hml, hown, hts⟩ (c_X12_status l G cI cJ cZ cD cR cT k0 k0_2 k0_3 k0_4 k0_5 k0_9 k0_10 k0_11 k0_20 k0_22 k0_23 k0_25 k0_26 k0_29 k0_30 k0_31 k0_32 k0_39 k0_40 k0_42 k0_44 k0_45 _) (cwV 0 hts gv_law46_207_X12_status rfl rfl rfl (by decide +kernel) ⟨Nat.le_of_ble_eq_true rfl, Nat.le_of_ble_eq_true rfl⟩) 0 rfl rfl rfl hKK hP hD hS hA [0] [] rfl rfl (by decide +kernel) (by decide +kernel) (by decide +kernel) rfl hl.1 rfl (lv_room (Nat.le_of_ble_eq_true rfl)) dL_law_1670 ⟨Nat.le_of_ble_eq_true rfl, Nat.le_of_ble_eq_true rfl⟩ (fun v5 q4 gq4 H locs hv5 => appW (ws' := []) rfl (fun hP hD hS => ?_))
  obtain ⟨r6, rfl, hr6⟩ := hv5
  refine lv_icmp_eq (tgt := 1678) hx hb dL_law_1673 (by decide) (fun _ => ?_) (fun c => absurd (hr3.trans hr6.symm) c)
  refine lv_iinc (v := 6) (lv' := [(3, .int 6), (2, .ref k0), (1, .ref h0), (0, .ref b)]) hx hb dL_law_1678 hl (k := 0) rfl (by decide) (by decide) rfl (fun ls hl => ?_)
  refine lv_goto (tgt := 18) hx hb dL_law_1681 (by decide) ?_
  refine lv_iload_n hx hb dL_law_18 rfl (lv_at hl 0 rfl) ?_
  refine lv_aload_n hx hb dL_law_19 rfl (lv_at hl 3 rfl) ?_
  refine va_slen hx hb hX hbl hbA hS dL_law_20 ?_
  refine lv_topi (fun x7 ex7 => ?_)
  obtain rfl : 6 = x7 := (ex7.trans rfl).symm
  refine lv_bipush (v := 6) hx hb dL_law_21 (by decide) ?_
  refine lv_isub hx hb dL_law_23 ?_
  refine lv_topi (fun x8 ex8 => ?_)
  obtain rfl : 0 = x8 := (ex8.trans (by decide)).symm
  refine lv_icmp_gt (tgt := 1684) hx hb dL_law_24 (by decide) (fun _ => ?_) (fun c => absurd c (by decide))
  refine lv_iconst (v := 1) hx hb dL_law_1684 (by decide) ?_
  refine va_forget (fun q h => hS.2.2 q h) ?_
  refine W.widen (k := 600000) (n := 7302250) (Nat.le_of_ble_eq_true rfl) (Nat.le_of_ble_eq_true rfl) ?_
  exact W.base (lw_ret (Drawn.sameBut.refl s.drawn lw_cs) hx hb hr hlocks dL_law_1685)
