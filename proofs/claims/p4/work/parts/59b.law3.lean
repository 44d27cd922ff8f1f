
theorem dL_law_1434 : decode cL_law 1434 = .ok (.aload_n 1, 1) := by decide +kernel
theorem dL_law_1435 : decode cL_law 1435 = .ok (.aload_n 0, 1) := by decide +kernel
theorem dL_law_1436 : decode cL_law 1436 = .ok (.iload_n 3, 1) := by decide +kernel
theorem dL_law_1437 : decode cL_law 1437 = .ok (.iconst 1, 1) := by decide +kernel
theorem dL_law_1438 : decode cL_law 1438 = .ok (.iadd, 1) := by decide +kernel
theorem dL_law_1439 : decode cL_law 1439 = .ok (.iaload, 1) := by decide +kernel
theorem dL_law_1440 : decode cL_law 1440 = .ok (.invokevirtual 163, 3) := by decide +kernel
theorem dL_law_1443 : decode cL_law 1443 = .ok (.pop, 1) := by decide +kernel
theorem dL_law_1444 : decode cL_law 1444 = .ok (.aload_n 2, 1) := by decide +kernel
theorem dL_law_1445 : decode cL_law 1445 = .ok (.aload_n 0, 1) := by decide +kernel
theorem dL_law_1446 : decode cL_law 1446 = .ok (.iload_n 3, 1) := by decide +kernel
theorem dL_law_1447 : decode cL_law 1447 = .ok (.iconst 1, 1) := by decide +kernel
theorem dL_law_1448 : decode cL_law 1448 = .ok (.iadd, 1) := by decide +kernel
theorem dL_law_1449 : decode cL_law 1449 = .ok (.iaload, 1) := by decide +kernel
theorem dL_law_1450 : decode cL_law 1450 = .ok (.invokevirtual 166, 3) := by decide +kernel
theorem dL_law_1453 : decode cL_law 1453 = .ok (.pop, 1) := by decide +kernel
theorem dL_law_1454 : decode cL_law 1454 = .ok (.goto 223, 3) := by decide +kernel
theorem dL_law_1457 : decode cL_law 1457 = .ok (.aload_n 1, 1) := by decide +kernel
theorem dL_law_1458 : decode cL_law 1458 = .ok (.aload_n 0, 1) := by decide +kernel
theorem dL_law_1459 : decode cL_law 1459 = .ok (.iload_n 3, 1) := by decide +kernel
theorem dL_law_1460 : decode cL_law 1460 = .ok (.iconst 1, 1) := by decide +kernel
theorem dL_law_1461 : decode cL_law 1461 = .ok (.iadd, 1) := by decide +kernel
theorem dL_law_1462 : decode cL_law 1462 = .ok (.iaload, 1) := by decide +kernel
theorem dL_law_1463 : decode cL_law 1463 = .ok (.invokevirtual 167, 3) := by decide +kernel
theorem dL_law_1466 : decode cL_law 1466 = .ok (.pop, 1) := by decide +kernel
theorem dL_law_1467 : decode cL_law 1467 = .ok (.aload_n 2, 1) := by decide +kernel
theorem dL_law_1468 : decode cL_law 1468 = .ok (.aload_n 0, 1) := by decide +kernel
theorem dL_law_1469 : decode cL_law 1469 = .ok (.iload_n 3, 1) := by decide +kernel
theorem dL_law_1470 : decode cL_law 1470 = .ok (.iconst 1, 1) := by decide +kernel
theorem dL_law_1471 : decode cL_law 1471 = .ok (.iadd, 1) := by decide +kernel
theorem dL_law_1472 : decode cL_law 1472 = .ok (.iaload, 1) := by decide +kernel
theorem dL_law_1473 : decode cL_law 1473 = .ok (.invokevirtual 170, 3) := by decide +kernel
theorem dL_law_1476 : decode cL_law 1476 = .ok (.pop, 1) := by decide +kernel
theorem dL_law_1477 : decode cL_law 1477 = .ok (.goto 200, 3) := by decide +kernel
theorem dL_law_1480 : decode cL_law 1480 = .ok (.aload_n 1, 1) := by decide +kernel
theorem dL_law_1481 : decode cL_law 1481 = .ok (.aload_n 0, 1) := by decide +kernel
theorem dL_law_1482 : decode cL_law 1482 = .ok (.iload_n 3, 1) := by decide +kernel
theorem dL_law_1483 : decode cL_law 1483 = .ok (.iconst 1, 1) := by decide +kernel
theorem dL_law_1484 : decode cL_law 1484 = .ok (.iadd, 1) := by decide +kernel
theorem dL_law_1485 : decode cL_law 1485 = .ok (.iaload, 1) := by decide +kernel
theorem dL_law_1486 : decode cL_law 1486 = .ok (.aload_n 0, 1) := by decide +kernel
theorem dL_law_1487 : decode cL_law 1487 = .ok (.iload_n 3, 1) := by decide +kernel
theorem dL_law_1488 : decode cL_law 1488 = .ok (.iconst 2, 1) := by decide +kernel
theorem dL_law_1489 : decode cL_law 1489 = .ok (.iadd, 1) := by decide +kernel
theorem dL_law_1490 : decode cL_law 1490 = .ok (.iaload, 1) := by decide +kernel
theorem dL_law_1491 : decode cL_law 1491 = .ok (.invokevirtual 171, 3) := by decide +kernel
theorem dL_law_1494 : decode cL_law 1494 = .ok (.pop, 1) := by decide +kernel
theorem dL_law_1495 : decode cL_law 1495 = .ok (.aload_n 2, 1) := by decide +kernel
theorem dL_law_1496 : decode cL_law 1496 = .ok (.aload_n 0, 1) := by decide +kernel
theorem dL_law_1497 : decode cL_law 1497 = .ok (.iload_n 3, 1) := by decide +kernel
theorem dL_law_1498 : decode cL_law 1498 = .ok (.iconst 1, 1) := by decide +kernel
theorem dL_law_1499 : decode cL_law 1499 = .ok (.iadd, 1) := by decide +kernel
theorem dL_law_1500 : decode cL_law 1500 = .ok (.iaload, 1) := by decide +kernel
theorem dL_law_1501 : decode cL_law 1501 = .ok (.aload_n 0, 1) := by decide +kernel
theorem dL_law_1502 : decode cL_law 1502 = .ok (.iload_n 3, 1) := by decide +kernel
theorem dL_law_1503 : decode cL_law 1503 = .ok (.iconst 2, 1) := by decide +kernel
theorem dL_law_1504 : decode cL_law 1504 = .ok (.iadd, 1) := by decide +kernel
theorem dL_law_1505 : decode cL_law 1505 = .ok (.iaload, 1) := by decide +kernel
theorem dL_law_1506 : decode cL_law 1506 = .ok (.invokevirtual 174, 3) := by decide +kernel
theorem dL_law_1509 : decode cL_law 1509 = .ok (.pop, 1) := by decide +kernel
theorem dL_law_1510 : decode cL_law 1510 = .ok (.goto 167, 3) := by decide +kernel
theorem dL_law_1513 : decode cL_law 1513 = .ok (.aload_n 1, 1) := by decide +kernel
theorem dL_law_1514 : decode cL_law 1514 = .ok (.aload_n 0, 1) := by decide +kernel
theorem dL_law_1515 : decode cL_law 1515 = .ok (.iload_n 3, 1) := by decide +kernel
theorem dL_law_1516 : decode cL_law 1516 = .ok (.iconst 1, 1) := by decide +kernel
theorem dL_law_1517 : decode cL_law 1517 = .ok (.iadd, 1) := by decide +kernel
theorem dL_law_1518 : decode cL_law 1518 = .ok (.iaload, 1) := by decide +kernel
theorem dL_law_1519 : decode cL_law 1519 = .ok (.invokevirtual 175, 3) := by decide +kernel
theorem dL_law_1522 : decode cL_law 1522 = .ok (.pop2, 1) := by decide +kernel
theorem dL_law_1523 : decode cL_law 1523 = .ok (.aload_n 2, 1) := by decide +kernel
theorem dL_law_1524 : decode cL_law 1524 = .ok (.aload_n 0, 1) := by decide +kernel
theorem dL_law_1525 : decode cL_law 1525 = .ok (.iload_n 3, 1) := by decide +kernel
theorem dL_law_1526 : decode cL_law 1526 = .ok (.iconst 1, 1) := by decide +kernel
theorem dL_law_1527 : decode cL_law 1527 = .ok (.iadd, 1) := by decide +kernel
theorem dL_law_1528 : decode cL_law 1528 = .ok (.iaload, 1) := by decide +kernel
theorem dL_law_1529 : decode cL_law 1529 = .ok (.invokevirtual 179, 3) := by decide +kernel
theorem dL_law_1532 : decode cL_law 1532 = .ok (.pop2, 1) := by decide +kernel
theorem dL_law_1533 : decode cL_law 1533 = .ok (.goto 144, 3) := by decide +kernel
theorem dL_law_1536 : decode cL_law 1536 = .ok (.aload_n 1, 1) := by decide +kernel
theorem dL_law_1537 : decode cL_law 1537 = .ok (.invokevirtual 180, 3) := by decide +kernel
theorem dL_law_1540 : decode cL_law 1540 = .ok (.pop, 1) := by decide +kernel
theorem dL_law_1541 : decode cL_law 1541 = .ok (.aload_n 2, 1) := by decide +kernel
theorem dL_law_1542 : decode cL_law 1542 = .ok (.invokevirtual 183, 3) := by decide +kernel
theorem dL_law_1545 : decode cL_law 1545 = .ok (.pop, 1) := by decide +kernel
theorem dL_law_1546 : decode cL_law 1546 = .ok (.goto 131, 3) := by decide +kernel
theorem dL_law_1549 : decode cL_law 1549 = .ok (.aload_n 1, 1) := by decide +kernel
theorem dL_law_1550 : decode cL_law 1550 = .ok (.aload_n 0, 1) := by decide +kernel
theorem dL_law_1551 : decode cL_law 1551 = .ok (.iload_n 3, 1) := by decide +kernel
theorem dL_law_1552 : decode cL_law 1552 = .ok (.iconst 1, 1) := by decide +kernel
theorem dL_law_1553 : decode cL_law 1553 = .ok (.iadd, 1) := by decide +kernel
theorem dL_law_1554 : decode cL_law 1554 = .ok (.iaload, 1) := by decide +kernel
theorem dL_law_1555 : decode cL_law 1555 = .ok (.aload_n 0, 1) := by decide +kernel
theorem dL_law_1556 : decode cL_law 1556 = .ok (.iload_n 3, 1) := by decide +kernel
theorem dL_law_1557 : decode cL_law 1557 = .ok (.iconst 2, 1) := by decide +kernel
theorem dL_law_1558 : decode cL_law 1558 = .ok (.iadd, 1) := by decide +kernel
theorem dL_law_1559 : decode cL_law 1559 = .ok (.iaload, 1) := by decide +kernel
theorem dL_law_1560 : decode cL_law 1560 = .ok (.invokevirtual 184, 3) := by decide +kernel
theorem dL_law_1563 : decode cL_law 1563 = .ok (.pop, 1) := by decide +kernel
theorem dL_law_1564 : decode cL_law 1564 = .ok (.aload_n 2, 1) := by decide +kernel
theorem dL_law_1565 : decode cL_law 1565 = .ok (.aload_n 0, 1) := by decide +kernel
theorem dL_law_1566 : decode cL_law 1566 = .ok (.iload_n 3, 1) := by decide +kernel
theorem dL_law_1567 : decode cL_law 1567 = .ok (.iconst 1, 1) := by decide +kernel
theorem dL_law_1568 : decode cL_law 1568 = .ok (.iadd, 1) := by decide +kernel
theorem dL_law_1569 : decode cL_law 1569 = .ok (.iaload, 1) := by decide +kernel
theorem dL_law_1570 : decode cL_law 1570 = .ok (.aload_n 0, 1) := by decide +kernel
theorem dL_law_1571 : decode cL_law 1571 = .ok (.iload_n 3, 1) := by decide +kernel
theorem dL_law_1572 : decode cL_law 1572 = .ok (.iconst 2, 1) := by decide +kernel
theorem dL_law_1573 : decode cL_law 1573 = .ok (.iadd, 1) := by decide +kernel
theorem dL_law_1574 : decode cL_law 1574 = .ok (.iaload, 1) := by decide +kernel
theorem dL_law_1575 : decode cL_law 1575 = .ok (.invokevirtual 187, 3) := by decide +kernel
theorem dL_law_1578 : decode cL_law 1578 = .ok (.pop, 1) := by decide +kernel
theorem dL_law_1579 : decode cL_law 1579 = .ok (.goto 98, 3) := by decide +kernel
theorem dL_law_1582 : decode cL_law 1582 = .ok (.aload_n 1, 1) := by decide +kernel
theorem dL_law_1583 : decode cL_law 1583 = .ok (.invokevirtual 188, 3) := by decide +kernel
theorem dL_law_1586 : decode cL_law 1586 = .ok (.pop, 1) := by decide +kernel
theorem dL_law_1587 : decode cL_law 1587 = .ok (.aload_n 2, 1) := by decide +kernel
theorem dL_law_1588 : decode cL_law 1588 = .ok (.invokevirtual 191, 3) := by decide +kernel
theorem dL_law_1591 : decode cL_law 1591 = .ok (.pop, 1) := by decide +kernel
theorem dL_law_1592 : decode cL_law 1592 = .ok (.goto 85, 3) := by decide +kernel
theorem dL_law_1595 : decode cL_law 1595 = .ok (.aload_n 1, 1) := by decide +kernel
theorem dL_law_1596 : decode cL_law 1596 = .ok (.aload_n 0, 1) := by decide +kernel
theorem dL_law_1597 : decode cL_law 1597 = .ok (.iload_n 3, 1) := by decide +kernel
theorem dL_law_1598 : decode cL_law 1598 = .ok (.iconst 1, 1) := by decide +kernel
theorem dL_law_1599 : decode cL_law 1599 = .ok (.iadd, 1) := by decide +kernel
theorem dL_law_1600 : decode cL_law 1600 = .ok (.iaload, 1) := by decide +kernel
theorem dL_law_1601 : decode cL_law 1601 = .ok (.invokevirtual 192, 3) := by decide +kernel
theorem dL_law_1604 : decode cL_law 1604 = .ok (.pop, 1) := by decide +kernel
theorem dL_law_1605 : decode cL_law 1605 = .ok (.aload_n 2, 1) := by decide +kernel
theorem dL_law_1606 : decode cL_law 1606 = .ok (.aload_n 0, 1) := by decide +kernel
theorem dL_law_1607 : decode cL_law 1607 = .ok (.iload_n 3, 1) := by decide +kernel
theorem dL_law_1608 : decode cL_law 1608 = .ok (.iconst 1, 1) := by decide +kernel
theorem dL_law_1609 : decode cL_law 1609 = .ok (.iadd, 1) := by decide +kernel
theorem dL_law_1610 : decode cL_law 1610 = .ok (.iaload, 1) := by decide +kernel
theorem dL_law_1611 : decode cL_law 1611 = .ok (.invokevirtual 195, 3) := by decide +kernel
theorem dL_law_1614 : decode cL_law 1614 = .ok (.pop, 1) := by decide +kernel
theorem dL_law_1615 : decode cL_law 1615 = .ok (.goto 62, 3) := by decide +kernel
theorem dL_law_1618 : decode cL_law 1618 = .ok (.aload_n 1, 1) := by decide +kernel
theorem dL_law_1619 : decode cL_law 1619 = .ok (.aload_n 0, 1) := by decide +kernel
theorem dL_law_1620 : decode cL_law 1620 = .ok (.iload_n 3, 1) := by decide +kernel
theorem dL_law_1621 : decode cL_law 1621 = .ok (.iconst 1, 1) := by decide +kernel
theorem dL_law_1622 : decode cL_law 1622 = .ok (.iadd, 1) := by decide +kernel
theorem dL_law_1623 : decode cL_law 1623 = .ok (.iaload, 1) := by decide +kernel
theorem dL_law_1624 : decode cL_law 1624 = .ok (.invokevirtual 196, 3) := by decide +kernel
theorem dL_law_1627 : decode cL_law 1627 = .ok (.pop, 1) := by decide +kernel
theorem dL_law_1628 : decode cL_law 1628 = .ok (.aload_n 2, 1) := by decide +kernel
theorem dL_law_1629 : decode cL_law 1629 = .ok (.aload_n 0, 1) := by decide +kernel
theorem dL_law_1630 : decode cL_law 1630 = .ok (.iload_n 3, 1) := by decide +kernel
theorem dL_law_1631 : decode cL_law 1631 = .ok (.iconst 1, 1) := by decide +kernel
theorem dL_law_1632 : decode cL_law 1632 = .ok (.iadd, 1) := by decide +kernel
theorem dL_law_1633 : decode cL_law 1633 = .ok (.iaload, 1) := by decide +kernel
theorem dL_law_1634 : decode cL_law 1634 = .ok (.invokevirtual 199, 3) := by decide +kernel
theorem dL_law_1637 : decode cL_law 1637 = .ok (.pop, 1) := by decide +kernel
theorem dL_law_1638 : decode cL_law 1638 = .ok (.goto 39, 3) := by decide +kernel
theorem dL_law_1641 : decode cL_law 1641 = .ok (.aload_n 1, 1) := by decide +kernel
theorem dL_law_1642 : decode cL_law 1642 = .ok (.aload_n 0, 1) := by decide +kernel
theorem dL_law_1643 : decode cL_law 1643 = .ok (.iload_n 3, 1) := by decide +kernel
theorem dL_law_1644 : decode cL_law 1644 = .ok (.iconst 1, 1) := by decide +kernel
theorem dL_law_1645 : decode cL_law 1645 = .ok (.iadd, 1) := by decide +kernel
theorem dL_law_1646 : decode cL_law 1646 = .ok (.iaload, 1) := by decide +kernel
theorem dL_law_1647 : decode cL_law 1647 = .ok (.invokevirtual 200, 3) := by decide +kernel
theorem dL_law_1650 : decode cL_law 1650 = .ok (.pop, 1) := by decide +kernel
theorem dL_law_1651 : decode cL_law 1651 = .ok (.aload_n 2, 1) := by decide +kernel
theorem dL_law_1652 : decode cL_law 1652 = .ok (.aload_n 0, 1) := by decide +kernel
theorem dL_law_1653 : decode cL_law 1653 = .ok (.iload_n 3, 1) := by decide +kernel
theorem dL_law_1654 : decode cL_law 1654 = .ok (.iconst 1, 1) := by decide +kernel
theorem dL_law_1655 : decode cL_law 1655 = .ok (.iadd, 1) := by decide +kernel
theorem dL_law_1656 : decode cL_law 1656 = .ok (.iaload, 1) := by decide +kernel
theorem dL_law_1657 : decode cL_law 1657 = .ok (.invokevirtual 203, 3) := by decide +kernel
theorem dL_law_1660 : decode cL_law 1660 = .ok (.pop, 1) := by decide +kernel
theorem dL_law_1661 : decode cL_law 1661 = .ok (.goto 16, 3) := by decide +kernel
theorem dL_law_1664 : decode cL_law 1664 = .ok (.aload_n 1, 1) := by decide +kernel
theorem dL_law_1665 : decode cL_law 1665 = .ok (.invokevirtual 204, 3) := by decide +kernel
theorem dL_law_1668 : decode cL_law 1668 = .ok (.pop, 1) := by decide +kernel
theorem dL_law_1669 : decode cL_law 1669 = .ok (.aload_n 2, 1) := by decide +kernel
theorem dL_law_1670 : decode cL_law 1670 = .ok (.invokevirtual 207, 3) := by decide +kernel
theorem dL_law_1673 : decode cL_law 1673 = .ok (.pop, 1) := by decide +kernel
theorem dL_law_1674 : decode cL_law 1674 = .ok (.goto 3, 3) := by decide +kernel
set_option maxHeartbeats 4000000 in
set_option maxRecDepth 100000 in
theorem law_case_36 (l : Launch) (G : va_G) (cI cJ cZ cD cR cT : ClassId) (σ : SE) (x k b Ls : Nat) (xs : Nat → Int32) (p : Program) (e : Env) (s : State) (m : MethodId) (below : List Frame) (meth : Method) (c : Code) (A : Nat → Prop) (Q : State → Prop) (i : Int32) (E : EV G cI cJ cZ cD cR cT A cL_law ret 4 RL p s m ([.ref b] : List Value).toArray meth c) (hSX : SX σ A s s.heap) (hCA : CA s) (hX : va_X b Ls xs s s.heap) (hbl : b < s.heap.size) (hbA : ¬ A b) (hi : 0 ≤ i.toInt ∧ i.toInt + 6 ≤ (Ls : Int) ∧ Ls ≤ 3072) (cells slots : Nat) (hc : cells + 8 ≤ room_1.cells) (hs : slots + 2810 ≤ room_1.slots) (kp : Nat → Nat) (L : List Nat) (f : Nat → va_E) (S : State) (ls : Array Slot) (H : Heap) (locs : List Loc) (hI : LWS G cI cJ cZ cD cR cT A kp L f x k s S H locs) (hl : lv_has ls 4 [(3, .int i), (2, .ref k), (1, .ref x), (0, .ref b)])
  (hend : ∀ (kp : Nat → Nat) (L : List Nat) (f : Nat → va_E) (S : State) (ls : Array Slot) (H : Heap) (locs : List Loc), LWS G cI cJ cZ cD cR cT A kp L f x k s S H locs → lv_has ls 4 [(3, .int i), (2, .ref k), (1, .ref x), (0, .ref b)] → W p l e room_1 S m ([.ref b] : List Value).toArray below meth c H locs (cells + 8) (slots + 2810) Q (F0 m 1677 ls [])) : W p l e room_1 S m ([.ref b] : List Value).toArray below meth c H locs cells slots Q (F0 m 1434 ls []) := by
  obtain ⟨hdr, hW, rx, rk, hT, hZ⟩ := hI
  have hq := hs_S hdr
  have ES := ev_S E hdr
  have hXS := xx_S hdr hX
  have hTH := hW.2.2.2
  obtain ⟨hx, hb, -, hml, hown, hts, -, -, -⟩ := id ES
  have rx0 := rx
  have rk0 := rk
  refine lv_aload_n hx hb dL_law_1434 rfl (lv_at hl 2 rfl) ?_
  refine law_arg (k := 1) hx hb hl hXS (by rw [hq]; exact hbl) hbA hW.2.2.1 hi rfl (by decide) dL_law_1435 dL_law_1436 dL_law_1437 dL_law_1438 dL_law_1439 ?_
  refine t_callV (As := [.int (ag xs i 1)]) (rest := []) ES hW (c_X11_choose_u l G cI cJ cZ cD cR cT kp L f hW.2.2.2 _ x (ag xs i 1) rx) rx (by decide) rfl wk_X11_choose tw_1268 rfl ⟨Nat.le_of_ble_eq_true rfl, Nat.le_of_ble_eq_true rfl⟩ ⟨rfl, rfl⟩ hl.1 rfl (Nat.le_of_ble_eq_true rfl) dL_law_1440 ⟨by omega, by omega⟩ (fun v f1 H locs q hW1 => ?_)
  obtain ⟨⟨r1, rfl, p1⟩, g1, w1⟩ := q
  have hT1 := txi_fm hTH hT g1 rk0 rfl rfl rfl rfl
  have hZ1 := tie_pa hTH hZ g1 w1 rx0 rk0 rfl (by rw [fm_I g1 rx0 rfl]) (by rw [fm_I g1 rx0 rfl]) rfl rfl rfl
  have hW := hW1
  refine lv_pop hx hb dL_law_1443 rfl ?_
  refine lv_aload_n hx hb dL_law_1444 rfl (lv_at hl 1 rfl) ?_
  refine law_arg (k := 1) hx hb hl hXS (by rw [hq]; exact hbl) hbA hW.2.2.1 hi rfl (by decide) dL_law_1445 dL_law_1446 dL_law_1447 dL_law_1448 dL_law_1449 ?_
  refine t_callV (As := [.int (ag xs i 1)]) (rest := []) ES hW1 (c_X12_choose l G cI cJ cZ cD cR cT kp L f1 hW1.2.2.2 _ k (ag xs i 1) rk hT1.1) rk (by decide) rfl wk_X12_choose tw_2027 rfl ⟨Nat.le_of_ble_eq_true rfl, Nat.le_of_ble_eq_true rfl⟩ ⟨rfl, rfl⟩ hl.1 rfl (Nat.le_of_ble_eq_true rfl) dL_law_1450 ⟨by omega, by omega⟩ (fun v f2 H locs q hW2 => ?_)
  obtain ⟨⟨r2, rfl, p2⟩, g2, hR⟩ := q
  have hT2 := txi_rf hW1.2.2.2 hT1 g2 rk rfl rfl rfl hR (by decide) (by decide)
  have hZ2 := tie_row hW1.2.2.2 hZ1 g2 rx rk rfl rfl rfl rfl rfl (r8_rf rk g2 rfl hR (by decide +kernel) (by decide +kernel))
  refine lv_pop hx hb dL_law_1453 rfl ?_
  refine lv_goto (tgt := 1677) hx hb dL_law_1454 (by decide) ?_
  refine W.more (c2 := cells + 8) (s2 := slots + 2810) (by omega) (by omega) ?_
  exact hend kp L f2 S ls H locs ⟨hdr, hW2, rx, rk, hT2, hZ2⟩ hl
set_option maxHeartbeats 4000000 in
set_option maxRecDepth 100000 in
theorem law_case_37 (l : Launch) (G : va_G) (cI cJ cZ cD cR cT : ClassId) (σ : SE) (x k b Ls : Nat) (xs : Nat → Int32) (p : Program) (e : Env) (s : State) (m : MethodId) (below : List Frame) (meth : Method) (c : Code) (A : Nat → Prop) (Q : State → Prop) (i : Int32) (E : EV G cI cJ cZ cD cR cT A cL_law ret 4 RL p s m ([.ref b] : List Value).toArray meth c) (hSX : SX σ A s s.heap) (hCA : CA s) (hX : va_X b Ls xs s s.heap) (hbl : b < s.heap.size) (hbA : ¬ A b) (hi : 0 ≤ i.toInt ∧ i.toInt + 6 ≤ (Ls : Int) ∧ Ls ≤ 3072) (cells slots : Nat) (hc : cells + 8 ≤ room_1.cells) (hs : slots + 2810 ≤ room_1.slots) (kp : Nat → Nat) (L : List Nat) (f : Nat → va_E) (S : State) (ls : Array Slot) (H : Heap) (locs : List Loc) (hI : LWS G cI cJ cZ cD cR cT A kp L f x k s S H locs) (hl : lv_has ls 4 [(3, .int i), (2, .ref k), (1, .ref x), (0, .ref b)])
  (hend : ∀ (kp : Nat → Nat) (L : List Nat) (f : Nat → va_E) (S : State) (ls : Array Slot) (H : Heap) (locs : List Loc), LWS G cI cJ cZ cD cR cT A kp L f x k s S H locs → lv_has ls 4 [(3, .int i), (2, .ref k), (1, .ref x), (0, .ref b)] → W p l e room_1 S m ([.ref b] : List Value).toArray below meth c H locs (cells + 8) (slots + 2810) Q (F0 m 1677 ls [])) : W p l e room_1 S m ([.ref b] : List Value).toArray below meth c H locs cells slots Q (F0 m 1457 ls []) := by
  obtain ⟨hdr, hW, rx, rk, hT, hZ⟩ := hI
  have hq := hs_S hdr
  have ES := ev_S E hdr
  have hXS := xx_S hdr hX
  have hTH := hW.2.2.2
  obtain ⟨hx, hb, -, hml, hown, hts, -, -, -⟩ := id ES
  have rx0 := rx
  have rk0 := rk
  refine lv_aload_n hx hb dL_law_1457 rfl (lv_at hl 2 rfl) ?_
  refine law_arg (k := 1) hx hb hl hXS (by rw [hq]; exact hbl) hbA hW.2.2.1 hi rfl (by decide) dL_law_1458 dL_law_1459 dL_law_1460 dL_law_1461 dL_law_1462 ?_
  refine t_callV (As := [.int (ag xs i 1)]) (rest := []) ES hW (c_X11_chosen l G cI cJ cZ cD cR cT kp L f hW.2.2.2 _ x (ag xs i 1) rx) rx (by decide) rfl wk_X11_chosen tw_1323 rfl ⟨Nat.le_of_ble_eq_true rfl, Nat.le_of_ble_eq_true rfl⟩ ⟨rfl, rfl⟩ hl.1 rfl (Nat.le_of_ble_eq_true rfl) dL_law_1463 ⟨by omega, by omega⟩ (fun v f1 H locs q hW1 => ?_)
  obtain ⟨⟨r1, rfl, p1⟩, g1⟩ := q
  have hT1 := txi_fm hTH hT g1 rk0 rfl rfl rfl rfl
  have hZ1 := tie_fm hTH hZ g1 rx0 rk0 rfl rfl rfl rfl rfl rfl
  have hW := hW1
  refine lv_pop hx hb dL_law_1466 rfl ?_
  refine lv_aload_n hx hb dL_law_1467 rfl (lv_at hl 1 rfl) ?_
  refine law_arg (k := 1) hx hb hl hXS (by rw [hq]; exact hbl) hbA hW.2.2.1 hi rfl (by decide) dL_law_1468 dL_law_1469 dL_law_1470 dL_law_1471 dL_law_1472 ?_
  refine t_callV (As := [.int (ag xs i 1)]) (rest := []) ES hW1 (c_X12_chosen l G cI cJ cZ cD cR cT kp L f1 hW1.2.2.2 _ k (ag xs i 1) rk) rk (by decide) rfl wk_X12_chosen tw_2051 rfl ⟨Nat.le_of_ble_eq_true rfl, Nat.le_of_ble_eq_true rfl⟩ ⟨rfl, rfl⟩ hl.1 rfl (Nat.le_of_ble_eq_true rfl) dL_law_1473 ⟨by omega, by omega⟩ (fun v f2 H locs q hW2 => ?_)
  obtain ⟨⟨r2, rfl, p2⟩, g2⟩ := q
  have hT2 := txi_fm hW1.2.2.2 hT1 g2 rk rfl rfl rfl rfl
  have hZ2 := tie_fm hW1.2.2.2 hZ1 g2 rx rk rfl rfl rfl rfl rfl rfl
  refine lv_pop hx hb dL_law_1476 rfl ?_
  refine lv_goto (tgt := 1677) hx hb dL_law_1477 (by decide) ?_
  refine W.more (c2 := cells + 8) (s2 := slots + 2810) (by omega) (by omega) ?_
  exact hend kp L f2 S ls H locs ⟨hdr, hW2, rx, rk, hT2, hZ2⟩ hl
set_option maxHeartbeats 4000000 in
set_option maxRecDepth 100000 in
theorem law_case_38 (l : Launch) (G : va_G) (cI cJ cZ cD cR cT : ClassId) (σ : SE) (x k b Ls : Nat) (xs : Nat → Int32) (p : Program) (e : Env) (s : State) (m : MethodId) (below : List Frame) (meth : Method) (c : Code) (A : Nat → Prop) (Q : State → Prop) (i : Int32) (E : EV G cI cJ cZ cD cR cT A cL_law ret 4 RL p s m ([.ref b] : List Value).toArray meth c) (hSX : SX σ A s s.heap) (hCA : CA s) (hX : va_X b Ls xs s s.heap) (hbl : b < s.heap.size) (hbA : ¬ A b) (hi : 0 ≤ i.toInt ∧ i.toInt + 6 ≤ (Ls : Int) ∧ Ls ≤ 3072) (cells slots : Nat) (hc : cells + 8 ≤ room_1.cells) (hs : slots + 2810 ≤ room_1.slots) (kp : Nat → Nat) (L : List Nat) (f : Nat → va_E) (S : State) (ls : Array Slot) (H : Heap) (locs : List Loc) (hI : LWS G cI cJ cZ cD cR cT A kp L f x k s S H locs) (hl : lv_has ls 4 [(3, .int i), (2, .ref k), (1, .ref x), (0, .ref b)])
  (hend : ∀ (kp : Nat → Nat) (L : List Nat) (f : Nat → va_E) (S : State) (ls : Array Slot) (H : Heap) (locs : List Loc), LWS G cI cJ cZ cD cR cT A kp L f x k s S H locs → lv_has ls 4 [(3, .int i), (2, .ref k), (1, .ref x), (0, .ref b)] → W p l e room_1 S m ([.ref b] : List Value).toArray below meth c H locs (cells + 8) (slots + 2810) Q (F0 m 1677 ls [])) : W p l e room_1 S m ([.ref b] : List Value).toArray below meth c H locs cells slots Q (F0 m 1480 ls []) := by
  obtain ⟨hdr, hW, rx, rk, hT, hZ⟩ := hI
  have hq := hs_S hdr
  have ES := ev_S E hdr
  have hXS := xx_S hdr hX
  have hTH := hW.2.2.2
  obtain ⟨hx, hb, -, hml, hown, hts, -, -, -⟩ := id ES
  have rx0 := rx
  have rk0 := rk
  refine lv_aload_n hx hb dL_law_1480 rfl (lv_at hl 2 rfl) ?_
  refine law_arg (k := 1) hx hb hl hXS (by rw [hq]; exact hbl) hbA hW.2.2.1 hi rfl (by decide) dL_law_1481 dL_law_1482 dL_law_1483 dL_law_1484 dL_law_1485 ?_
  refine law_arg (k := 2) hx hb hl hXS (by rw [hq]; exact hbl) hbA hW.2.2.1 hi rfl (by decide) dL_law_1486 dL_law_1487 dL_law_1488 dL_law_1489 dL_law_1490 ?_
  refine t_callV (As := [.int (ag xs i 1), .int (ag xs i 2)]) (rest := []) ES hW (c_X11_judge_u l G cI cJ cZ cD cR cT kp L f hW.2.2.2 _ x (ag xs i 1) (ag xs i 2) rx) rx (by decide) rfl wk_X11_judge tw_1327 rfl ⟨Nat.le_of_ble_eq_true rfl, Nat.le_of_ble_eq_true rfl⟩ ⟨rfl, rfl⟩ hl.1 rfl (Nat.le_of_ble_eq_true rfl) dL_law_1491 ⟨by omega, by omega⟩ (fun v f1 H locs q hW1 => ?_)
  obtain ⟨⟨r1, rfl, p1⟩, g1, w1⟩ := q
  have hT1 := txi_fm hTH hT g1 rk0 rfl rfl rfl rfl
  have hZ1 := tie_pa hTH hZ g1 w1 rx0 rk0 rfl (by rw [fm_I g1 rx0 rfl]) (by rw [fm_I g1 rx0 rfl]) rfl rfl rfl
  have hW := hW1
  refine lv_pop hx hb dL_law_1494 rfl ?_
  refine lv_aload_n hx hb dL_law_1495 rfl (lv_at hl 1 rfl) ?_
  refine law_arg (k := 1) hx hb hl hXS (by rw [hq]; exact hbl) hbA hW.2.2.1 hi rfl (by decide) dL_law_1496 dL_law_1497 dL_law_1498 dL_law_1499 dL_law_1500 ?_
  refine law_arg (k := 2) hx hb hl hXS (by rw [hq]; exact hbl) hbA hW.2.2.1 hi rfl (by decide) dL_law_1501 dL_law_1502 dL_law_1503 dL_law_1504 dL_law_1505 ?_
  refine t_callV (As := [.int (ag xs i 1), .int (ag xs i 2)]) (rest := []) ES hW1 (c_X12_judge l G cI cJ cZ cD cR cT kp L f1 hW1.2.2.2 _ k (ag xs i 1) (ag xs i 2) rk hT1.1) rk (by decide) rfl wk_X12_judge tw_2055 rfl ⟨Nat.le_of_ble_eq_true rfl, Nat.le_of_ble_eq_true rfl⟩ ⟨rfl, rfl⟩ hl.1 rfl (Nat.le_of_ble_eq_true rfl) dL_law_1506 ⟨by omega, by omega⟩ (fun v f2 H locs q hW2 => ?_)
  obtain ⟨⟨r2, rfl, p2⟩, g2, hR⟩ := q
  have hT2 := txi_rf hW1.2.2.2 hT1 g2 rk rfl rfl rfl hR (by decide) (by decide)
  have hZ2 := tie_row hW1.2.2.2 hZ1 g2 rx rk rfl rfl rfl rfl rfl (r8_rf rk g2 rfl hR (by decide +kernel) (by decide +kernel))
  refine lv_pop hx hb dL_law_1509 rfl ?_
  refine lv_goto (tgt := 1677) hx hb dL_law_1510 (by decide) ?_
  refine W.more (c2 := cells + 8) (s2 := slots + 2810) (by omega) (by omega) ?_
  exact hend kp L f2 S ls H locs ⟨hdr, hW2, rx, rk, hT2, hZ2⟩ hl
set_option maxHeartbeats 4000000 in
set_option maxRecDepth 100000 in
theorem law_case_39 (l : Launch) (G : va_G) (cI cJ cZ cD cR cT : ClassId) (σ : SE) (x k b Ls : Nat) (xs : Nat → Int32) (p : Program) (e : Env) (s : State) (m : MethodId) (below : List Frame) (meth : Method) (c : Code) (A : Nat → Prop) (Q : State → Prop) (i : Int32) (E : EV G cI cJ cZ cD cR cT A cL_law ret 4 RL p s m ([.ref b] : List Value).toArray meth c) (hSX : SX σ A s s.heap) (hCA : CA s) (hX : va_X b Ls xs s s.heap) (hbl : b < s.heap.size) (hbA : ¬ A b) (hi : 0 ≤ i.toInt ∧ i.toInt + 6 ≤ (Ls : Int) ∧ Ls ≤ 3072) (cells slots : Nat) (hc : cells + 8 ≤ room_1.cells) (hs : slots + 2810 ≤ room_1.slots) (kp : Nat → Nat) (L : List Nat) (f : Nat → va_E) (S : State) (ls : Array Slot) (H : Heap) (locs : List Loc) (hI : LWS G cI cJ cZ cD cR cT A kp L f x k s S H locs) (hl : lv_has ls 4 [(3, .int i), (2, .ref k), (1, .ref x), (0, .ref b)])
  (hend : ∀ (kp : Nat → Nat) (L : List Nat) (f : Nat → va_E) (S : State) (ls : Array Slot) (H : Heap) (locs : List Loc), LWS G cI cJ cZ cD cR cT A kp L f x k s S H locs → lv_has ls 4 [(3, .int i), (2, .ref k), (1, .ref x), (0, .ref b)] → W p l e room_1 S m ([.ref b] : List Value).toArray below meth c H locs (cells + 8) (slots + 2810) Q (F0 m 1677 ls [])) : W p l e room_1 S m ([.ref b] : List Value).toArray below meth c H locs cells slots Q (F0 m 1513 ls []) := by
  obtain ⟨hdr, hW, rx, rk, hT, hZ⟩ := hI
  have hq := hs_S hdr
  have ES := ev_S E hdr
  have hXS := xx_S hdr hX
  have hTH := hW.2.2.2
  obtain ⟨hx, hb, -, hml, hown, hts, -, -, -⟩ := id ES
  have rx0 := rx
  have rk0 := rk
  refine lv_aload_n hx hb dL_law_1513 rfl (lv_at hl 2 rfl) ?_
  refine law_arg (k := 1) hx hb hl hXS (by rw [hq]; exact hbl) hbA hW.2.2.1 hi rfl (by decide) dL_law_1514 dL_law_1515 dL_law_1516 dL_law_1517 dL_law_1518 ?_
  refine t_callVSC (As := [.int (ag xs i 1)]) (rest := []) ES (sx_S hdr hSX) (ca_S hdr hCA) hW (c_X11_beside_u l G cI cJ cZ cD cR cT kp L f hW.2.2.2 _ σ x (ag xs i 1) rx) rx (by decide) rfl wk_X11_beside tw_1331 rfl ⟨Nat.le_of_ble_eq_true rfl, Nat.le_of_ble_eq_true rfl⟩ ⟨rfl, rfl⟩ hl.1 rfl (Nat.le_of_ble_eq_true rfl) dL_law_1519 ⟨by omega, by omega⟩ (fun v kp1 L1 f1 H locs hE q hW1 => ?_)
  obtain ⟨⟨r1, rfl⟩, g1, w1⟩ := q
  have hT1 := txi_fm hTH hT g1 rk0 rfl rfl rfl rfl
  have rx := hE _ _ rx
  have rk := hE _ _ rk
  have hZ1 := tie_pa hTH hZ g1 w1 rx0 rk0 rfl (by rw [fm_I g1 rx0 rfl]) (by rw [fm_I g1 rx0 rfl]) rfl rfl rfl
  have hW := hW1
  refine lv_pop2_2 hx hb dL_law_1522 rfl ?_
  refine lv_aload_n hx hb dL_law_1523 rfl (lv_at hl 1 rfl) ?_
  refine law_arg (k := 1) hx hb hl hXS (by rw [hq]; exact hbl) hbA hW.2.2.1 hi rfl (by decide) dL_law_1524 dL_law_1525 dL_law_1526 dL_law_1527 dL_law_1528 ?_
  refine t_callV (As := [.int (ag xs i 1)]) (rest := []) ES hW1 (c_X12_beside l G cI cJ cZ cD cR cT kp1 L1 f1 hW1.2.2.2 _ k (ag xs i 1) rk hT1.1) rk (by decide) rfl wk_X12_beside tw_2059 rfl ⟨Nat.le_of_ble_eq_true rfl, Nat.le_of_ble_eq_true rfl⟩ ⟨rfl, rfl⟩ hl.1 rfl (Nat.le_of_ble_eq_true rfl) dL_law_1529 ⟨by omega, by omega⟩ (fun v f2 H locs q hW2 => ?_)
  obtain ⟨⟨r2, rfl, p2⟩, g2, hR⟩ := q
  have hT2 := txi_rf hW1.2.2.2 hT1 g2 rk rfl rfl rfl hR (by decide) (by decide)
  have hZ2 := tie_row hW1.2.2.2 hZ1 g2 rx rk rfl rfl rfl rfl rfl (r8_rf rk g2 rfl hR (by decide +kernel) (by decide +kernel))
  refine lv_pop2_2 hx hb dL_law_1532 rfl ?_
  refine lv_goto (tgt := 1677) hx hb dL_law_1533 (by decide) ?_
  refine W.more (c2 := cells + 8) (s2 := slots + 2810) (by omega) (by omega) ?_
  exact hend kp1 L1 f2 S ls H locs ⟨hdr, hW2, rx, rk, hT2, hZ2⟩ hl
set_option maxHeartbeats 4000000 in
set_option maxRecDepth 100000 in
theorem law_case_40 (l : Launch) (G : va_G) (cI cJ cZ cD cR cT : ClassId) (σ : SE) (x k b Ls : Nat) (xs : Nat → Int32) (p : Program) (e : Env) (s : State) (m : MethodId) (below : List Frame) (meth : Method) (c : Code) (A : Nat → Prop) (Q : State → Prop) (i : Int32) (E : EV G cI cJ cZ cD cR cT A cL_law ret 4 RL p s m ([.ref b] : List Value).toArray meth c) (hSX : SX σ A s s.heap) (hCA : CA s) (hX : va_X b Ls xs s s.heap) (hbl : b < s.heap.size) (hbA : ¬ A b) (hi : 0 ≤ i.toInt ∧ i.toInt + 6 ≤ (Ls : Int) ∧ Ls ≤ 3072) (cells slots : Nat) (hc : cells + 8 ≤ room_1.cells) (hs : slots + 2810 ≤ room_1.slots) (kp : Nat → Nat) (L : List Nat) (f : Nat → va_E) (S : State) (ls : Array Slot) (H : Heap) (locs : List Loc) (hI : LWS G cI cJ cZ cD cR cT A kp L f x k s S H locs) (hl : lv_has ls 4 [(3, .int i), (2, .ref k), (1, .ref x), (0, .ref b)])
  (hend : ∀ (kp : Nat → Nat) (L : List Nat) (f : Nat → va_E) (S : State) (ls : Array Slot) (H : Heap) (locs : List Loc), LWS G cI cJ cZ cD cR cT A kp L f x k s S H locs → lv_has ls 4 [(3, .int i), (2, .ref k), (1, .ref x), (0, .ref b)] → W p l e room_1 S m ([.ref b] : List Value).toArray below meth c H locs (cells + 8) (slots + 2810) Q (F0 m 1677 ls [])) : W p l e room_1 S m ([.ref b] : List Value).toArray below meth c H locs cells slots Q (F0 m 1536 ls []) := by
  obtain ⟨hdr, hW, rx, rk, hT, hZ⟩ := hI
  have hq := hs_S hdr
  have ES := ev_S E hdr
  have hXS := xx_S hdr hX
  have hTH := hW.2.2.2
  obtain ⟨hx, hb, -, hml, hown, hts, -, -, -⟩ := id ES
  have rx0 := rx
  have rk0 := rk
  refine lv_aload_n hx hb dL_law_1536 rfl (lv_at hl 2 rfl) ?_
  refine t_callV (As := []) (rest := []) ES hW (c_X11_seal l G cI cJ cZ cD cR cT kp L f hW.2.2.2 _ x  rx) rx (by decide) rfl wk_X11_seal tw_1340 rfl ⟨Nat.le_of_ble_eq_true rfl, Nat.le_of_ble_eq_true rfl⟩ ⟨rfl, rfl⟩ hl.1 rfl (Nat.le_of_ble_eq_true rfl) dL_law_1537 ⟨by omega, by omega⟩ (fun v f1 H locs q hW1 => ?_)
  obtain ⟨⟨r1, rfl, p1⟩, g1⟩ := q
  have hT1 := txi_fm hTH hT g1 rk0 rfl rfl rfl rfl
  have hZ1 := tie_fm hTH hZ g1 rx0 rk0 rfl rfl rfl rfl rfl rfl
  have hW := hW1
  refine lv_pop hx hb dL_law_1540 rfl ?_
  refine lv_aload_n hx hb dL_law_1541 rfl (lv_at hl 1 rfl) ?_
  refine t_callV (As := []) (rest := []) ES hW1 (c_X12_seal l G cI cJ cZ cD cR cT kp L f1 hW1.2.2.2 _ k  rk) rk (by decide) rfl wk_X12_seal tw_2068 rfl ⟨Nat.le_of_ble_eq_true rfl, Nat.le_of_ble_eq_true rfl⟩ ⟨rfl, rfl⟩ hl.1 rfl (Nat.le_of_ble_eq_true rfl) dL_law_1542 ⟨by omega, by omega⟩ (fun v f2 H locs q hW2 => ?_)
  obtain ⟨⟨r2, rfl, p2⟩, g2, hR⟩ := q
  have hT2 := txi_rf hW1.2.2.2 hT1 g2 rk rfl rfl rfl hR (by decide) (by decide)
  have hZ2 := tie_row hW1.2.2.2 hZ1 g2 rx rk rfl rfl rfl rfl rfl (r8_rf rk g2 rfl hR (by decide +kernel) (by decide +kernel))
  refine lv_pop hx hb dL_law_1545 rfl ?_
  refine lv_goto (tgt := 1677) hx hb dL_law_1546 (by decide) ?_
  refine W.more (c2 := cells + 8) (s2 := slots + 2810) (by omega) (by omega) ?_
  exact hend kp L f2 S ls H locs ⟨hdr, hW2, rx, rk, hT2, hZ2⟩ hl
set_option maxHeartbeats 4000000 in
set_option maxRecDepth 100000 in
theorem law_case_41 (l : Launch) (G : va_G) (cI cJ cZ cD cR cT : ClassId) (σ : SE) (x k b Ls : Nat) (xs : Nat → Int32) (p : Program) (e : Env) (s : State) (m : MethodId) (below : List Frame) (meth : Method) (c : Code) (A : Nat → Prop) (Q : State → Prop) (i : Int32) (E : EV G cI cJ cZ cD cR cT A cL_law ret 4 RL p s m ([.ref b] : List Value).toArray meth c) (hSX : SX σ A s s.heap) (hCA : CA s) (hX : va_X b Ls xs s s.heap) (hbl : b < s.heap.size) (hbA : ¬ A b) (hi : 0 ≤ i.toInt ∧ i.toInt + 6 ≤ (Ls : Int) ∧ Ls ≤ 3072) (cells slots : Nat) (hc : cells + 8 ≤ room_1.cells) (hs : slots + 2810 ≤ room_1.slots) (kp : Nat → Nat) (L : List Nat) (f : Nat → va_E) (S : State) (ls : Array Slot) (H : Heap) (locs : List Loc) (hI : LWS G cI cJ cZ cD cR cT A kp L f x k s S H locs) (hl : lv_has ls 4 [(3, .int i), (2, .ref k), (1, .ref x), (0, .ref b)])
  (hend : ∀ (kp : Nat → Nat) (L : List Nat) (f : Nat → va_E) (S : State) (ls : Array Slot) (H : Heap) (locs : List Loc), LWS G cI cJ cZ cD cR cT A kp L f x k s S H locs → lv_has ls 4 [(3, .int i), (2, .ref k), (1, .ref x), (0, .ref b)] → W p l e room_1 S m ([.ref b] : List Value).toArray below meth c H locs (cells + 8) (slots + 2810) Q (F0 m 1677 ls [])) : W p l e room_1 S m ([.ref b] : List Value).toArray below meth c H locs cells slots Q (F0 m 1549 ls []) := by
  obtain ⟨hdr, hW, rx, rk, hT, hZ⟩ := hI
  have hq := hs_S hdr
  have ES := ev_S E hdr
  have hXS := xx_S hdr hX
  have hTH := hW.2.2.2
  obtain ⟨hx, hb, -, hml, hown, hts, -, -, -⟩ := id ES
  have rx0 := rx
  have rk0 := rk
  refine lv_aload_n hx hb dL_law_1549 rfl (lv_at hl 2 rfl) ?_
  refine law_arg (k := 1) hx hb hl hXS (by rw [hq]; exact hbl) hbA hW.2.2.1 hi rfl (by decide) dL_law_1550 dL_law_1551 dL_law_1552 dL_law_1553 dL_law_1554 ?_
  refine law_arg (k := 2) hx hb hl hXS (by rw [hq]; exact hbl) hbA hW.2.2.1 hi rfl (by decide) dL_law_1555 dL_law_1556 dL_law_1557 dL_law_1558 dL_law_1559 ?_
  refine t_callV (As := [.int (ag xs i 1), .int (ag xs i 2)]) (rest := []) ES hW (c_X11_alter l G cI cJ cZ cD cR cT kp L f hW.2.2.2 _ x (ag xs i 1) (ag xs i 2) rx) rx (by decide) rfl wk_X11_alter tw_1356 rfl ⟨Nat.le_of_ble_eq_true rfl, Nat.le_of_ble_eq_true rfl⟩ ⟨rfl, rfl⟩ hl.1 rfl (Nat.le_of_ble_eq_true rfl) dL_law_1560 ⟨by omega, by omega⟩ (fun v f1 H locs q hW1 => ?_)
  obtain ⟨⟨r1, rfl, p1⟩, g1⟩ := q
  have hT1 := txi_fm hTH hT g1 rk0 rfl rfl rfl rfl
  have hZ1 := tie_fm hTH hZ g1 rx0 rk0 rfl rfl rfl rfl rfl rfl
  have hW := hW1
  refine lv_pop hx hb dL_law_1563 rfl ?_
  refine lv_aload_n hx hb dL_law_1564 rfl (lv_at hl 1 rfl) ?_
  refine law_arg (k := 1) hx hb hl hXS (by rw [hq]; exact hbl) hbA hW.2.2.1 hi rfl (by decide) dL_law_1565 dL_law_1566 dL_law_1567 dL_law_1568 dL_law_1569 ?_
  refine law_arg (k := 2) hx hb hl hXS (by rw [hq]; exact hbl) hbA hW.2.2.1 hi rfl (by decide) dL_law_1570 dL_law_1571 dL_law_1572 dL_law_1573 dL_law_1574 ?_
  refine t_callV (As := [.int (ag xs i 1), .int (ag xs i 2)]) (rest := []) ES hW1 (c_X12_alter l G cI cJ cZ cD cR cT kp L f1 hW1.2.2.2 _ k (ag xs i 1) (ag xs i 2) rk) rk (by decide) rfl wk_X12_alter tw_2076 rfl ⟨Nat.le_of_ble_eq_true rfl, Nat.le_of_ble_eq_true rfl⟩ ⟨rfl, rfl⟩ hl.1 rfl (Nat.le_of_ble_eq_true rfl) dL_law_1575 ⟨by omega, by omega⟩ (fun v f2 H locs q hW2 => ?_)
  obtain ⟨⟨r2, rfl, p2⟩, g2, hR⟩ := q
  have hT2 := txi_rf hW1.2.2.2 hT1 g2 rk rfl rfl rfl hR (by decide) (by decide)
  have hZ2 := tie_row hW1.2.2.2 hZ1 g2 rx rk rfl rfl rfl rfl rfl (r8_rf rk g2 rfl hR (by decide +kernel) (by decide +kernel))
  refine lv_pop hx hb dL_law_1578 rfl ?_
  refine lv_goto (tgt := 1677) hx hb dL_law_1579 (by decide) ?_
  refine W.more (c2 := cells + 8) (s2 := slots + 2810) (by omega) (by omega) ?_
  exact hend kp L f2 S ls H locs ⟨hdr, hW2, rx, rk, hT2, hZ2⟩ hl
set_option maxHeartbeats 4000000 in
set_option maxRecDepth 100000 in
theorem law_case_42 (l : Launch) (G : va_G) (cI cJ cZ cD cR cT : ClassId) (σ : SE) (x k b Ls : Nat) (xs : Nat → Int32) (p : Program) (e : Env) (s : State) (m : MethodId) (below : List Frame) (meth : Method) (c : Code) (A : Nat → Prop) (Q : State → Prop) (i : Int32) (E : EV G cI cJ cZ cD cR cT A cL_law ret 4 RL p s m ([.ref b] : List Value).toArray meth c) (hSX : SX σ A s s.heap) (hCA : CA s) (hX : va_X b Ls xs s s.heap) (hbl : b < s.heap.size) (hbA : ¬ A b) (hi : 0 ≤ i.toInt ∧ i.toInt + 6 ≤ (Ls : Int) ∧ Ls ≤ 3072) (cells slots : Nat) (hc : cells + 8 ≤ room_1.cells) (hs : slots + 2810 ≤ room_1.slots) (kp : Nat → Nat) (L : List Nat) (f : Nat → va_E) (S : State) (ls : Array Slot) (H : Heap) (locs : List Loc) (hI : LWS G cI cJ cZ cD cR cT A kp L f x k s S H locs) (hl : lv_has ls 4 [(3, .int i), (2, .ref k), (1, .ref x), (0, .ref b)])
  (hend : ∀ (kp : Nat → Nat) (L : List Nat) (f : Nat → va_E) (S : State) (ls : Array Slot) (H : Heap) (locs : List Loc), LWS G cI cJ cZ cD cR cT A kp L f x k s S H locs → lv_has ls 4 [(3, .int i), (2, .ref k), (1, .ref x), (0, .ref b)] → W p l e room_1 S m ([.ref b] : List Value).toArray below meth c H locs (cells + 8) (slots + 2810) Q (F0 m 1677 ls [])) : W p l e room_1 S m ([.ref b] : List Value).toArray below meth c H locs cells slots Q (F0 m 1582 ls []) := by
  obtain ⟨hdr, hW, rx, rk, hT, hZ⟩ := hI
  have hq := hs_S hdr
  have ES := ev_S E hdr
  have hXS := xx_S hdr hX
  have hTH := hW.2.2.2
  obtain ⟨hx, hb, -, hml, hown, hts, -, -, -⟩ := id ES
  have rx0 := rx
  have rk0 := rk
  refine lv_aload_n hx hb dL_law_1582 rfl (lv_at hl 2 rfl) ?_
  refine t_callV (As := []) (rest := []) ES hW (c_X11_found l G cI cJ cZ cD cR cT kp L f hW.2.2.2 _ x  rx) rx (by decide) rfl wk_X11_found tw_1360 rfl ⟨Nat.le_of_ble_eq_true rfl, Nat.le_of_ble_eq_true rfl⟩ ⟨rfl, rfl⟩ hl.1 rfl (Nat.le_of_ble_eq_true rfl) dL_law_1583 ⟨by omega, by omega⟩ (fun v f1 H locs q hW1 => ?_)
  obtain ⟨⟨r1, rfl, p1⟩, g1⟩ := q
  have hT1 := txi_fm hTH hT g1 rk0 rfl rfl rfl rfl
  have hZ1 := tie_fm hTH hZ g1 rx0 rk0 rfl rfl rfl rfl rfl rfl
  have hW := hW1
  refine lv_pop hx hb dL_law_1586 rfl ?_
  refine lv_aload_n hx hb dL_law_1587 rfl (lv_at hl 1 rfl) ?_
  refine t_callV (As := []) (rest := []) ES hW1 (c_X12_found l G cI cJ cZ cD cR cT kp L f1 hW1.2.2.2 _ k  rk) rk (by decide) rfl wk_X12_found tw_2081 rfl ⟨Nat.le_of_ble_eq_true rfl, Nat.le_of_ble_eq_true rfl⟩ ⟨rfl, rfl⟩ hl.1 rfl (Nat.le_of_ble_eq_true rfl) dL_law_1588 ⟨by omega, by omega⟩ (fun v f2 H locs q hW2 => ?_)
  obtain ⟨⟨r2, rfl, p2⟩, g2⟩ := q
  have hT2 := txi_fm hW1.2.2.2 hT1 g2 rk rfl rfl rfl rfl
  have hZ2 := tie_fm hW1.2.2.2 hZ1 g2 rx rk rfl rfl rfl rfl rfl rfl
  refine lv_pop hx hb dL_law_1591 rfl ?_
  refine lv_goto (tgt := 1677) hx hb dL_law_1592 (by decide) ?_
  refine W.more (c2 := cells + 8) (s2 := slots + 2810) (by omega) (by omega) ?_
  exact hend kp L f2 S ls H locs ⟨hdr, hW2, rx, rk, hT2, hZ2⟩ hl
set_option maxHeartbeats 4000000 in
set_option maxRecDepth 100000 in
theorem law_case_43 (l : Launch) (G : va_G) (cI cJ cZ cD cR cT : ClassId) (σ : SE) (x k b Ls : Nat) (xs : Nat → Int32) (p : Program) (e : Env) (s : State) (m : MethodId) (below : List Frame) (meth : Method) (c : Code) (A : Nat → Prop) (Q : State → Prop) (i : Int32) (E : EV G cI cJ cZ cD cR cT A cL_law ret 4 RL p s m ([.ref b] : List Value).toArray meth c) (hSX : SX σ A s s.heap) (hCA : CA s) (hX : va_X b Ls xs s s.heap) (hbl : b < s.heap.size) (hbA : ¬ A b) (hi : 0 ≤ i.toInt ∧ i.toInt + 6 ≤ (Ls : Int) ∧ Ls ≤ 3072) (cells slots : Nat) (hc : cells + 8 ≤ room_1.cells) (hs : slots + 2810 ≤ room_1.slots) (kp : Nat → Nat) (L : List Nat) (f : Nat → va_E) (S : State) (ls : Array Slot) (H : Heap) (locs : List Loc) (hI : LWS G cI cJ cZ cD cR cT A kp L f x k s S H locs) (hl : lv_has ls 4 [(3, .int i), (2, .ref k), (1, .ref x), (0, .ref b)])
  (hend : ∀ (kp : Nat → Nat) (L : List Nat) (f : Nat → va_E) (S : State) (ls : Array Slot) (H : Heap) (locs : List Loc), LWS G cI cJ cZ cD cR cT A kp L f x k s S H locs → lv_has ls 4 [(3, .int i), (2, .ref k), (1, .ref x), (0, .ref b)] → W p l e room_1 S m ([.ref b] : List Value).toArray below meth c H locs (cells + 8) (slots + 2810) Q (F0 m 1677 ls [])) : W p l e room_1 S m ([.ref b] : List Value).toArray below meth c H locs cells slots Q (F0 m 1595 ls []) := by
  obtain ⟨hdr, hW, rx, rk, hT, hZ⟩ := hI
  have hq := hs_S hdr
  have ES := ev_S E hdr
  have hXS := xx_S hdr hX
  have hTH := hW.2.2.2
  obtain ⟨hx, hb, -, hml, hown, hts, -, -, -⟩ := id ES
  have rx0 := rx
  have rk0 := rk
  refine lv_aload_n hx hb dL_law_1595 rfl (lv_at hl 2 rfl) ?_
  refine law_arg (k := 1) hx hb hl hXS (by rw [hq]; exact hbl) hbA hW.2.2.1 hi rfl (by decide) dL_law_1596 dL_law_1597 dL_law_1598 dL_law_1599 dL_law_1600 ?_
  by_cases u0 : (ag xs i 1).toInt = 0
  · have eu : ag xs i 1 = 0 := Int32.toInt_inj.mp (u0.trans rfl)
    rw [eu]
    refine t_callV (As := [.int 0]) (rest := []) ES hW (c_X11_image_u0 l G cI cJ cZ cD cR cT kp L f hW.2.2.2 _ x  rx) rx (by decide) rfl wk_X11_image tw_1368 rfl ⟨Nat.le_of_ble_eq_true rfl, Nat.le_of_ble_eq_true rfl⟩ ⟨rfl, rfl⟩ hl.1 rfl (Nat.le_of_ble_eq_true rfl) dL_law_1601 ⟨by omega, by omega⟩ (fun v f1 H locs q hW1 => ?_)
    obtain ⟨⟨r1, rfl, p1⟩, g1, fl, xP, xL, w1⟩ := q
    have hT1 := txi_fm hTH hT g1 rk0 rfl rfl rfl rfl
    have hW := hW1
    refine lv_pop hx hb dL_law_1604 rfl ?_
    refine lv_aload_n hx hb dL_law_1605 rfl (lv_at hl 1 rfl) ?_
    refine law_arg (k := 1) hx hb hl hXS (by rw [hq]; exact hbl) hbA hW.2.2.1 hi rfl (by decide) dL_law_1606 dL_law_1607 dL_law_1608 dL_law_1609 dL_law_1610 ?_
    refine t_callV (As := [.int (ag xs i 1)]) (rest := []) ES hW1 (c_X12_image_x l G cI cJ cZ cD cR cT kp L f1 hW1.2.2.2 _ k (ag xs i 1) rk) rk (by decide) rfl wk_X12_image tw_1550 rfl ⟨Nat.le_of_ble_eq_true rfl, Nat.le_of_ble_eq_true rfl⟩ ⟨rfl, rfl⟩ hl.1 rfl (Nat.le_of_ble_eq_true rfl) dL_law_1611 ⟨by omega, by omega⟩ (fun v f2 H locs q hW2 => ?_)
    obtain ⟨⟨r2, rfl, p2⟩, g2, hY, z2⟩ := q
    have hT2 := txi_image hW1.2.2.2 hT1 g2 rk rfl rfl rfl (hY.imp id And.right)
    obtain ⟨-, hcp, ho⟩ := hY.resolve_right (fun h => h.1 (by omega))
    have hk := (z2.resolve_right (fun h => h.1 (by omega))).2
    have hR1 := re_fm g1 rx0 (rfl : NO KR _ = true)
    have hv := v8_eq hR1 (rk4 hTH rx0).2.2.1 xP xL
    have hZ2 := tie_image0 hTH hW1.2.2.2 hZ g1 w1 fl hv g2 u0 hcp ho hk rx rk rfl rfl rfl rfl rfl rfl rfl rfl rfl rfl
    refine lv_pop hx hb dL_law_1614 rfl ?_
    refine lv_goto (tgt := 1677) hx hb dL_law_1615 (by decide) ?_
    refine W.more (c2 := cells + 8) (s2 := slots + 2810) (by omega) (by omega) ?_
    exact hend kp L f2 S ls H locs ⟨hdr, hW2, rx, rk, hT2, hZ2⟩ hl
  by_cases u1 : (ag xs i 1).toInt = 1
  · have eu : ag xs i 1 = 1 := Int32.toInt_inj.mp (u1.trans rfl)
    rw [eu]
    refine t_callV (As := [.int 1]) (rest := []) ES hW (c_X11_image_u1 l G cI cJ cZ cD cR cT kp L f hW.2.2.2 _ x  rx) rx (by decide) rfl wk_X11_image tw_1368 rfl ⟨Nat.le_of_ble_eq_true rfl, Nat.le_of_ble_eq_true rfl⟩ ⟨rfl, rfl⟩ hl.1 rfl (Nat.le_of_ble_eq_true rfl) dL_law_1601 ⟨by omega, by omega⟩ (fun v f1 H locs q hW1 => ?_)
    obtain ⟨⟨r1, rfl, p1⟩, g1, fl, xP, xL, w1⟩ := q
    have hT1 := txi_fm hTH hT g1 rk0 rfl rfl rfl rfl
    have hW := hW1
    refine lv_pop hx hb dL_law_1604 rfl ?_
    refine lv_aload_n hx hb dL_law_1605 rfl (lv_at hl 1 rfl) ?_
    refine law_arg (k := 1) hx hb hl hXS (by rw [hq]; exact hbl) hbA hW.2.2.1 hi rfl (by decide) dL_law_1606 dL_law_1607 dL_law_1608 dL_law_1609 dL_law_1610 ?_
    refine t_callV (As := [.int (ag xs i 1)]) (rest := []) ES hW1 (c_X12_image_x l G cI cJ cZ cD cR cT kp L f1 hW1.2.2.2 _ k (ag xs i 1) rk) rk (by decide) rfl wk_X12_image tw_1550 rfl ⟨Nat.le_of_ble_eq_true rfl, Nat.le_of_ble_eq_true rfl⟩ ⟨rfl, rfl⟩ hl.1 rfl (Nat.le_of_ble_eq_true rfl) dL_law_1611 ⟨by omega, by omega⟩ (fun v f2 H locs q hW2 => ?_)
    obtain ⟨⟨r2, rfl, p2⟩, g2, hY, z2⟩ := q
    have hT2 := txi_image hW1.2.2.2 hT1 g2 rk rfl rfl rfl (hY.imp id And.right)
    obtain ⟨-, hcp, ho⟩ := hY.resolve_right (fun h => h.1 (by omega))
    have hk := (z2.resolve_right (fun h => h.1 (by omega))).2
    have hR1 := re_fm g1 rx0 (rfl : NO KR _ = true)
    have hv := v8_eq hR1 (rk4 hTH rx0).2.2.2 xP xL
    have hZ2 := tie_image1 hTH hW1.2.2.2 hZ g1 w1 fl hv g2 u1 hcp ho hk rx rk rfl rfl rfl rfl rfl rfl rfl rfl rfl rfl
    refine lv_pop hx hb dL_law_1614 rfl ?_
    refine lv_goto (tgt := 1677) hx hb dL_law_1615 (by decide) ?_
    refine W.more (c2 := cells + 8) (s2 := slots + 2810) (by omega) (by omega) ?_
    exact hend kp L f2 S ls H locs ⟨hdr, hW2, rx, rk, hT2, hZ2⟩ hl
  refine t_callV (As := [.int (ag xs i 1)]) (rest := []) ES hW (c_X11_image_un l G cI cJ cZ cD cR cT kp L f hW.2.2.2 _ x (ag xs i 1) rx (by omega)) rx (by decide) rfl wk_X11_image tw_1368 rfl ⟨Nat.le_of_ble_eq_true rfl, Nat.le_of_ble_eq_true rfl⟩ ⟨rfl, rfl⟩ hl.1 rfl (Nat.le_of_ble_eq_true rfl) dL_law_1601 ⟨by omega, by omega⟩ (fun v f1 H locs q hW1 => ?_)
  obtain ⟨⟨r1, rfl, p1⟩, g1, fl, w1⟩ := q
  have hT1 := txi_fm hTH hT g1 rk0 rfl rfl rfl rfl
  have hZ1 := tie_pa hTH hZ g1 (wu_nil w1) rx0 rk0 rfl fl.1 fl.2 rfl rfl rfl
  have hW := hW1
  refine lv_pop hx hb dL_law_1604 rfl ?_
  refine lv_aload_n hx hb dL_law_1605 rfl (lv_at hl 1 rfl) ?_
  refine law_arg (k := 1) hx hb hl hXS (by rw [hq]; exact hbl) hbA hW.2.2.1 hi rfl (by decide) dL_law_1606 dL_law_1607 dL_law_1608 dL_law_1609 dL_law_1610 ?_
  refine t_callV (As := [.int (ag xs i 1)]) (rest := []) ES hW1 (c_X12_image_x l G cI cJ cZ cD cR cT kp L f1 hW1.2.2.2 _ k (ag xs i 1) rk) rk (by decide) rfl wk_X12_image tw_1550 rfl ⟨Nat.le_of_ble_eq_true rfl, Nat.le_of_ble_eq_true rfl⟩ ⟨rfl, rfl⟩ hl.1 rfl (Nat.le_of_ble_eq_true rfl) dL_law_1611 ⟨by omega, by omega⟩ (fun v f2 H locs q hW2 => ?_)
  obtain ⟨⟨r2, rfl, p2⟩, g2, hY, z2⟩ := q
  have hT2 := txi_image hW1.2.2.2 hT1 g2 rk rfl rfl rfl (hY.imp id And.right)
  have hIm := (hY.resolve_left (fun h => absurd h.1 (by omega))).2
  have hK := (z2.resolve_left (fun h => absurd h.1 (by omega))).2
  have eIm : aI (f2 (oR (f2 k) 3)) = aI (f1 (oR (f1 k) 3)) := by rw [fm_R g2 rk rfl]; exact hIm
  have hZ2 := tie_gen hW1.2.2.2 hZ1 g2 rx rfl rfl rfl (by rw [row_fm hW1.2.2.2 rk g2 rfl]) (by rw [eIm]) (by rw [eIm]) (by rw [fm_R g2 rk rfl]; exact hK)
  refine lv_pop hx hb dL_law_1614 rfl ?_
  refine lv_goto (tgt := 1677) hx hb dL_law_1615 (by decide) ?_
  refine W.more (c2 := cells + 8) (s2 := slots + 2810) (by omega) (by omega) ?_
  exact hend kp L f2 S ls H locs ⟨hdr, hW2, rx, rk, hT2, hZ2⟩ hl
set_option maxHeartbeats 4000000 in
set_option maxRecDepth 100000 in
theorem law_case_44 (l : Launch) (G : va_G) (cI cJ cZ cD cR cT : ClassId) (σ : SE) (x k b Ls : Nat) (xs : Nat → Int32) (p : Program) (e : Env) (s : State) (m : MethodId) (below : List Frame) (meth : Method) (c : Code) (A : Nat → Prop) (Q : State → Prop) (i : Int32) (E : EV G cI cJ cZ cD cR cT A cL_law ret 4 RL p s m ([.ref b] : List Value).toArray meth c) (hSX : SX σ A s s.heap) (hCA : CA s) (hX : va_X b Ls xs s s.heap) (hbl : b < s.heap.size) (hbA : ¬ A b) (hi : 0 ≤ i.toInt ∧ i.toInt + 6 ≤ (Ls : Int) ∧ Ls ≤ 3072) (cells slots : Nat) (hc : cells + 8 ≤ room_1.cells) (hs : slots + 2810 ≤ room_1.slots) (kp : Nat → Nat) (L : List Nat) (f : Nat → va_E) (S : State) (ls : Array Slot) (H : Heap) (locs : List Loc) (hI : LWS G cI cJ cZ cD cR cT A kp L f x k s S H locs) (hl : lv_has ls 4 [(3, .int i), (2, .ref k), (1, .ref x), (0, .ref b)])
  (hend : ∀ (kp : Nat → Nat) (L : List Nat) (f : Nat → va_E) (S : State) (ls : Array Slot) (H : Heap) (locs : List Loc), LWS G cI cJ cZ cD cR cT A kp L f x k s S H locs → lv_has ls 4 [(3, .int i), (2, .ref k), (1, .ref x), (0, .ref b)] → W p l e room_1 S m ([.ref b] : List Value).toArray below meth c H locs (cells + 8) (slots + 2810) Q (F0 m 1677 ls [])) : W p l e room_1 S m ([.ref b] : List Value).toArray below meth c H locs cells slots Q (F0 m 1618 ls []) := by
  obtain ⟨hdr, hW, rx, rk, hT, hZ⟩ := hI
  have hq := hs_S hdr
  have ES := ev_S E hdr
  have hXS := xx_S hdr hX
  have hTH := hW.2.2.2
  obtain ⟨hx, hb, -, hml, hown, hts, -, -, -⟩ := id ES
  have rx0 := rx
  have rk0 := rk
  refine lv_aload_n hx hb dL_law_1618 rfl (lv_at hl 2 rfl) ?_
  refine law_arg (k := 1) hx hb hl hXS (by rw [hq]; exact hbl) hbA hW.2.2.1 hi rfl (by decide) dL_law_1619 dL_law_1620 dL_law_1621 dL_law_1622 dL_law_1623 ?_
  by_cases u0 : (ag xs i 1).toInt = 0
  · have eu : ag xs i 1 = 0 := Int32.toInt_inj.mp (u0.trans rfl)
    rw [eu]
    refine t_callV (As := [.int 0]) (rest := []) ES hW (c_X11_back_u0 l G cI cJ cZ cD cR cT kp L f hW.2.2.2 _ x  rx) rx (by decide) rfl wk_X11_back tw_1372 rfl ⟨Nat.le_of_ble_eq_true rfl, Nat.le_of_ble_eq_true rfl⟩ ⟨rfl, rfl⟩ hl.1 rfl (Nat.le_of_ble_eq_true rfl) dL_law_1624 ⟨by omega, by omega⟩ (fun v f1 H locs q hW1 => ?_)
    obtain ⟨⟨r1, rfl, p1⟩, g1, xP, xL, w1⟩ := q
    have hT1 := txi_fm hTH hT g1 rk0 rfl rfl rfl rfl
    have hW := hW1
    refine lv_pop hx hb dL_law_1627 rfl ?_
    refine lv_aload_n hx hb dL_law_1628 rfl (lv_at hl 1 rfl) ?_
    refine law_arg (k := 1) hx hb hl hXS (by rw [hq]; exact hbl) hbA hW.2.2.1 hi rfl (by decide) dL_law_1629 dL_law_1630 dL_law_1631 dL_law_1632 dL_law_1633 ?_
    refine t_callV (As := [.int (ag xs i 1)]) (rest := []) ES hW1 (c_X12_back_x l G cI cJ cZ cD cR cT kp L f1 hW1.2.2.2 _ k (ag xs i 1) rk) rk (by decide) rfl wk_X12_back tw_1561 rfl ⟨Nat.le_of_ble_eq_true rfl, Nat.le_of_ble_eq_true rfl⟩ ⟨rfl, rfl⟩ hl.1 rfl (Nat.le_of_ble_eq_true rfl) dL_law_1634 ⟨by omega, by omega⟩ (fun v f2 H locs q hW2 => ?_)
    obtain ⟨⟨r2, rfl, p2⟩, g2, hY, -⟩ := q
    have hT2 := txi_back hW1.2.2.2 hT1 g2 rk rfl rfl rfl (hY.imp (fun h => ⟨h.1, h.2.2⟩) And.right)
    have hR1 := re_fm g1 rx0 (rfl : NO KR _ = true)
    have hv : ((oI (f x) 4).toInt = 0 ∧ V8 f1 (oR (f x) 0) = V8 f (oR (f x) 0)) ∨ (¬ (oI (f x) 4).toInt = 0 ∧ V8 f1 (oR (f x) 0) = V8 f (oR (f x) 2)) := by
      by_cases hf : (oI (f x) 4).toInt = 0
      · exact Or.inl ⟨hf, v8_eq hR1 (rk4 hTH rx0).1 (xP.elim (fun h => h.2) (fun h => absurd hf h.1)) (xL.elim (fun h => h.2) (fun h => absurd hf h.1))⟩
      · exact Or.inr ⟨hf, v8_eq hR1 (rk4 hTH rx0).1 (xP.elim (fun h => absurd h.1 hf) (fun h => h.2)) (xL.elim (fun h => absurd h.1 hf) (fun h => h.2))⟩
    have hZ2 := tie_back0 hTH hW1.2.2.2 hZ g1 w1 hv g2 u0 hY rx rk rfl rfl rfl rfl rfl rfl rfl rfl rfl rfl rfl
    refine lv_pop hx hb dL_law_1637 rfl ?_
    refine lv_goto (tgt := 1677) hx hb dL_law_1638 (by decide) ?_
    refine W.more (c2 := cells + 8) (s2 := slots + 2810) (by omega) (by omega) ?_
    exact hend kp L f2 S ls H locs ⟨hdr, hW2, rx, rk, hT2, hZ2⟩ hl
  by_cases u1 : (ag xs i 1).toInt = 1
  · have eu : ag xs i 1 = 1 := Int32.toInt_inj.mp (u1.trans rfl)
    rw [eu]
    refine t_callV (As := [.int 1]) (rest := []) ES hW (c_X11_back_u1 l G cI cJ cZ cD cR cT kp L f hW.2.2.2 _ x  rx) rx (by decide) rfl wk_X11_back tw_1372 rfl ⟨Nat.le_of_ble_eq_true rfl, Nat.le_of_ble_eq_true rfl⟩ ⟨rfl, rfl⟩ hl.1 rfl (Nat.le_of_ble_eq_true rfl) dL_law_1624 ⟨by omega, by omega⟩ (fun v f1 H locs q hW1 => ?_)
    obtain ⟨⟨r1, rfl, p1⟩, g1, xP, xL, w1⟩ := q
    have hT1 := txi_fm hTH hT g1 rk0 rfl rfl rfl rfl
    have hW := hW1
    refine lv_pop hx hb dL_law_1627 rfl ?_
    refine lv_aload_n hx hb dL_law_1628 rfl (lv_at hl 1 rfl) ?_
    refine law_arg (k := 1) hx hb hl hXS (by rw [hq]; exact hbl) hbA hW.2.2.1 hi rfl (by decide) dL_law_1629 dL_law_1630 dL_law_1631 dL_law_1632 dL_law_1633 ?_
    refine t_callV (As := [.int (ag xs i 1)]) (rest := []) ES hW1 (c_X12_back_x l G cI cJ cZ cD cR cT kp L f1 hW1.2.2.2 _ k (ag xs i 1) rk) rk (by decide) rfl wk_X12_back tw_1561 rfl ⟨Nat.le_of_ble_eq_true rfl, Nat.le_of_ble_eq_true rfl⟩ ⟨rfl, rfl⟩ hl.1 rfl (Nat.le_of_ble_eq_true rfl) dL_law_1634 ⟨by omega, by omega⟩ (fun v f2 H locs q hW2 => ?_)
    obtain ⟨⟨r2, rfl, p2⟩, g2, hY, -⟩ := q
    have hT2 := txi_back hW1.2.2.2 hT1 g2 rk rfl rfl rfl (hY.imp (fun h => ⟨h.1, h.2.2⟩) And.right)
    have hR1 := re_fm g1 rx0 (rfl : NO KR _ = true)
    have hv : ((oI (f x) 5).toInt = 0 ∧ V8 f1 (oR (f x) 0) = V8 f (oR (f x) 0)) ∨ (¬ (oI (f x) 5).toInt = 0 ∧ V8 f1 (oR (f x) 0) = V8 f (oR (f x) 3)) := by
      by_cases hf : (oI (f x) 5).toInt = 0
      · exact Or.inl ⟨hf, v8_eq hR1 (rk4 hTH rx0).1 (xP.elim (fun h => h.2) (fun h => absurd hf h.1)) (xL.elim (fun h => h.2) (fun h => absurd hf h.1))⟩
      · exact Or.inr ⟨hf, v8_eq hR1 (rk4 hTH rx0).1 (xP.elim (fun h => absurd h.1 hf) (fun h => h.2)) (xL.elim (fun h => absurd h.1 hf) (fun h => h.2))⟩
    have hZ2 := tie_back1 hTH hW1.2.2.2 hZ g1 w1 hv g2 u1 hY rx rk rfl rfl rfl rfl rfl rfl rfl rfl rfl rfl rfl
    refine lv_pop hx hb dL_law_1637 rfl ?_
    refine lv_goto (tgt := 1677) hx hb dL_law_1638 (by decide) ?_
    refine W.more (c2 := cells + 8) (s2 := slots + 2810) (by omega) (by omega) ?_
    exact hend kp L f2 S ls H locs ⟨hdr, hW2, rx, rk, hT2, hZ2⟩ hl
  refine t_callV (As := [.int (ag xs i 1)]) (rest := []) ES hW (c_X11_back_un l G cI cJ cZ cD cR cT kp L f hW.2.2.2 _ x (ag xs i 1) rx (by omega)) rx (by decide) rfl wk_X11_back tw_1372 rfl ⟨Nat.le_of_ble_eq_true rfl, Nat.le_of_ble_eq_true rfl⟩ ⟨rfl, rfl⟩ hl.1 rfl (Nat.le_of_ble_eq_true rfl) dL_law_1624 ⟨by omega, by omega⟩ (fun v f1 H locs q hW1 => ?_)
  obtain ⟨⟨r1, rfl, p1⟩, g1, fl, w1⟩ := q
  have hT1 := txi_fm hTH hT g1 rk0 rfl rfl rfl rfl
  have hZ1 := tie_pa hTH hZ g1 (wu_nil w1) rx0 rk0 rfl fl.1 fl.2 rfl rfl rfl
  have hW := hW1
  refine lv_pop hx hb dL_law_1627 rfl ?_
  refine lv_aload_n hx hb dL_law_1628 rfl (lv_at hl 1 rfl) ?_
  refine law_arg (k := 1) hx hb hl hXS (by rw [hq]; exact hbl) hbA hW.2.2.1 hi rfl (by decide) dL_law_1629 dL_law_1630 dL_law_1631 dL_law_1632 dL_law_1633 ?_
  refine t_callV (As := [.int (ag xs i 1)]) (rest := []) ES hW1 (c_X12_back_x l G cI cJ cZ cD cR cT kp L f1 hW1.2.2.2 _ k (ag xs i 1) rk) rk (by decide) rfl wk_X12_back tw_1561 rfl ⟨Nat.le_of_ble_eq_true rfl, Nat.le_of_ble_eq_true rfl⟩ ⟨rfl, rfl⟩ hl.1 rfl (Nat.le_of_ble_eq_true rfl) dL_law_1634 ⟨by omega, by omega⟩ (fun v f2 H locs q hW2 => ?_)
  obtain ⟨⟨r2, rfl, p2⟩, g2, hY, -⟩ := q
  have hT2 := txi_back hW1.2.2.2 hT1 g2 rk rfl rfl rfl (hY.imp (fun h => ⟨h.1, h.2.2⟩) And.right)
  have hRow := (hY.resolve_left (fun h => absurd h.1 (by omega))).2
  have eRow : aI (f2 (oR (f2 k) 2)) = aI (f1 (oR (f1 k) 2)) := by rw [fm_R g2 rk rfl]; exact hRow
  have hZ2 := tie_gen hW1.2.2.2 hZ1 g2 rx rfl rfl rfl (by rw [eRow]) (by rw [im_fm hW1.2.2.2 rk g2 rfl]) (by rw [im_fm hW1.2.2.2 rk g2 rfl]) (kept_fm hW1.2.2.2 rk g2 rfl)
  refine lv_pop hx hb dL_law_1637 rfl ?_
  refine lv_goto (tgt := 1677) hx hb dL_law_1638 (by decide) ?_
  refine W.more (c2 := cells + 8) (s2 := slots + 2810) (by omega) (by omega) ?_
  exact hend kp L f2 S ls H locs ⟨hdr, hW2, rx, rk, hT2, hZ2⟩ hl
set_option maxHeartbeats 4000000 in
set_option maxRecDepth 100000 in
theorem law_case_45 (l : Launch) (G : va_G) (cI cJ cZ cD cR cT : ClassId) (σ : SE) (x k b Ls : Nat) (xs : Nat → Int32) (p : Program) (e : Env) (s : State) (m : MethodId) (below : List Frame) (meth : Method) (c : Code) (A : Nat → Prop) (Q : State → Prop) (i : Int32) (E : EV G cI cJ cZ cD cR cT A cL_law ret 4 RL p s m ([.ref b] : List Value).toArray meth c) (hSX : SX σ A s s.heap) (hCA : CA s) (hX : va_X b Ls xs s s.heap) (hbl : b < s.heap.size) (hbA : ¬ A b) (hi : 0 ≤ i.toInt ∧ i.toInt + 6 ≤ (Ls : Int) ∧ Ls ≤ 3072) (cells slots : Nat) (hc : cells + 8 ≤ room_1.cells) (hs : slots + 2810 ≤ room_1.slots) (kp : Nat → Nat) (L : List Nat) (f : Nat → va_E) (S : State) (ls : Array Slot) (H : Heap) (locs : List Loc) (hI : LWS G cI cJ cZ cD cR cT A kp L f x k s S H locs) (hl : lv_has ls 4 [(3, .int i), (2, .ref k), (1, .ref x), (0, .ref b)])
  (hend : ∀ (kp : Nat → Nat) (L : List Nat) (f : Nat → va_E) (S : State) (ls : Array Slot) (H : Heap) (locs : List Loc), LWS G cI cJ cZ cD cR cT A kp L f x k s S H locs → lv_has ls 4 [(3, .int i), (2, .ref k), (1, .ref x), (0, .ref b)] → W p l e room_1 S m ([.ref b] : List Value).toArray below meth c H locs (cells + 8) (slots + 2810) Q (F0 m 1677 ls [])) : W p l e room_1 S m ([.ref b] : List Value).toArray below meth c H locs cells slots Q (F0 m 1641 ls []) := by
  obtain ⟨hdr, hW, rx, rk, hT, hZ⟩ := hI
  have hq := hs_S hdr
  have ES := ev_S E hdr
  have hXS := xx_S hdr hX
  have hTH := hW.2.2.2
  obtain ⟨hx, hb, -, hml, hown, hts, -, -, -⟩ := id ES
  have rx0 := rx
  have rk0 := rk
  refine lv_aload_n hx hb dL_law_1641 rfl (lv_at hl 2 rfl) ?_
  refine law_arg (k := 1) hx hb hl hXS (by rw [hq]; exact hbl) hbA hW.2.2.1 hi rfl (by decide) dL_law_1642 dL_law_1643 dL_law_1644 dL_law_1645 dL_law_1646 ?_
  refine t_callV (As := [.int (ag xs i 1)]) (rest := []) ES hW (c_X11_count l G cI cJ cZ cD cR cT kp L f hW.2.2.2 _ x (ag xs i 1) rx) rx (by decide) rfl wk_X11_count tw_1376 rfl ⟨Nat.le_of_ble_eq_true rfl, Nat.le_of_ble_eq_true rfl⟩ ⟨rfl, rfl⟩ hl.1 rfl (Nat.le_of_ble_eq_true rfl) dL_law_1647 ⟨by omega, by omega⟩ (fun v f1 H locs q hW1 => ?_)
  obtain ⟨⟨r1, rfl, p1⟩, g1⟩ := q
  have hT1 := txi_fm hTH hT g1 rk0 rfl rfl rfl rfl
  have hZ1 := tie_fm hTH hZ g1 rx0 rk0 rfl rfl rfl rfl rfl rfl
  have hW := hW1
  refine lv_pop hx hb dL_law_1650 rfl ?_
  refine lv_aload_n hx hb dL_law_1651 rfl (lv_at hl 1 rfl) ?_
  refine law_arg (k := 1) hx hb hl hXS (by rw [hq]; exact hbl) hbA hW.2.2.1 hi rfl (by decide) dL_law_1652 dL_law_1653 dL_law_1654 dL_law_1655 dL_law_1656 ?_
  refine t_callV (As := [.int (ag xs i 1)]) (rest := []) ES hW1 (c_X12_count l G cI cJ cZ cD cR cT kp L f1 hW1.2.2.2 _ k (ag xs i 1) rk) rk (by decide) rfl wk_X12_count tw_2085 rfl ⟨Nat.le_of_ble_eq_true rfl, Nat.le_of_ble_eq_true rfl⟩ ⟨rfl, rfl⟩ hl.1 rfl (Nat.le_of_ble_eq_true rfl) dL_law_1657 ⟨by omega, by omega⟩ (fun v f2 H locs q hW2 => ?_)
  obtain ⟨⟨r2, rfl, p2⟩, g2⟩ := q
  have hT2 := txi_fm hW1.2.2.2 hT1 g2 rk rfl rfl rfl rfl
  have hZ2 := tie_fm hW1.2.2.2 hZ1 g2 rx rk rfl rfl rfl rfl rfl rfl
  refine lv_pop hx hb dL_law_1660 rfl ?_
  refine lv_goto (tgt := 1677) hx hb dL_law_1661 (by decide) ?_
  refine W.more (c2 := cells + 8) (s2 := slots + 2810) (by omega) (by omega) ?_
  exact hend kp L f2 S ls H locs ⟨hdr, hW2, rx, rk, hT2, hZ2⟩ hl
set_option maxHeartbeats 4000000 in
set_option maxRecDepth 100000 in
theorem law_case_46 (l : Launch) (G : va_G) (cI cJ cZ cD cR cT : ClassId) (σ : SE) (x k b Ls : Nat) (xs : Nat → Int32) (p : Program) (e : Env) (s : State) (m : MethodId) (below : List Frame) (meth : Method) (c : Code) (A : Nat → Prop) (Q : State → Prop) (i : Int32) (E : EV G cI cJ cZ cD cR cT A cL_law ret 4 RL p s m ([.ref b] : List Value).toArray meth c) (hSX : SX σ A s s.heap) (hCA : CA s) (hX : va_X b Ls xs s s.heap) (hbl : b < s.heap.size) (hbA : ¬ A b) (hi : 0 ≤ i.toInt ∧ i.toInt + 6 ≤ (Ls : Int) ∧ Ls ≤ 3072) (cells slots : Nat) (hc : cells + 8 ≤ room_1.cells) (hs : slots + 2810 ≤ room_1.slots) (kp : Nat → Nat) (L : List Nat) (f : Nat → va_E) (S : State) (ls : Array Slot) (H : Heap) (locs : List Loc) (hI : LWS G cI cJ cZ cD cR cT A kp L f x k s S H locs) (hl : lv_has ls 4 [(3, .int i), (2, .ref k), (1, .ref x), (0, .ref b)])
  (hend : ∀ (kp : Nat → Nat) (L : List Nat) (f : Nat → va_E) (S : State) (ls : Array Slot) (H : Heap) (locs : List Loc), LWS G cI cJ cZ cD cR cT A kp L f x k s S H locs → lv_has ls 4 [(3, .int i), (2, .ref k), (1, .ref x), (0, .ref b)] → W p l e room_1 S m ([.ref b] : List Value).toArray below meth c H locs (cells + 8) (slots + 2810) Q (F0 m 1677 ls [])) : W p l e room_1 S m ([.ref b] : List Value).toArray below meth c H locs cells slots Q (F0 m 1664 ls []) := by
  obtain ⟨hdr, hW, rx, rk, hT, hZ⟩ := hI
  have hq := hs_S hdr
  have ES := ev_S E hdr
  have hXS := xx_S hdr hX
  have hTH := hW.2.2.2
  obtain ⟨hx, hb, -, hml, hown, hts, -, -, -⟩ := id ES
  have rx0 := rx
  have rk0 := rk
  refine lv_aload_n hx hb dL_law_1664 rfl (lv_at hl 2 rfl) ?_
  refine t_callV (As := []) (rest := []) ES hW (c_X11_status l G cI cJ cZ cD cR cT kp L f hW.2.2.2 _ x  rx) rx (by decide) rfl wk_X11_status tw_1380 rfl ⟨Nat.le_of_ble_eq_true rfl, Nat.le_of_ble_eq_true rfl⟩ ⟨rfl, rfl⟩ hl.1 rfl (Nat.le_of_ble_eq_true rfl) dL_law_1665 ⟨by omega, by omega⟩ (fun v f1 H locs q hW1 => ?_)
  obtain ⟨⟨r1, rfl, p1⟩, g1⟩ := q
  have hT1 := txi_fm hTH hT g1 rk0 rfl rfl rfl rfl
  have hZ1 := tie_fm hTH hZ g1 rx0 rk0 rfl rfl rfl rfl rfl rfl
  have hW := hW1
  refine lv_pop hx hb dL_law_1668 rfl ?_
  refine lv_aload_n hx hb dL_law_1669 rfl (lv_at hl 1 rfl) ?_
  refine t_callV (As := []) (rest := []) ES hW1 (c_X12_status l G cI cJ cZ cD cR cT kp L f1 hW1.2.2.2 _ k  rk) rk (by decide) rfl wk_X12_status tw_2089 rfl ⟨Nat.le_of_ble_eq_true rfl, Nat.le_of_ble_eq_true rfl⟩ ⟨rfl, rfl⟩ hl.1 rfl (Nat.le_of_ble_eq_true rfl) dL_law_1670 ⟨by omega, by omega⟩ (fun v f2 H locs q hW2 => ?_)
  obtain ⟨⟨r2, rfl, p2⟩, g2⟩ := q
  have hT2 := txi_fm hW1.2.2.2 hT1 g2 rk rfl rfl rfl rfl
  have hZ2 := tie_fm hW1.2.2.2 hZ1 g2 rx rk rfl rfl rfl rfl rfl rfl
  refine lv_pop hx hb dL_law_1673 rfl ?_
  refine lv_goto (tgt := 1677) hx hb dL_law_1674 (by decide) ?_
  refine W.more (c2 := cells + 8) (s2 := slots + 2810) (by omega) (by omega) ?_
  exact hend kp L f2 S ls H locs ⟨hdr, hW2, rx, rk, hT2, hZ2⟩ hl
