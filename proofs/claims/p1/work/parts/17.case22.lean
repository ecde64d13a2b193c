theorem dL_law_1462 : decode cL_law 1462 = .ok (.aload_n 1, 1) := by decide +kernel
theorem dL_law_1463 : decode cL_law 1463 = .ok (.aload_n 0, 1) := by decide +kernel
theorem dL_law_1464 : decode cL_law 1464 = .ok (.iload 4, 2) := by decide +kernel
theorem dL_law_1466 : decode cL_law 1466 = .ok (.iconst 1, 1) := by decide +kernel
theorem dL_law_1467 : decode cL_law 1467 = .ok (.iadd, 1) := by decide +kernel
theorem dL_law_1468 : decode cL_law 1468 = .ok (.iaload, 1) := by decide +kernel
theorem dL_law_1469 : decode cL_law 1469 = .ok (.aload_n 0, 1) := by decide +kernel
theorem dL_law_1470 : decode cL_law 1470 = .ok (.iload 4, 2) := by decide +kernel
theorem dL_law_1472 : decode cL_law 1472 = .ok (.iconst 2, 1) := by decide +kernel
theorem dL_law_1473 : decode cL_law 1473 = .ok (.iadd, 1) := by decide +kernel
theorem dL_law_1474 : decode cL_law 1474 = .ok (.iaload, 1) := by decide +kernel
theorem dL_law_1475 : decode cL_law 1475 = .ok (.aload_n 0, 1) := by decide +kernel
theorem dL_law_1476 : decode cL_law 1476 = .ok (.iload 4, 2) := by decide +kernel
theorem dL_law_1478 : decode cL_law 1478 = .ok (.iconst 3, 1) := by decide +kernel
theorem dL_law_1479 : decode cL_law 1479 = .ok (.iadd, 1) := by decide +kernel
theorem dL_law_1480 : decode cL_law 1480 = .ok (.iaload, 1) := by decide +kernel
theorem dL_law_1481 : decode cL_law 1481 = .ok (.aload_n 0, 1) := by decide +kernel
theorem dL_law_1482 : decode cL_law 1482 = .ok (.iload 4, 2) := by decide +kernel
theorem dL_law_1484 : decode cL_law 1484 = .ok (.iconst 4, 1) := by decide +kernel
theorem dL_law_1485 : decode cL_law 1485 = .ok (.iadd, 1) := by decide +kernel
theorem dL_law_1486 : decode cL_law 1486 = .ok (.iaload, 1) := by decide +kernel
theorem dL_law_1487 : decode cL_law 1487 = .ok (.i2l, 1) := by decide +kernel
theorem dL_law_1488 : decode cL_law 1488 = .ok (.bipush 32, 2) := by decide +kernel
theorem dL_law_1490 : decode cL_law 1490 = .ok (.lshl, 1) := by decide +kernel
theorem dL_law_1491 : decode cL_law 1491 = .ok (.aload_n 0, 1) := by decide +kernel
theorem dL_law_1492 : decode cL_law 1492 = .ok (.iload 4, 2) := by decide +kernel
theorem dL_law_1494 : decode cL_law 1494 = .ok (.iconst 5, 1) := by decide +kernel
theorem dL_law_1495 : decode cL_law 1495 = .ok (.iadd, 1) := by decide +kernel
theorem dL_law_1496 : decode cL_law 1496 = .ok (.iaload, 1) := by decide +kernel
theorem dL_law_1497 : decode cL_law 1497 = .ok (.i2l, 1) := by decide +kernel
theorem dL_law_1498 : decode cL_law 1498 = .ok (.ldc2_w 148, 3) := by decide +kernel
theorem dL_law_1501 : decode cL_law 1501 = .ok (.land, 1) := by decide +kernel
theorem dL_law_1502 : decode cL_law 1502 = .ok (.lor, 1) := by decide +kernel
theorem dL_law_1503 : decode cL_law 1503 = .ok (.aload_n 0, 1) := by decide +kernel
theorem dL_law_1504 : decode cL_law 1504 = .ok (.iload 4, 2) := by decide +kernel
theorem dL_law_1506 : decode cL_law 1506 = .ok (.bipush 6, 2) := by decide +kernel
theorem dL_law_1508 : decode cL_law 1508 = .ok (.iadd, 1) := by decide +kernel
theorem dL_law_1509 : decode cL_law 1509 = .ok (.iaload, 1) := by decide +kernel
theorem dL_law_1510 : decode cL_law 1510 = .ok (.i2l, 1) := by decide +kernel
theorem dL_law_1511 : decode cL_law 1511 = .ok (.bipush 32, 2) := by decide +kernel
theorem dL_law_1513 : decode cL_law 1513 = .ok (.lshl, 1) := by decide +kernel
theorem dL_law_1514 : decode cL_law 1514 = .ok (.aload_n 0, 1) := by decide +kernel
theorem dL_law_1515 : decode cL_law 1515 = .ok (.iload 4, 2) := by decide +kernel
theorem dL_law_1517 : decode cL_law 1517 = .ok (.bipush 7, 2) := by decide +kernel
theorem dL_law_1519 : decode cL_law 1519 = .ok (.iadd, 1) := by decide +kernel
theorem dL_law_1520 : decode cL_law 1520 = .ok (.iaload, 1) := by decide +kernel
theorem dL_law_1521 : decode cL_law 1521 = .ok (.i2l, 1) := by decide +kernel
theorem dL_law_1522 : decode cL_law 1522 = .ok (.ldc2_w 148, 3) := by decide +kernel
theorem dL_law_1525 : decode cL_law 1525 = .ok (.land, 1) := by decide +kernel
theorem dL_law_1526 : decode cL_law 1526 = .ok (.lor, 1) := by decide +kernel
theorem dL_law_1527 : decode cL_law 1527 = .ok (.aload_n 3, 1) := by decide +kernel
theorem dL_law_1528 : decode cL_law 1528 = .ok (.invokestatic 183, 3) := by decide +kernel
theorem dL_law_1531 : decode cL_law 1531 = .ok (.istore 5, 2) := by decide +kernel
theorem dL_law_1533 : decode cL_law 1533 = .ok (.aload_n 2, 1) := by decide +kernel
theorem dL_law_1534 : decode cL_law 1534 = .ok (.aload_n 0, 1) := by decide +kernel
theorem dL_law_1535 : decode cL_law 1535 = .ok (.iload 4, 2) := by decide +kernel
theorem dL_law_1537 : decode cL_law 1537 = .ok (.iconst 1, 1) := by decide +kernel
theorem dL_law_1538 : decode cL_law 1538 = .ok (.iadd, 1) := by decide +kernel
theorem dL_law_1539 : decode cL_law 1539 = .ok (.iaload, 1) := by decide +kernel
theorem dL_law_1540 : decode cL_law 1540 = .ok (.aload_n 0, 1) := by decide +kernel
theorem dL_law_1541 : decode cL_law 1541 = .ok (.iload 4, 2) := by decide +kernel
theorem dL_law_1543 : decode cL_law 1543 = .ok (.iconst 2, 1) := by decide +kernel
theorem dL_law_1544 : decode cL_law 1544 = .ok (.iadd, 1) := by decide +kernel
theorem dL_law_1545 : decode cL_law 1545 = .ok (.iaload, 1) := by decide +kernel
theorem dL_law_1546 : decode cL_law 1546 = .ok (.aload_n 0, 1) := by decide +kernel
theorem dL_law_1547 : decode cL_law 1547 = .ok (.iload 4, 2) := by decide +kernel
theorem dL_law_1549 : decode cL_law 1549 = .ok (.iconst 3, 1) := by decide +kernel
theorem dL_law_1550 : decode cL_law 1550 = .ok (.iadd, 1) := by decide +kernel
theorem dL_law_1551 : decode cL_law 1551 = .ok (.iaload, 1) := by decide +kernel
theorem dL_law_1552 : decode cL_law 1552 = .ok (.aload_n 0, 1) := by decide +kernel
theorem dL_law_1553 : decode cL_law 1553 = .ok (.iload 4, 2) := by decide +kernel
theorem dL_law_1555 : decode cL_law 1555 = .ok (.iconst 4, 1) := by decide +kernel
theorem dL_law_1556 : decode cL_law 1556 = .ok (.iadd, 1) := by decide +kernel
theorem dL_law_1557 : decode cL_law 1557 = .ok (.iaload, 1) := by decide +kernel
theorem dL_law_1558 : decode cL_law 1558 = .ok (.i2l, 1) := by decide +kernel
theorem dL_law_1559 : decode cL_law 1559 = .ok (.bipush 32, 2) := by decide +kernel
theorem dL_law_1561 : decode cL_law 1561 = .ok (.lshl, 1) := by decide +kernel
theorem dL_law_1562 : decode cL_law 1562 = .ok (.aload_n 0, 1) := by decide +kernel
theorem dL_law_1563 : decode cL_law 1563 = .ok (.iload 4, 2) := by decide +kernel
theorem dL_law_1565 : decode cL_law 1565 = .ok (.iconst 5, 1) := by decide +kernel
theorem dL_law_1566 : decode cL_law 1566 = .ok (.iadd, 1) := by decide +kernel
theorem dL_law_1567 : decode cL_law 1567 = .ok (.iaload, 1) := by decide +kernel
theorem dL_law_1568 : decode cL_law 1568 = .ok (.i2l, 1) := by decide +kernel
theorem dL_law_1569 : decode cL_law 1569 = .ok (.ldc2_w 148, 3) := by decide +kernel
theorem dL_law_1572 : decode cL_law 1572 = .ok (.land, 1) := by decide +kernel
theorem dL_law_1573 : decode cL_law 1573 = .ok (.lor, 1) := by decide +kernel
theorem dL_law_1574 : decode cL_law 1574 = .ok (.aload_n 0, 1) := by decide +kernel
theorem dL_law_1575 : decode cL_law 1575 = .ok (.iload 4, 2) := by decide +kernel
theorem dL_law_1577 : decode cL_law 1577 = .ok (.bipush 6, 2) := by decide +kernel
theorem dL_law_1579 : decode cL_law 1579 = .ok (.iadd, 1) := by decide +kernel
theorem dL_law_1580 : decode cL_law 1580 = .ok (.iaload, 1) := by decide +kernel
theorem dL_law_1581 : decode cL_law 1581 = .ok (.i2l, 1) := by decide +kernel
theorem dL_law_1582 : decode cL_law 1582 = .ok (.bipush 32, 2) := by decide +kernel
theorem dL_law_1584 : decode cL_law 1584 = .ok (.lshl, 1) := by decide +kernel
theorem dL_law_1585 : decode cL_law 1585 = .ok (.aload_n 0, 1) := by decide +kernel
theorem dL_law_1586 : decode cL_law 1586 = .ok (.iload 4, 2) := by decide +kernel
theorem dL_law_1588 : decode cL_law 1588 = .ok (.bipush 7, 2) := by decide +kernel
theorem dL_law_1590 : decode cL_law 1590 = .ok (.iadd, 1) := by decide +kernel
theorem dL_law_1591 : decode cL_law 1591 = .ok (.iaload, 1) := by decide +kernel
theorem dL_law_1592 : decode cL_law 1592 = .ok (.i2l, 1) := by decide +kernel
theorem dL_law_1593 : decode cL_law 1593 = .ok (.ldc2_w 148, 3) := by decide +kernel
theorem dL_law_1596 : decode cL_law 1596 = .ok (.land, 1) := by decide +kernel
theorem dL_law_1597 : decode cL_law 1597 = .ok (.lor, 1) := by decide +kernel
theorem dL_law_1598 : decode cL_law 1598 = .ok (.invokevirtual 186, 3) := by decide +kernel
theorem dL_law_1601 : decode cL_law 1601 = .ok (.lstore 6, 2) := by decide +kernel
theorem dL_law_1603 : decode cL_law 1603 = .ok (.aload_n 2, 1) := by decide +kernel
theorem dL_law_1604 : decode cL_law 1604 = .ok (.invokevirtual 116, 3) := by decide +kernel
theorem dL_law_1607 : decode cL_law 1607 = .ok (.iload 5, 2) := by decide +kernel
theorem dL_law_1609 : decode cL_law 1609 = .ok (.if_icmp .eq 5, 3) := by decide +kernel
theorem dL_law_1614 : decode cL_law 1614 = .ok (.iload 5, 2) := by decide +kernel
theorem dL_law_1616 : decode cL_law 1616 = .ok (.ifCond .ne 14, 3) := by decide +kernel
theorem dL_law_1619 : decode cL_law 1619 = .ok (.aload_n 3, 1) := by decide +kernel
theorem dL_law_1620 : decode cL_law 1620 = .ok (.iconst 0, 1) := by decide +kernel
theorem dL_law_1621 : decode cL_law 1621 = .ok (.laload, 1) := by decide +kernel
theorem dL_law_1622 : decode cL_law 1622 = .ok (.lload 6, 2) := by decide +kernel
theorem dL_law_1624 : decode cL_law 1624 = .ok (.lcmp, 1) := by decide +kernel
theorem dL_law_1625 : decode cL_law 1625 = .ok (.ifCond .eq 5, 3) := by decide +kernel
theorem dL_law_1630 : decode cL_law 1630 = .ok (.goto 174, 3) := by decide +kernel
set_option maxHeartbeats 4000000 in
set_option maxRecDepth 100000 in
theorem lk_22_0 {p : Program} {l : Launch} {e : Env} {s : State} {m : MethodId} {below : List Frame} {meth : Method} {c : Code} {D : va_G} {kA : Nat → ClassId} {V : Nat → Nat} {b : Nat} {xs : Nat → Int32} {A : Nat → Prop} (hC : lw_C p l s m meth c b 8 xs D kA V A) (hA2 : ∀ q, A q → s.heap.size ≤ q) (h0 : Nat) (m0 : Nat) (o0 : Nat) (x0 : Nat) (x1 : Nat) (x2 : Nat) (x3 : Nat) (x4 : Nat) (x5 : Nat) (x6 : Nat) (x7 : Nat) (x8 : Nat) (y0 : List Value) (hq : ∀ k, k < 121 → k < y0.length) (hq9 : y0[9]? = some (.int 0)) (c_3 : (xs 2) < 0) {H : Heap} {locs : List Loc} {ls : Array Slot} (hl : lv_has ls 8 [(0, .ref b), (1, .ref h0), (2, .ref m0), (3, .ref o0), (4, .int 0)]) (hS : va_S A s.heap H locs) (hP : va_P D vwCl [(m0, .inr (11, y0)), (h0, .inr (10, [.ref x0, .int 0, .ref x1, .ref x2, .ref x3, .ref x4, .ref x5, .ref x6, .ref x7, .ref x8, .int 0, .int 3000])), (o0, .inl (kA 1, 1, .inr (.inl (fun _ => 0))))] H) (hD : va_D A [(m0, .inr (11, y0)), (h0, .inr (10, [.ref x0, .int 0, .ref x1, .ref x2, .ref x3, .ref x4, .ref x5, .ref x6, .ref x7, .ref x8, .int 0, .int 3000])), (o0, .inl (kA 1, 1, .inr (.inl (fun _ => 0))))]) : W p l e room_1 s m #[Value.ref b] below meth c H locs 515 172799 (lw_Z below #[Value.ref b] s) (F0 m 1531 ls [.int 1]) := by
  have ⟨hst, hx, hb, hr, hml, hown, hts, hG, hX, hbl, hbA, hlocks, hE, hK, hA⟩ := hC
  refine lv_istore (lv' := [(5, .int 1), (0, .ref b), (1, .ref h0), (2, .ref m0), (3, .ref o0), (4, .int 0)]) hx hb dL_law_1531 hl (by decide) rfl (fun ls hl => ?_)
  refine lv_aload_n hx hb dL_law_1533 rfl (lv_at hl 3 rfl) ?_
  refine lv_aload_n hx hb dL_law_1534 rfl (lv_at hl 1 rfl) ?_
  refine lv_iload hx hb dL_law_1535 (lv_at hl 5 rfl) ?_
  refine lv_iconst (v := 1) hx hb dL_law_1537 (by decide) ?_
  refine lv_iadd hx hb dL_law_1538 ?_
  refine W.eq (g2 := F0 m 1539 ls [.int 1, .ref b, .ref m0]) rfl ?_
  refine va_sld hx hb hX hbl hbA hS (show vp_in 1 8 by unfold vp_in; decide) dL_law_1539 ?_
  refine W.eq (g2 := F0 m 1540 ls [.int (xs 1), .ref m0]) rfl ?_
  refine lv_aload_n hx hb dL_law_1540 rfl (lv_at hl 1 rfl) ?_
  refine lv_iload hx hb dL_law_1541 (lv_at hl 5 rfl) ?_
  refine lv_iconst (v := 2) hx hb dL_law_1543 (by decide) ?_
  refine lv_iadd hx hb dL_law_1544 ?_
  refine W.eq (g2 := F0 m 1545 ls [.int 2, .ref b, .int (xs 1), .ref m0]) rfl ?_
  refine va_sld hx hb hX hbl hbA hS (show vp_in 2 8 by unfold vp_in; decide) dL_law_1545 ?_
  refine W.eq (g2 := F0 m 1546 ls [.int (xs 2), .int (xs 1), .ref m0]) rfl ?_
  refine lv_aload_n hx hb dL_law_1546 rfl (lv_at hl 1 rfl) ?_
  refine lv_iload hx hb dL_law_1547 (lv_at hl 5 rfl) ?_
  refine lv_iconst (v := 3) hx hb dL_law_1549 (by decide) ?_
  refine lv_iadd hx hb dL_law_1550 ?_
  refine W.eq (g2 := F0 m 1551 ls [.int 3, .ref b, .int (xs 2), .int (xs 1), .ref m0]) rfl ?_
  refine va_sld hx hb hX hbl hbA hS (show vp_in 3 8 by unfold vp_in; decide) dL_law_1551 ?_
  refine W.eq (g2 := F0 m 1552 ls [.int (xs 3), .int (xs 2), .int (xs 1), .ref m0]) rfl ?_
  refine lv_aload_n hx hb dL_law_1552 rfl (lv_at hl 1 rfl) ?_
  refine lv_iload hx hb dL_law_1553 (lv_at hl 5 rfl) ?_
  refine lv_iconst (v := 4) hx hb dL_law_1555 (by decide) ?_
  refine lv_iadd hx hb dL_law_1556 ?_
  refine W.eq (g2 := F0 m 1557 ls [.int 4, .ref b, .int (xs 3), .int (xs 2), .int (xs 1), .ref m0]) rfl ?_
  refine va_sld hx hb hX hbl hbA hS (show vp_in 4 8 by unfold vp_in; decide) dL_law_1557 ?_
  refine W.eq (g2 := F0 m 1558 ls [.int (xs 4), .int (xs 3), .int (xs 2), .int (xs 1), .ref m0]) rfl ?_
  refine lv_i2l (v := (xs 4).toInt64) hx hb dL_law_1558 rfl ?_
  refine lv_bipush (v := 32) hx hb dL_law_1559 (by decide) ?_
  refine lv_lshl (v := ((xs 4).toInt64) <<< ((32 : Int32).toInt64 &&& 63)) hx hb dL_law_1561 rfl ?_
  refine lv_aload_n hx hb dL_law_1562 rfl (lv_at hl 1 rfl) ?_
  refine lv_iload hx hb dL_law_1563 (lv_at hl 5 rfl) ?_
  refine lv_iconst (v := 5) hx hb dL_law_1565 (by decide) ?_
  refine lv_iadd hx hb dL_law_1566 ?_
  refine W.eq (g2 := F0 m 1567 ls [.int 5, .ref b, .long (((xs 4).toInt64) <<< ((32 : Int32).toInt64 &&& 63)), .int (xs 3), .int (xs 2), .int (xs 1), .ref m0]) rfl ?_
  refine va_sld hx hb hX hbl hbA hS (show vp_in 5 8 by unfold vp_in; decide) dL_law_1567 ?_
  refine W.eq (g2 := F0 m 1568 ls [.int (xs 5), .long (((xs 4).toInt64) <<< ((32 : Int32).toInt64 &&& 63)), .int (xs 3), .int (xs 2), .int (xs 1), .ref m0]) rfl ?_
  refine lv_i2l (v := (xs 5).toInt64) hx hb dL_law_1568 rfl ?_
  refine lv_ldc2 (v := 4294967295) hx hb hown (hG _ gw_2764) dL_law_1569 ?_
  refine lv_land hx hb dL_law_1572 ?_
  refine lv_lor hx hb dL_law_1573 ?_
  refine lv_aload_n hx hb dL_law_1574 rfl (lv_at hl 1 rfl) ?_
  refine lv_iload hx hb dL_law_1575 (lv_at hl 5 rfl) ?_
  refine lv_bipush (v := 6) hx hb dL_law_1577 (by decide) ?_
  refine lv_iadd hx hb dL_law_1579 ?_
  refine W.eq (g2 := F0 m 1580 ls [.int 6, .ref b, .long ((((xs 4).toInt64) <<< ((32 : Int32).toInt64 &&& 63)) ||| (((xs 5).toInt64) &&& 4294967295)), .int (xs 3), .int (xs 2), .int (xs 1), .ref m0]) rfl ?_
  refine va_sld hx hb hX hbl hbA hS (show vp_in 6 8 by unfold vp_in; decide) dL_law_1580 ?_
  refine W.eq (g2 := F0 m 1581 ls [.int (xs 6), .long ((((xs 4).toInt64) <<< ((32 : Int32).toInt64 &&& 63)) ||| (((xs 5).toInt64) &&& 4294967295)), .int (xs 3), .int (xs 2), .int (xs 1), .ref m0]) rfl ?_
  refine lv_i2l (v := (xs 6).toInt64) hx hb dL_law_1581 rfl ?_
  refine lv_bipush (v := 32) hx hb dL_law_1582 (by decide) ?_
  refine lv_lshl (v := ((xs 6).toInt64) <<< ((32 : Int32).toInt64 &&& 63)) hx hb dL_law_1584 rfl ?_
  refine lv_aload_n hx hb dL_law_1585 rfl (lv_at hl 1 rfl) ?_
  refine lv_iload hx hb dL_law_1586 (lv_at hl 5 rfl) ?_
  refine lv_bipush (v := 7) hx hb dL_law_1588 (by decide) ?_
  refine lv_iadd hx hb dL_law_1590 ?_
  refine W.eq (g2 := F0 m 1591 ls [.int 7, .ref b, .long (((xs 6).toInt64) <<< ((32 : Int32).toInt64 &&& 63)), .long ((((xs 4).toInt64) <<< ((32 : Int32).toInt64 &&& 63)) ||| (((xs 5).toInt64) &&& 4294967295)), .int (xs 3), .int (xs 2), .int (xs 1), .ref m0]) rfl ?_
  refine va_sld hx hb hX hbl hbA hS (show vp_in 7 8 by unfold vp_in; decide) dL_law_1591 ?_
  refine W.eq (g2 := F0 m 1592 ls [.int (xs 7), .long (((xs 6).toInt64) <<< ((32 : Int32).toInt64 &&& 63)), .long ((((xs 4).toInt64) <<< ((32 : Int32).toInt64 &&& 63)) ||| (((xs 5).toInt64) &&& 4294967295)), .int (xs 3), .int (xs 2), .int (xs 1), .ref m0]) rfl ?_
  refine lv_i2l (v := (xs 7).toInt64) hx hb dL_law_1592 rfl ?_
  refine lv_ldc2 (v := 4294967295) hx hb hown (hG _ gw_2764) dL_law_1593 ?_
  refine lv_land hx hb dL_law_1596 ?_
  refine lv_lor hx hb dL_law_1597 ?_
  have hPc := hP.sub (ws' := [(m0, .inr (11, y0))]) [0] rfl
  have hDc := hD.sub (ws' := [(m0, .inr (11, y0))]) [0] (by decide) rfl
  have hFc := va_free (wc := [(m0, .inr (11, y0))]) hD hS hA [0] rfl
  refine va_calll (va_runV (As := [.int (xs 1), .int (xs 2), .int (xs 3), .long ((((xs 4).toInt64) <<< ((32 : Int32).toInt64 &&& 63)) ||| (((xs 5).toInt64) &&& 4294967295)), .long ((((xs 6).toInt64) <<< ((32 : Int32).toInt64 &&& 63)) ||| (((xs 7).toInt64) &&& 4294967295))]) (rest := []) ⟨hx, hb, hml, hown, hts⟩ (a153_X12_work l  D kA V H.size m0 (xs 1) (xs 2) (xs 3) ((((xs 4).toInt64) <<< ((32 : Int32).toInt64 &&& 63)) ||| (((xs 5).toInt64) &&& 4294967295)) ((((xs 6).toInt64) <<< ((32 : Int32).toInt64 &&& 63)) ||| (((xs 7).toInt64) &&& 4294967295)) y0 (fun k hk => (hq k hk)) hq9) (cwV 5 hts (gw_V gw_2756 gw_2757 gw_2758 gw_16 gw_2759) rfl rfl rfl (by decide +kernel) ⟨(Nat.le_of_ble_eq_true rfl), (Nat.le_of_ble_eq_true rfl)⟩) ⟨aP.blind, va_recv hK hP (ci := 11) (q0 := 0) rfl rfl, aP.pre hE hS hPc hK hDc hFc⟩ rfl rfl hl.1 rfl (lv_room (Nat.le_of_ble_eq_true rfl)) dL_law_1598 ⟨(Nat.le_of_ble_eq_true rfl), (Nat.le_of_ble_eq_true rfl)⟩) hS (fun q _ h => hFc q h) hFc (fun r_100001 u t H1 locs ht hvm hw hB hz1 hk1 hS => ?_)
  obtain ⟨u_100002, rfl⟩ : ∃ z, z = u := ⟨u, rfl⟩
  obtain ⟨hP1, hD1⟩ := hB
  rw [ht] at hP1
  try dsimp only at hw hP1 hD1
  rcases hw with hz | hz | hz | hz | hz | hz | hz | hz | hz | hz | hz | hz | hz | hz | hz | hz | hz | hz | hz | hz | hz | hz | hz | hz | hz | hz | hz | hz | hz | hz | hz | hz | hz | hz | hz | hz | hz | hz | hz | hz | hz | hz | hz | hz | hz | hz | hz | hz | hz | hz | hz | hz
  · obtain ⟨c_100003, c_100004, w_100005, w_100006⟩ := hz
    subst w_100005
    subst w_100006
    obtain ⟨hP, hD⟩ := va_join (wr := [(h0, .inr (10, [.ref x0, .int 0, .ref x1, .ref x2, .ref x3, .ref x4, .ref x5, .ref x6, .ref x7, .ref x8, .int 0, .int 3000])), (o0, .inl (kA 1, 1, .inr (.inl (fun _ => 0))))]) (w1 := [(m0, .inr (11, y0.set 9 (.int 1)))]) hP hD [0] [1, 2] rfl rfl (by decide) (by decide) hk1 hFc hP1 hD1
    generalize H1 = H at hP hS ⊢
    have hP : va_P D vwCl [(h0, .inr (10, [.ref x0, .int 0, .ref x1, .ref x2, .ref x3, .ref x4, .ref x5, .ref x6, .ref x7, .ref x8, .int 0, .int 3000])), (o0, .inl (kA 1, 1, .inr (.inl (fun _ => 0)))), (m0, .inr (11, y0.set 9 (.int 1)))] H := hP
    have hD : va_D A [(h0, .inr (10, [.ref x0, .int 0, .ref x1, .ref x2, .ref x3, .ref x4, .ref x5, .ref x6, .ref x7, .ref x8, .int 0, .int 3000])), (o0, .inl (kA 1, 1, .inr (.inl (fun _ => 0)))), (m0, .inr (11, y0.set 9 (.int 1)))] := hD
    refine lv_lstore (lv' := [(6, .long 0), (5, .int 1), (0, .ref b), (1, .ref h0), (2, .ref m0), (3, .ref o0), (4, .int 0)]) hx hb dL_law_1601 hl (by decide) rfl (fun ls hl => ?_)
    refine lv_aload_n hx hb dL_law_1603 rfl (lv_at hl 4 rfl) ?_
    have hPc := hP.sub (ws' := [(m0, .inr (11, y0.set 9 (.int 1)))]) [2] rfl
    have hDc := hD.sub (ws' := [(m0, .inr (11, y0.set 9 (.int 1)))]) [2] (by decide) rfl
    have hFc := va_free (wc := [(m0, .inr (11, y0.set 9 (.int 1)))]) hD hS hA [2] rfl
    refine va_calli (va_runV (As := []) (rest := []) ⟨hx, hb, hml, hown, hts⟩ (a174_X12_thrown l  D kA V H.size m0 (y0.set 9 (.int 1)) (fun k hk => (by rw [List.length_set]; exact (hq k hk))) (List.getElem?_set_self (hq 9 (by decide)))) (cwV 0 hts (gw_V gw_1879 gw_1880 gw_1881 gw_16 gw_1882) rfl rfl rfl (by decide +kernel) ⟨(Nat.le_of_ble_eq_true rfl), (Nat.le_of_ble_eq_true rfl)⟩) ⟨aP.blind, va_recv hK hP (ci := 11) (q0 := 2) rfl rfl, aP.pre hE hS hPc hK hDc hFc⟩ rfl rfl hl.1 rfl (lv_room (Nat.le_of_ble_eq_true rfl)) dL_law_1604 ⟨(Nat.le_of_ble_eq_true rfl), (Nat.le_of_ble_eq_true rfl)⟩) hS (fun q _ h => hFc q h) hFc (fun r_100776 u t H1 locs ht hvm hw hB hz1 hk1 hS => ?_)
    obtain ⟨hP1, hD1⟩ := hB
    rw [ht] at hP1
    try dsimp only at hw hP1 hD1
    have w_100777 := hw
    subst w_100777
    obtain ⟨hP, hD⟩ := va_join (wr := [(h0, .inr (10, [.ref x0, .int 0, .ref x1, .ref x2, .ref x3, .ref x4, .ref x5, .ref x6, .ref x7, .ref x8, .int 0, .int 3000])), (o0, .inl (kA 1, 1, .inr (.inl (fun _ => 0))))]) (w1 := [(m0, .inr (11, (y0.set 9 (.int 1))))]) hP hD [2] [0, 1] rfl rfl (by decide) (by decide) hk1 hFc hP1 hD1
    generalize H1 = H at hP hS ⊢
    have hP : va_P D vwCl [(h0, .inr (10, [.ref x0, .int 0, .ref x1, .ref x2, .ref x3, .ref x4, .ref x5, .ref x6, .ref x7, .ref x8, .int 0, .int 3000])), (o0, .inl (kA 1, 1, .inr (.inl (fun _ => 0)))), (m0, .inr (11, (y0.set 9 (.int 1))))] H := hP
    have hD : va_D A [(h0, .inr (10, [.ref x0, .int 0, .ref x1, .ref x2, .ref x3, .ref x4, .ref x5, .ref x6, .ref x7, .ref x8, .int 0, .int 3000])), (o0, .inl (kA 1, 1, .inr (.inl (fun _ => 0)))), (m0, .inr (11, (y0.set 9 (.int 1))))] := hD
    refine lv_iload hx hb dL_law_1607 (lv_at hl 1 rfl) ?_
    refine lv_icmp_eq (tgt := 1614) hx hb dL_law_1609 (by decide) (fun c_100778 => ?_) (fun c_100778 => ?_)
    · skip
      refine lv_iload hx hb dL_law_1614 (lv_at hl 1 rfl) ?_
      refine lv_if_ne (tgt := 1630) hx hb dL_law_1616 (by decide) (fun c_100779 => ?_) (fun c_100779 => ?_)
      · skip
        refine lv_goto (tgt := 1804) hx hb dL_law_1630 (by decide) ?_
        exact lk_tail hC hA2 (lv_sub hl [2, 6] rfl) hS (Nat.le_of_ble_eq_true rfl) (Nat.le_of_ble_eq_true rfl)
      · exact absurd c_100779 (by decide)
    · exact absurd (by decide) c_100778
  · exact absurd c_3 hz.2.1
  · exact absurd c_3 hz.2.1
  · exact absurd c_3 hz.2.1
  · exact absurd c_3 hz.2.1
  · obtain ⟨c_100032, c_100033, c_100034, w_100035, w_100036⟩ := hz
    subst w_100035
    subst w_100036
    obtain ⟨hP, hD⟩ := va_join (wr := [(h0, .inr (10, [.ref x0, .int 0, .ref x1, .ref x2, .ref x3, .ref x4, .ref x5, .ref x6, .ref x7, .ref x8, .int 0, .int 3000])), (o0, .inl (kA 1, 1, .inr (.inl (fun _ => 0))))]) (w1 := [(m0, .inr (11, y0.set 9 (.int 1)))]) hP hD [0] [1, 2] rfl rfl (by decide) (by decide) hk1 hFc hP1 hD1
    generalize H1 = H at hP hS ⊢
    have hP : va_P D vwCl [(h0, .inr (10, [.ref x0, .int 0, .ref x1, .ref x2, .ref x3, .ref x4, .ref x5, .ref x6, .ref x7, .ref x8, .int 0, .int 3000])), (o0, .inl (kA 1, 1, .inr (.inl (fun _ => 0)))), (m0, .inr (11, y0.set 9 (.int 1)))] H := hP
    have hD : va_D A [(h0, .inr (10, [.ref x0, .int 0, .ref x1, .ref x2, .ref x3, .ref x4, .ref x5, .ref x6, .ref x7, .ref x8, .int 0, .int 3000])), (o0, .inl (kA 1, 1, .inr (.inl (fun _ => 0)))), (m0, .inr (11, y0.set 9 (.int 1)))] := hD
    refine lv_lstore (lv' := [(6, .long 0), (5, .int 1), (0, .ref b), (1, .ref h0), (2, .ref m0), (3, .ref o0), (4, .int 0)]) hx hb dL_law_1601 hl (by decide) rfl (fun ls hl => ?_)
    refine lv_aload_n hx hb dL_law_1603 rfl (lv_at hl 4 rfl) ?_
    have hPc := hP.sub (ws' := [(m0, .inr (11, y0.set 9 (.int 1)))]) [2] rfl
    have hDc := hD.sub (ws' := [(m0, .inr (11, y0.set 9 (.int 1)))]) [2] (by decide) rfl
    have hFc := va_free (wc := [(m0, .inr (11, y0.set 9 (.int 1)))]) hD hS hA [2] rfl
    refine va_calli (va_runV (As := []) (rest := []) ⟨hx, hb, hml, hown, hts⟩ (a174_X12_thrown l  D kA V H.size m0 (y0.set 9 (.int 1)) (fun k hk => (by rw [List.length_set]; exact (hq k hk))) (List.getElem?_set_self (hq 9 (by decide)))) (cwV 0 hts (gw_V gw_1879 gw_1880 gw_1881 gw_16 gw_1882) rfl rfl rfl (by decide +kernel) ⟨(Nat.le_of_ble_eq_true rfl), (Nat.le_of_ble_eq_true rfl)⟩) ⟨aP.blind, va_recv hK hP (ci := 11) (q0 := 2) rfl rfl, aP.pre hE hS hPc hK hDc hFc⟩ rfl rfl hl.1 rfl (lv_room (Nat.le_of_ble_eq_true rfl)) dL_law_1604 ⟨(Nat.le_of_ble_eq_true rfl), (Nat.le_of_ble_eq_true rfl)⟩) hS (fun q _ h => hFc q h) hFc (fun r_100780 u t H1 locs ht hvm hw hB hz1 hk1 hS => ?_)
    obtain ⟨hP1, hD1⟩ := hB
    rw [ht] at hP1
    try dsimp only at hw hP1 hD1
    have w_100781 := hw
    subst w_100781
    obtain ⟨hP, hD⟩ := va_join (wr := [(h0, .inr (10, [.ref x0, .int 0, .ref x1, .ref x2, .ref x3, .ref x4, .ref x5, .ref x6, .ref x7, .ref x8, .int 0, .int 3000])), (o0, .inl (kA 1, 1, .inr (.inl (fun _ => 0))))]) (w1 := [(m0, .inr (11, (y0.set 9 (.int 1))))]) hP hD [2] [0, 1] rfl rfl (by decide) (by decide) hk1 hFc hP1 hD1
    generalize H1 = H at hP hS ⊢
    have hP : va_P D vwCl [(h0, .inr (10, [.ref x0, .int 0, .ref x1, .ref x2, .ref x3, .ref x4, .ref x5, .ref x6, .ref x7, .ref x8, .int 0, .int 3000])), (o0, .inl (kA 1, 1, .inr (.inl (fun _ => 0)))), (m0, .inr (11, (y0.set 9 (.int 1))))] H := hP
    have hD : va_D A [(h0, .inr (10, [.ref x0, .int 0, .ref x1, .ref x2, .ref x3, .ref x4, .ref x5, .ref x6, .ref x7, .ref x8, .int 0, .int 3000])), (o0, .inl (kA 1, 1, .inr (.inl (fun _ => 0)))), (m0, .inr (11, (y0.set 9 (.int 1))))] := hD
    refine lv_iload hx hb dL_law_1607 (lv_at hl 1 rfl) ?_
    refine lv_icmp_eq (tgt := 1614) hx hb dL_law_1609 (by decide) (fun c_100782 => ?_) (fun c_100782 => ?_)
    · skip
      refine lv_iload hx hb dL_law_1614 (lv_at hl 1 rfl) ?_
      refine lv_if_ne (tgt := 1630) hx hb dL_law_1616 (by decide) (fun c_100783 => ?_) (fun c_100783 => ?_)
      · skip
        refine lv_goto (tgt := 1804) hx hb dL_law_1630 (by decide) ?_
        exact lk_tail hC hA2 (lv_sub hl [2, 6] rfl) hS (Nat.le_of_ble_eq_true rfl) (Nat.le_of_ble_eq_true rfl)
      · exact absurd c_100783 (by decide)
    · exact absurd (by decide) c_100782
  · exact absurd c_3 hz.2.2.1
  · exact absurd c_3 hz.2.2.1
  · exact absurd c_3 hz.2.2.1
  · exact absurd c_3 hz.2.2.1
  · obtain ⟨c_100066, c_100067, c_100068, w_100069, w_100070⟩ := hz
    subst w_100069
    subst w_100070
    obtain ⟨hP, hD⟩ := va_join (wr := [(h0, .inr (10, [.ref x0, .int 0, .ref x1, .ref x2, .ref x3, .ref x4, .ref x5, .ref x6, .ref x7, .ref x8, .int 0, .int 3000])), (o0, .inl (kA 1, 1, .inr (.inl (fun _ => 0))))]) (w1 := [(m0, .inr (11, y0.set 9 (.int 1)))]) hP hD [0] [1, 2] rfl rfl (by decide) (by decide) hk1 hFc hP1 hD1
    generalize H1 = H at hP hS ⊢
    have hP : va_P D vwCl [(h0, .inr (10, [.ref x0, .int 0, .ref x1, .ref x2, .ref x3, .ref x4, .ref x5, .ref x6, .ref x7, .ref x8, .int 0, .int 3000])), (o0, .inl (kA 1, 1, .inr (.inl (fun _ => 0)))), (m0, .inr (11, y0.set 9 (.int 1)))] H := hP
    have hD : va_D A [(h0, .inr (10, [.ref x0, .int 0, .ref x1, .ref x2, .ref x3, .ref x4, .ref x5, .ref x6, .ref x7, .ref x8, .int 0, .int 3000])), (o0, .inl (kA 1, 1, .inr (.inl (fun _ => 0)))), (m0, .inr (11, y0.set 9 (.int 1)))] := hD
    refine lv_lstore (lv' := [(6, .long 0), (5, .int 1), (0, .ref b), (1, .ref h0), (2, .ref m0), (3, .ref o0), (4, .int 0)]) hx hb dL_law_1601 hl (by decide) rfl (fun ls hl => ?_)
    refine lv_aload_n hx hb dL_law_1603 rfl (lv_at hl 4 rfl) ?_
    have hPc := hP.sub (ws' := [(m0, .inr (11, y0.set 9 (.int 1)))]) [2] rfl
    have hDc := hD.sub (ws' := [(m0, .inr (11, y0.set 9 (.int 1)))]) [2] (by decide) rfl
    have hFc := va_free (wc := [(m0, .inr (11, y0.set 9 (.int 1)))]) hD hS hA [2] rfl
    refine va_calli (va_runV (As := []) (rest := []) ⟨hx, hb, hml, hown, hts⟩ (a174_X12_thrown l  D kA V H.size m0 (y0.set 9 (.int 1)) (fun k hk => (by rw [List.length_set]; exact (hq k hk))) (List.getElem?_set_self (hq 9 (by decide)))) (cwV 0 hts (gw_V gw_1879 gw_1880 gw_1881 gw_16 gw_1882) rfl rfl rfl (by decide +kernel) ⟨(Nat.le_of_ble_eq_true rfl), (Nat.le_of_ble_eq_true rfl)⟩) ⟨aP.blind, va_recv hK hP (ci := 11) (q0 := 2) rfl rfl, aP.pre hE hS hPc hK hDc hFc⟩ rfl rfl hl.1 rfl (lv_room (Nat.le_of_ble_eq_true rfl)) dL_law_1604 ⟨(Nat.le_of_ble_eq_true rfl), (Nat.le_of_ble_eq_true rfl)⟩) hS (fun q _ h => hFc q h) hFc (fun r_100784 u t H1 locs ht hvm hw hB hz1 hk1 hS => ?_)
    obtain ⟨hP1, hD1⟩ := hB
    rw [ht] at hP1
    try dsimp only at hw hP1 hD1
    have w_100785 := hw
    subst w_100785
    obtain ⟨hP, hD⟩ := va_join (wr := [(h0, .inr (10, [.ref x0, .int 0, .ref x1, .ref x2, .ref x3, .ref x4, .ref x5, .ref x6, .ref x7, .ref x8, .int 0, .int 3000])), (o0, .inl (kA 1, 1, .inr (.inl (fun _ => 0))))]) (w1 := [(m0, .inr (11, (y0.set 9 (.int 1))))]) hP hD [2] [0, 1] rfl rfl (by decide) (by decide) hk1 hFc hP1 hD1
    generalize H1 = H at hP hS ⊢
    have hP : va_P D vwCl [(h0, .inr (10, [.ref x0, .int 0, .ref x1, .ref x2, .ref x3, .ref x4, .ref x5, .ref x6, .ref x7, .ref x8, .int 0, .int 3000])), (o0, .inl (kA 1, 1, .inr (.inl (fun _ => 0)))), (m0, .inr (11, (y0.set 9 (.int 1))))] H := hP
    have hD : va_D A [(h0, .inr (10, [.ref x0, .int 0, .ref x1, .ref x2, .ref x3, .ref x4, .ref x5, .ref x6, .ref x7, .ref x8, .int 0, .int 3000])), (o0, .inl (kA 1, 1, .inr (.inl (fun _ => 0)))), (m0, .inr (11, (y0.set 9 (.int 1))))] := hD
    refine lv_iload hx hb dL_law_1607 (lv_at hl 1 rfl) ?_
    refine lv_icmp_eq (tgt := 1614) hx hb dL_law_1609 (by decide) (fun c_100786 => ?_) (fun c_100786 => ?_)
    · skip
      refine lv_iload hx hb dL_law_1614 (lv_at hl 1 rfl) ?_
      refine lv_if_ne (tgt := 1630) hx hb dL_law_1616 (by decide) (fun c_100787 => ?_) (fun c_100787 => ?_)
      · skip
        refine lv_goto (tgt := 1804) hx hb dL_law_1630 (by decide) ?_
        exact lk_tail hC hA2 (lv_sub hl [2, 6] rfl) hS (Nat.le_of_ble_eq_true rfl) (Nat.le_of_ble_eq_true rfl)
      · exact absurd c_100787 (by decide)
    · exact absurd (by decide) c_100786
  · exact absurd c_3 hz.2.2.1
  · exact absurd c_3 hz.2.2.1
  · exact absurd c_3 hz.2.2.1
  · exact absurd c_3 hz.2.2.1
  · exact absurd c_3 hz.2.2.1
  · exact absurd c_3 hz.2.2.1
  · exact absurd c_3 hz.2.2.1
  · exact absurd c_3 hz.2.2.1
  · exact absurd c_3 hz.2.2.1
  · exact absurd c_3 hz.2.2.1
  · exact absurd c_3 hz.2.2.1
  · exact absurd c_3 hz.2.2.1
  · exact absurd c_3 hz.2.2.1
  · exact absurd c_3 hz.2.2.1
  · exact absurd c_3 hz.2.2.1
  · exact absurd c_3 hz.2.2.1
  · exact absurd c_3 hz.2.2.1
  · exact absurd c_3 hz.2.2.1
  · exact absurd c_3 hz.2.2.1
  · exact absurd c_3 hz.2.2.1
  · exact absurd c_3 hz.2.2.1
  · exact absurd c_3 hz.2.2.1
  · exact absurd c_3 hz.2.2.1
  · exact absurd c_3 hz.2.2.1
  · exact absurd c_3 hz.2.2.1
  · exact absurd c_3 hz.2.2.1
  · exact absurd c_3 hz.2.2.1
  · exact absurd c_3 hz.2.2.1
  · exact absurd c_3 hz.2.2.1
  · exact absurd c_3 hz.2.2.1
  · exact absurd c_3 hz.2.2.1
  · exact absurd c_3 hz.2.2.1
  · exact absurd c_3 hz.2.2.1
  · exact absurd c_3 hz.2.2.1
  · exact absurd c_3 hz.2.2.1
  · exact absurd c_3 hz.2.2.1
  · exact absurd c_3 hz.2.2.1
  · exact absurd c_3 hz.2.2.1
  · exact absurd c_3 hz.2.2.1
  · exact absurd c_3 hz.2.2.1
  · exact absurd c_3 hz.2.2.1
set_option maxHeartbeats 4000000 in
set_option maxRecDepth 100000 in
theorem lk_22_1 {p : Program} {l : Launch} {e : Env} {s : State} {m : MethodId} {below : List Frame} {meth : Method} {c : Code} {D : va_G} {kA : Nat → ClassId} {V : Nat → Nat} {b : Nat} {xs : Nat → Int32} {A : Nat → Prop} (hC : lw_C p l s m meth c b 8 xs D kA V A) (hA2 : ∀ q, A q → s.heap.size ≤ q) (h0 : Nat) (m0 : Nat) (o0 : Nat) (x0 : Nat) (x1 : Nat) (x2 : Nat) (x3 : Nat) (x4 : Nat) (x5 : Nat) (x6 : Nat) (x7 : Nat) (x8 : Nat) (y0 : List Value) (hq : ∀ k, k < 121 → k < y0.length) (hq9 : y0[9]? = some (.int 0)) (c_6 : ¬ (xs 2) < 0) (c_7 : 4 < (xs 2)) {H : Heap} {locs : List Loc} {ls : Array Slot} (hl : lv_has ls 8 [(0, .ref b), (1, .ref h0), (2, .ref m0), (3, .ref o0), (4, .int 0)]) (hS : va_S A s.heap H locs) (hP : va_P D vwCl [(m0, .inr (11, y0)), (h0, .inr (10, [.ref x0, .int 0, .ref x1, .ref x2, .ref x3, .ref x4, .ref x5, .ref x6, .ref x7, .ref x8, .int 0, .int 3000])), (o0, .inl (kA 1, 1, .inr (.inl (fun _ => 0))))] H) (hD : va_D A [(m0, .inr (11, y0)), (h0, .inr (10, [.ref x0, .int 0, .ref x1, .ref x2, .ref x3, .ref x4, .ref x5, .ref x6, .ref x7, .ref x8, .int 0, .int 3000])), (o0, .inl (kA 1, 1, .inr (.inl (fun _ => 0))))]) : W p l e room_1 s m #[Value.ref b] below meth c H locs 515 172799 (lw_Z below #[Value.ref b] s) (F0 m 1531 ls [.int 1]) := by
  have ⟨hst, hx, hb, hr, hml, hown, hts, hG, hX, hbl, hbA, hlocks, hE, hK, hA⟩ := hC
  refine lv_istore (lv' := [(5, .int 1), (0, .ref b), (1, .ref h0), (2, .ref m0), (3, .ref o0), (4, .int 0)]) hx hb dL_law_1531 hl (by decide) rfl (fun ls hl => ?_)
  refine lv_aload_n hx hb dL_law_1533 rfl (lv_at hl 3 rfl) ?_
  refine lv_aload_n hx hb dL_law_1534 rfl (lv_at hl 1 rfl) ?_
  refine lv_iload hx hb dL_law_1535 (lv_at hl 5 rfl) ?_
  refine lv_iconst (v := 1) hx hb dL_law_1537 (by decide) ?_
  refine lv_iadd hx hb dL_law_1538 ?_
  refine W.eq (g2 := F0 m 1539 ls [.int 1, .ref b, .ref m0]) rfl ?_
  refine va_sld hx hb hX hbl hbA hS (show vp_in 1 8 by unfold vp_in; decide) dL_law_1539 ?_
  refine W.eq (g2 := F0 m 1540 ls [.int (xs 1), .ref m0]) rfl ?_
  refine lv_aload_n hx hb dL_law_1540 rfl (lv_at hl 1 rfl) ?_
  refine lv_iload hx hb dL_law_1541 (lv_at hl 5 rfl) ?_
  refine lv_iconst (v := 2) hx hb dL_law_1543 (by decide) ?_
  refine lv_iadd hx hb dL_law_1544 ?_
  refine W.eq (g2 := F0 m 1545 ls [.int 2, .ref b, .int (xs 1), .ref m0]) rfl ?_
  refine va_sld hx hb hX hbl hbA hS (show vp_in 2 8 by unfold vp_in; decide) dL_law_1545 ?_
  refine W.eq (g2 := F0 m 1546 ls [.int (xs 2), .int (xs 1), .ref m0]) rfl ?_
  refine lv_aload_n hx hb dL_law_1546 rfl (lv_at hl 1 rfl) ?_
  refine lv_iload hx hb dL_law_1547 (lv_at hl 5 rfl) ?_
  refine lv_iconst (v := 3) hx hb dL_law_1549 (by decide) ?_
  refine lv_iadd hx hb dL_law_1550 ?_
  refine W.eq (g2 := F0 m 1551 ls [.int 3, .ref b, .int (xs 2), .int (xs 1), .ref m0]) rfl ?_
  refine va_sld hx hb hX hbl hbA hS (show vp_in 3 8 by unfold vp_in; decide) dL_law_1551 ?_
  refine W.eq (g2 := F0 m 1552 ls [.int (xs 3), .int (xs 2), .int (xs 1), .ref m0]) rfl ?_
  refine lv_aload_n hx hb dL_law_1552 rfl (lv_at hl 1 rfl) ?_
  refine lv_iload hx hb dL_law_1553 (lv_at hl 5 rfl) ?_
  refine lv_iconst (v := 4) hx hb dL_law_1555 (by decide) ?_
  refine lv_iadd hx hb dL_law_1556 ?_
  refine W.eq (g2 := F0 m 1557 ls [.int 4, .ref b, .int (xs 3), .int (xs 2), .int (xs 1), .ref m0]) rfl ?_
  refine va_sld hx hb hX hbl hbA hS (show vp_in 4 8 by unfold vp_in; decide) dL_law_1557 ?_
  refine W.eq (g2 := F0 m 1558 ls [.int (xs 4), .int (xs 3), .int (xs 2), .int (xs 1), .ref m0]) rfl ?_
  refine lv_i2l (v := (xs 4).toInt64) hx hb dL_law_1558 rfl ?_
  refine lv_bipush (v := 32) hx hb dL_law_1559 (by decide) ?_
  refine lv_lshl (v := ((xs 4).toInt64) <<< ((32 : Int32).toInt64 &&& 63)) hx hb dL_law_1561 rfl ?_
  refine lv_aload_n hx hb dL_law_1562 rfl (lv_at hl 1 rfl) ?_
  refine lv_iload hx hb dL_law_1563 (lv_at hl 5 rfl) ?_
  refine lv_iconst (v := 5) hx hb dL_law_1565 (by decide) ?_
  refine lv_iadd hx hb dL_law_1566 ?_
  refine W.eq (g2 := F0 m 1567 ls [.int 5, .ref b, .long (((xs 4).toInt64) <<< ((32 : Int32).toInt64 &&& 63)), .int (xs 3), .int (xs 2), .int (xs 1), .ref m0]) rfl ?_
  refine va_sld hx hb hX hbl hbA hS (show vp_in 5 8 by unfold vp_in; decide) dL_law_1567 ?_
  refine W.eq (g2 := F0 m 1568 ls [.int (xs 5), .long (((xs 4).toInt64) <<< ((32 : Int32).toInt64 &&& 63)), .int (xs 3), .int (xs 2), .int (xs 1), .ref m0]) rfl ?_
  refine lv_i2l (v := (xs 5).toInt64) hx hb dL_law_1568 rfl ?_
  refine lv_ldc2 (v := 4294967295) hx hb hown (hG _ gw_2764) dL_law_1569 ?_
  refine lv_land hx hb dL_law_1572 ?_
  refine lv_lor hx hb dL_law_1573 ?_
  refine lv_aload_n hx hb dL_law_1574 rfl (lv_at hl 1 rfl) ?_
  refine lv_iload hx hb dL_law_1575 (lv_at hl 5 rfl) ?_
  refine lv_bipush (v := 6) hx hb dL_law_1577 (by decide) ?_
  refine lv_iadd hx hb dL_law_1579 ?_
  refine W.eq (g2 := F0 m 1580 ls [.int 6, .ref b, .long ((((xs 4).toInt64) <<< ((32 : Int32).toInt64 &&& 63)) ||| (((xs 5).toInt64) &&& 4294967295)), .int (xs 3), .int (xs 2), .int (xs 1), .ref m0]) rfl ?_
  refine va_sld hx hb hX hbl hbA hS (show vp_in 6 8 by unfold vp_in; decide) dL_law_1580 ?_
  refine W.eq (g2 := F0 m 1581 ls [.int (xs 6), .long ((((xs 4).toInt64) <<< ((32 : Int32).toInt64 &&& 63)) ||| (((xs 5).toInt64) &&& 4294967295)), .int (xs 3), .int (xs 2), .int (xs 1), .ref m0]) rfl ?_
  refine lv_i2l (v := (xs 6).toInt64) hx hb dL_law_1581 rfl ?_
  refine lv_bipush (v := 32) hx hb dL_law_1582 (by decide) ?_
  refine lv_lshl (v := ((xs 6).toInt64) <<< ((32 : Int32).toInt64 &&& 63)) hx hb dL_law_1584 rfl ?_
  refine lv_aload_n hx hb dL_law_1585 rfl (lv_at hl 1 rfl) ?_
  refine lv_iload hx hb dL_law_1586 (lv_at hl 5 rfl) ?_
  refine lv_bipush (v := 7) hx hb dL_law_1588 (by decide) ?_
  refine lv_iadd hx hb dL_law_1590 ?_
  refine W.eq (g2 := F0 m 1591 ls [.int 7, .ref b, .long (((xs 6).toInt64) <<< ((32 : Int32).toInt64 &&& 63)), .long ((((xs 4).toInt64) <<< ((32 : Int32).toInt64 &&& 63)) ||| (((xs 5).toInt64) &&& 4294967295)), .int (xs 3), .int (xs 2), .int (xs 1), .ref m0]) rfl ?_
  refine va_sld hx hb hX hbl hbA hS (show vp_in 7 8 by unfold vp_in; decide) dL_law_1591 ?_
  refine W.eq (g2 := F0 m 1592 ls [.int (xs 7), .long (((xs 6).toInt64) <<< ((32 : Int32).toInt64 &&& 63)), .long ((((xs 4).toInt64) <<< ((32 : Int32).toInt64 &&& 63)) ||| (((xs 5).toInt64) &&& 4294967295)), .int (xs 3), .int (xs 2), .int (xs 1), .ref m0]) rfl ?_
  refine lv_i2l (v := (xs 7).toInt64) hx hb dL_law_1592 rfl ?_
  refine lv_ldc2 (v := 4294967295) hx hb hown (hG _ gw_2764) dL_law_1593 ?_
  refine lv_land hx hb dL_law_1596 ?_
  refine lv_lor hx hb dL_law_1597 ?_
  have hPc := hP.sub (ws' := [(m0, .inr (11, y0))]) [0] rfl
  have hDc := hD.sub (ws' := [(m0, .inr (11, y0))]) [0] (by decide) rfl
  have hFc := va_free (wc := [(m0, .inr (11, y0))]) hD hS hA [0] rfl
  refine va_calll (va_runV (As := [.int (xs 1), .int (xs 2), .int (xs 3), .long ((((xs 4).toInt64) <<< ((32 : Int32).toInt64 &&& 63)) ||| (((xs 5).toInt64) &&& 4294967295)), .long ((((xs 6).toInt64) <<< ((32 : Int32).toInt64 &&& 63)) ||| (((xs 7).toInt64) &&& 4294967295))]) (rest := []) ⟨hx, hb, hml, hown, hts⟩ (a153_X12_work l  D kA V H.size m0 (xs 1) (xs 2) (xs 3) ((((xs 4).toInt64) <<< ((32 : Int32).toInt64 &&& 63)) ||| (((xs 5).toInt64) &&& 4294967295)) ((((xs 6).toInt64) <<< ((32 : Int32).toInt64 &&& 63)) ||| (((xs 7).toInt64) &&& 4294967295)) y0 (fun k hk => (hq k hk)) hq9) (cwV 5 hts (gw_V gw_2756 gw_2757 gw_2758 gw_16 gw_2759) rfl rfl rfl (by decide +kernel) ⟨(Nat.le_of_ble_eq_true rfl), (Nat.le_of_ble_eq_true rfl)⟩) ⟨aP.blind, va_recv hK hP (ci := 11) (q0 := 0) rfl rfl, aP.pre hE hS hPc hK hDc hFc⟩ rfl rfl hl.1 rfl (lv_room (Nat.le_of_ble_eq_true rfl)) dL_law_1598 ⟨(Nat.le_of_ble_eq_true rfl), (Nat.le_of_ble_eq_true rfl)⟩) hS (fun q _ h => hFc q h) hFc (fun r_100001 u t H1 locs ht hvm hw hB hz1 hk1 hS => ?_)
  obtain ⟨u_100002, rfl⟩ : ∃ z, z = u := ⟨u, rfl⟩
  obtain ⟨hP1, hD1⟩ := hB
  rw [ht] at hP1
  try dsimp only at hw hP1 hD1
  rcases hw with hz | hz | hz | hz | hz | hz | hz | hz | hz | hz | hz | hz | hz | hz | hz | hz | hz | hz | hz | hz | hz | hz | hz | hz | hz | hz | hz | hz | hz | hz | hz | hz | hz | hz | hz | hz | hz | hz | hz | hz | hz | hz | hz | hz | hz | hz | hz | hz | hz | hz | hz | hz
  · exact absurd hz.2.1 c_6
  · obtain ⟨c_100007, c_100008, c_100009, w_100010, w_100011⟩ := hz
    subst w_100010
    subst w_100011
    obtain ⟨hP, hD⟩ := va_join (wr := [(h0, .inr (10, [.ref x0, .int 0, .ref x1, .ref x2, .ref x3, .ref x4, .ref x5, .ref x6, .ref x7, .ref x8, .int 0, .int 3000])), (o0, .inl (kA 1, 1, .inr (.inl (fun _ => 0))))]) (w1 := [(m0, .inr (11, y0.set 9 (.int 1)))]) hP hD [0] [1, 2] rfl rfl (by decide) (by decide) hk1 hFc hP1 hD1
    generalize H1 = H at hP hS ⊢
    have hP : va_P D vwCl [(h0, .inr (10, [.ref x0, .int 0, .ref x1, .ref x2, .ref x3, .ref x4, .ref x5, .ref x6, .ref x7, .ref x8, .int 0, .int 3000])), (o0, .inl (kA 1, 1, .inr (.inl (fun _ => 0)))), (m0, .inr (11, y0.set 9 (.int 1)))] H := hP
    have hD : va_D A [(h0, .inr (10, [.ref x0, .int 0, .ref x1, .ref x2, .ref x3, .ref x4, .ref x5, .ref x6, .ref x7, .ref x8, .int 0, .int 3000])), (o0, .inl (kA 1, 1, .inr (.inl (fun _ => 0)))), (m0, .inr (11, y0.set 9 (.int 1)))] := hD
    refine lv_lstore (lv' := [(6, .long 0), (5, .int 1), (0, .ref b), (1, .ref h0), (2, .ref m0), (3, .ref o0), (4, .int 0)]) hx hb dL_law_1601 hl (by decide) rfl (fun ls hl => ?_)
    refine lv_aload_n hx hb dL_law_1603 rfl (lv_at hl 4 rfl) ?_
    have hPc := hP.sub (ws' := [(m0, .inr (11, y0.set 9 (.int 1)))]) [2] rfl
    have hDc := hD.sub (ws' := [(m0, .inr (11, y0.set 9 (.int 1)))]) [2] (by decide) rfl
    have hFc := va_free (wc := [(m0, .inr (11, y0.set 9 (.int 1)))]) hD hS hA [2] rfl
    refine va_calli (va_runV (As := []) (rest := []) ⟨hx, hb, hml, hown, hts⟩ (a174_X12_thrown l  D kA V H.size m0 (y0.set 9 (.int 1)) (fun k hk => (by rw [List.length_set]; exact (hq k hk))) (List.getElem?_set_self (hq 9 (by decide)))) (cwV 0 hts (gw_V gw_1879 gw_1880 gw_1881 gw_16 gw_1882) rfl rfl rfl (by decide +kernel) ⟨(Nat.le_of_ble_eq_true rfl), (Nat.le_of_ble_eq_true rfl)⟩) ⟨aP.blind, va_recv hK hP (ci := 11) (q0 := 2) rfl rfl, aP.pre hE hS hPc hK hDc hFc⟩ rfl rfl hl.1 rfl (lv_room (Nat.le_of_ble_eq_true rfl)) dL_law_1604 ⟨(Nat.le_of_ble_eq_true rfl), (Nat.le_of_ble_eq_true rfl)⟩) hS (fun q _ h => hFc q h) hFc (fun r_100776 u t H1 locs ht hvm hw hB hz1 hk1 hS => ?_)
    obtain ⟨hP1, hD1⟩ := hB
    rw [ht] at hP1
    try dsimp only at hw hP1 hD1
    have w_100777 := hw
    subst w_100777
    obtain ⟨hP, hD⟩ := va_join (wr := [(h0, .inr (10, [.ref x0, .int 0, .ref x1, .ref x2, .ref x3, .ref x4, .ref x5, .ref x6, .ref x7, .ref x8, .int 0, .int 3000])), (o0, .inl (kA 1, 1, .inr (.inl (fun _ => 0))))]) (w1 := [(m0, .inr (11, (y0.set 9 (.int 1))))]) hP hD [2] [0, 1] rfl rfl (by decide) (by decide) hk1 hFc hP1 hD1
    generalize H1 = H at hP hS ⊢
    have hP : va_P D vwCl [(h0, .inr (10, [.ref x0, .int 0, .ref x1, .ref x2, .ref x3, .ref x4, .ref x5, .ref x6, .ref x7, .ref x8, .int 0, .int 3000])), (o0, .inl (kA 1, 1, .inr (.inl (fun _ => 0)))), (m0, .inr (11, (y0.set 9 (.int 1))))] H := hP
    have hD : va_D A [(h0, .inr (10, [.ref x0, .int 0, .ref x1, .ref x2, .ref x3, .ref x4, .ref x5, .ref x6, .ref x7, .ref x8, .int 0, .int 3000])), (o0, .inl (kA 1, 1, .inr (.inl (fun _ => 0)))), (m0, .inr (11, (y0.set 9 (.int 1))))] := hD
    refine lv_iload hx hb dL_law_1607 (lv_at hl 1 rfl) ?_
    refine lv_icmp_eq (tgt := 1614) hx hb dL_law_1609 (by decide) (fun c_100778 => ?_) (fun c_100778 => ?_)
    · skip
      refine lv_iload hx hb dL_law_1614 (lv_at hl 1 rfl) ?_
      refine lv_if_ne (tgt := 1630) hx hb dL_law_1616 (by decide) (fun c_100779 => ?_) (fun c_100779 => ?_)
      · skip
        refine lv_goto (tgt := 1804) hx hb dL_law_1630 (by decide) ?_
        exact lk_tail hC hA2 (lv_sub hl [2, 6] rfl) hS (Nat.le_of_ble_eq_true rfl) (Nat.le_of_ble_eq_true rfl)
      · exact absurd c_100779 (by decide)
    · exact absurd (by decide) c_100778
  · exact absurd c_7 hz.2.2.1
  · exact absurd c_7 hz.2.2.1
  · exact absurd c_7 hz.2.2.1
  · exact absurd hz.2.2.1 c_6
  · obtain ⟨c_100037, c_100038, c_100039, c_100040, w_100041, w_100042⟩ := hz
    subst w_100041
    subst w_100042
    obtain ⟨hP, hD⟩ := va_join (wr := [(h0, .inr (10, [.ref x0, .int 0, .ref x1, .ref x2, .ref x3, .ref x4, .ref x5, .ref x6, .ref x7, .ref x8, .int 0, .int 3000])), (o0, .inl (kA 1, 1, .inr (.inl (fun _ => 0))))]) (w1 := [(m0, .inr (11, y0.set 9 (.int 1)))]) hP hD [0] [1, 2] rfl rfl (by decide) (by decide) hk1 hFc hP1 hD1
    generalize H1 = H at hP hS ⊢
    have hP : va_P D vwCl [(h0, .inr (10, [.ref x0, .int 0, .ref x1, .ref x2, .ref x3, .ref x4, .ref x5, .ref x6, .ref x7, .ref x8, .int 0, .int 3000])), (o0, .inl (kA 1, 1, .inr (.inl (fun _ => 0)))), (m0, .inr (11, y0.set 9 (.int 1)))] H := hP
    have hD : va_D A [(h0, .inr (10, [.ref x0, .int 0, .ref x1, .ref x2, .ref x3, .ref x4, .ref x5, .ref x6, .ref x7, .ref x8, .int 0, .int 3000])), (o0, .inl (kA 1, 1, .inr (.inl (fun _ => 0)))), (m0, .inr (11, y0.set 9 (.int 1)))] := hD
    refine lv_lstore (lv' := [(6, .long 0), (5, .int 1), (0, .ref b), (1, .ref h0), (2, .ref m0), (3, .ref o0), (4, .int 0)]) hx hb dL_law_1601 hl (by decide) rfl (fun ls hl => ?_)
    refine lv_aload_n hx hb dL_law_1603 rfl (lv_at hl 4 rfl) ?_
    have hPc := hP.sub (ws' := [(m0, .inr (11, y0.set 9 (.int 1)))]) [2] rfl
    have hDc := hD.sub (ws' := [(m0, .inr (11, y0.set 9 (.int 1)))]) [2] (by decide) rfl
    have hFc := va_free (wc := [(m0, .inr (11, y0.set 9 (.int 1)))]) hD hS hA [2] rfl
    refine va_calli (va_runV (As := []) (rest := []) ⟨hx, hb, hml, hown, hts⟩ (a174_X12_thrown l  D kA V H.size m0 (y0.set 9 (.int 1)) (fun k hk => (by rw [List.length_set]; exact (hq k hk))) (List.getElem?_set_self (hq 9 (by decide)))) (cwV 0 hts (gw_V gw_1879 gw_1880 gw_1881 gw_16 gw_1882) rfl rfl rfl (by decide +kernel) ⟨(Nat.le_of_ble_eq_true rfl), (Nat.le_of_ble_eq_true rfl)⟩) ⟨aP.blind, va_recv hK hP (ci := 11) (q0 := 2) rfl rfl, aP.pre hE hS hPc hK hDc hFc⟩ rfl rfl hl.1 rfl (lv_room (Nat.le_of_ble_eq_true rfl)) dL_law_1604 ⟨(Nat.le_of_ble_eq_true rfl), (Nat.le_of_ble_eq_true rfl)⟩) hS (fun q _ h => hFc q h) hFc (fun r_100780 u t H1 locs ht hvm hw hB hz1 hk1 hS => ?_)
    obtain ⟨hP1, hD1⟩ := hB
    rw [ht] at hP1
    try dsimp only at hw hP1 hD1
    have w_100781 := hw
    subst w_100781
    obtain ⟨hP, hD⟩ := va_join (wr := [(h0, .inr (10, [.ref x0, .int 0, .ref x1, .ref x2, .ref x3, .ref x4, .ref x5, .ref x6, .ref x7, .ref x8, .int 0, .int 3000])), (o0, .inl (kA 1, 1, .inr (.inl (fun _ => 0))))]) (w1 := [(m0, .inr (11, (y0.set 9 (.int 1))))]) hP hD [2] [0, 1] rfl rfl (by decide) (by decide) hk1 hFc hP1 hD1
    generalize H1 = H at hP hS ⊢
    have hP : va_P D vwCl [(h0, .inr (10, [.ref x0, .int 0, .ref x1, .ref x2, .ref x3, .ref x4, .ref x5, .ref x6, .ref x7, .ref x8, .int 0, .int 3000])), (o0, .inl (kA 1, 1, .inr (.inl (fun _ => 0)))), (m0, .inr (11, (y0.set 9 (.int 1))))] H := hP
    have hD : va_D A [(h0, .inr (10, [.ref x0, .int 0, .ref x1, .ref x2, .ref x3, .ref x4, .ref x5, .ref x6, .ref x7, .ref x8, .int 0, .int 3000])), (o0, .inl (kA 1, 1, .inr (.inl (fun _ => 0)))), (m0, .inr (11, (y0.set 9 (.int 1))))] := hD
    refine lv_iload hx hb dL_law_1607 (lv_at hl 1 rfl) ?_
    refine lv_icmp_eq (tgt := 1614) hx hb dL_law_1609 (by decide) (fun c_100782 => ?_) (fun c_100782 => ?_)
    · skip
      refine lv_iload hx hb dL_law_1614 (lv_at hl 1 rfl) ?_
      refine lv_if_ne (tgt := 1630) hx hb dL_law_1616 (by decide) (fun c_100783 => ?_) (fun c_100783 => ?_)
      · skip
        refine lv_goto (tgt := 1804) hx hb dL_law_1630 (by decide) ?_
        exact lk_tail hC hA2 (lv_sub hl [2, 6] rfl) hS (Nat.le_of_ble_eq_true rfl) (Nat.le_of_ble_eq_true rfl)
      · exact absurd c_100783 (by decide)
    · exact absurd (by decide) c_100782
  · exact absurd c_7 hz.2.2.2.1
  · exact absurd c_7 hz.2.2.2.1
  · exact absurd c_7 hz.2.2.2.1
  · exact absurd hz.2.2.1 c_6
  · obtain ⟨c_100071, c_100072, c_100073, c_100074, w_100075, w_100076⟩ := hz
    subst w_100075
    subst w_100076
    obtain ⟨hP, hD⟩ := va_join (wr := [(h0, .inr (10, [.ref x0, .int 0, .ref x1, .ref x2, .ref x3, .ref x4, .ref x5, .ref x6, .ref x7, .ref x8, .int 0, .int 3000])), (o0, .inl (kA 1, 1, .inr (.inl (fun _ => 0))))]) (w1 := [(m0, .inr (11, y0.set 9 (.int 1)))]) hP hD [0] [1, 2] rfl rfl (by decide) (by decide) hk1 hFc hP1 hD1
    generalize H1 = H at hP hS ⊢
    have hP : va_P D vwCl [(h0, .inr (10, [.ref x0, .int 0, .ref x1, .ref x2, .ref x3, .ref x4, .ref x5, .ref x6, .ref x7, .ref x8, .int 0, .int 3000])), (o0, .inl (kA 1, 1, .inr (.inl (fun _ => 0)))), (m0, .inr (11, y0.set 9 (.int 1)))] H := hP
    have hD : va_D A [(h0, .inr (10, [.ref x0, .int 0, .ref x1, .ref x2, .ref x3, .ref x4, .ref x5, .ref x6, .ref x7, .ref x8, .int 0, .int 3000])), (o0, .inl (kA 1, 1, .inr (.inl (fun _ => 0)))), (m0, .inr (11, y0.set 9 (.int 1)))] := hD
    refine lv_lstore (lv' := [(6, .long 0), (5, .int 1), (0, .ref b), (1, .ref h0), (2, .ref m0), (3, .ref o0), (4, .int 0)]) hx hb dL_law_1601 hl (by decide) rfl (fun ls hl => ?_)
    refine lv_aload_n hx hb dL_law_1603 rfl (lv_at hl 4 rfl) ?_
    have hPc := hP.sub (ws' := [(m0, .inr (11, y0.set 9 (.int 1)))]) [2] rfl
    have hDc := hD.sub (ws' := [(m0, .inr (11, y0.set 9 (.int 1)))]) [2] (by decide) rfl
    have hFc := va_free (wc := [(m0, .inr (11, y0.set 9 (.int 1)))]) hD hS hA [2] rfl
    refine va_calli (va_runV (As := []) (rest := []) ⟨hx, hb, hml, hown, hts⟩ (a174_X12_thrown l  D kA V H.size m0 (y0.set 9 (.int 1)) (fun k hk => (by rw [List.length_set]; exact (hq k hk))) (List.getElem?_set_self (hq 9 (by decide)))) (cwV 0 hts (gw_V gw_1879 gw_1880 gw_1881 gw_16 gw_1882) rfl rfl rfl (by decide +kernel) ⟨(Nat.le_of_ble_eq_true rfl), (Nat.le_of_ble_eq_true rfl)⟩) ⟨aP.blind, va_recv hK hP (ci := 11) (q0 := 2) rfl rfl, aP.pre hE hS hPc hK hDc hFc⟩ rfl rfl hl.1 rfl (lv_room (Nat.le_of_ble_eq_true rfl)) dL_law_1604 ⟨(Nat.le_of_ble_eq_true rfl), (Nat.le_of_ble_eq_true rfl)⟩) hS (fun q _ h => hFc q h) hFc (fun r_100784 u t H1 locs ht hvm hw hB hz1 hk1 hS => ?_)
    obtain ⟨hP1, hD1⟩ := hB
    rw [ht] at hP1
    try dsimp only at hw hP1 hD1
    have w_100785 := hw
    subst w_100785
    obtain ⟨hP, hD⟩ := va_join (wr := [(h0, .inr (10, [.ref x0, .int 0, .ref x1, .ref x2, .ref x3, .ref x4, .ref x5, .ref x6, .ref x7, .ref x8, .int 0, .int 3000])), (o0, .inl (kA 1, 1, .inr (.inl (fun _ => 0))))]) (w1 := [(m0, .inr (11, (y0.set 9 (.int 1))))]) hP hD [2] [0, 1] rfl rfl (by decide) (by decide) hk1 hFc hP1 hD1
    generalize H1 = H at hP hS ⊢
    have hP : va_P D vwCl [(h0, .inr (10, [.ref x0, .int 0, .ref x1, .ref x2, .ref x3, .ref x4, .ref x5, .ref x6, .ref x7, .ref x8, .int 0, .int 3000])), (o0, .inl (kA 1, 1, .inr (.inl (fun _ => 0)))), (m0, .inr (11, (y0.set 9 (.int 1))))] H := hP
    have hD : va_D A [(h0, .inr (10, [.ref x0, .int 0, .ref x1, .ref x2, .ref x3, .ref x4, .ref x5, .ref x6, .ref x7, .ref x8, .int 0, .int 3000])), (o0, .inl (kA 1, 1, .inr (.inl (fun _ => 0)))), (m0, .inr (11, (y0.set 9 (.int 1))))] := hD
    refine lv_iload hx hb dL_law_1607 (lv_at hl 1 rfl) ?_
    refine lv_icmp_eq (tgt := 1614) hx hb dL_law_1609 (by decide) (fun c_100786 => ?_) (fun c_100786 => ?_)
    · skip
      refine lv_iload hx hb dL_law_1614 (lv_at hl 1 rfl) ?_
      refine lv_if_ne (tgt := 1630) hx hb dL_law_1616 (by decide) (fun c_100787 => ?_) (fun c_100787 => ?_)
      · skip
        refine lv_goto (tgt := 1804) hx hb dL_law_1630 (by decide) ?_
        exact lk_tail hC hA2 (lv_sub hl [2, 6] rfl) hS (Nat.le_of_ble_eq_true rfl) (Nat.le_of_ble_eq_true rfl)
      · exact absurd c_100787 (by decide)
    · exact absurd (by decide) c_100786
  · exact absurd c_7 hz.2.2.2.1
  · exact absurd c_7 hz.2.2.2.1
  · exact absurd c_7 hz.2.2.2.1
  · exact absurd c_7 hz.2.2.2.1
  · exact absurd c_7 hz.2.2.2.1
  · exact absurd c_7 hz.2.2.2.1
  · exact absurd c_7 hz.2.2.2.1
  · exact absurd c_7 hz.2.2.2.1
  · exact absurd c_7 hz.2.2.2.1
  · exact absurd c_7 hz.2.2.2.1
  · exact absurd c_7 hz.2.2.2.1
  · exact absurd c_7 hz.2.2.2.1
  · exact absurd c_7 hz.2.2.2.1
  · exact absurd c_7 hz.2.2.2.1
  · exact absurd c_7 hz.2.2.2.1
  · exact absurd c_7 hz.2.2.2.1
  · exact absurd c_7 hz.2.2.2.1
  · exact absurd c_7 hz.2.2.2.1
  · exact absurd c_7 hz.2.2.2.1
  · exact absurd c_7 hz.2.2.2.1
  · exact absurd c_7 hz.2.2.2.1
  · exact absurd c_7 hz.2.2.2.1
  · exact absurd c_7 hz.2.2.2.1
  · exact absurd c_7 hz.2.2.2.1
  · exact absurd c_7 hz.2.2.2.1
  · exact absurd c_7 hz.2.2.2.1
  · exact absurd c_7 hz.2.2.2.1
  · exact absurd c_7 hz.2.2.2.1
  · exact absurd c_7 hz.2.2.2.1
  · exact absurd c_7 hz.2.2.2.1
  · exact absurd c_7 hz.2.2.2.1
  · exact absurd c_7 hz.2.2.2.1
  · exact absurd c_7 hz.2.2.2.1
  · exact absurd c_7 hz.2.2.2.1
  · exact absurd c_7 hz.2.2.2.1
  · exact absurd c_7 hz.2.2.2.1
  · exact absurd c_7 hz.2.2.2.1
  · exact absurd c_7 hz.2.2.2.1
  · exact absurd c_7 hz.2.2.2.1
  · exact absurd c_7 hz.2.2.2.1
set_option maxHeartbeats 4000000 in
set_option maxRecDepth 100000 in
theorem lk_22_2 {p : Program} {l : Launch} {e : Env} {s : State} {m : MethodId} {below : List Frame} {meth : Method} {c : Code} {D : va_G} {kA : Nat → ClassId} {V : Nat → Nat} {b : Nat} {xs : Nat → Int32} {A : Nat → Prop} (hC : lw_C p l s m meth c b 8 xs D kA V A) (hA2 : ∀ q, A q → s.heap.size ≤ q) (h0 : Nat) (m0 : Nat) (o0 : Nat) (x0 : Nat) (x1 : Nat) (x2 : Nat) (x3 : Nat) (x4 : Nat) (x5 : Nat) (x6 : Nat) (x7 : Nat) (x8 : Nat) (y0 : List Value) (hq : ∀ k, k < 121 → k < y0.length) (hq9 : y0[9]? = some (.int 0)) (c_10 : ¬ (xs 2) < 0) (c_11 : ¬ 4 < (xs 2)) (c_12 : (xs 3) < 0) {H : Heap} {locs : List Loc} {ls : Array Slot} (hl : lv_has ls 8 [(0, .ref b), (1, .ref h0), (2, .ref m0), (3, .ref o0), (4, .int 0)]) (hS : va_S A s.heap H locs) (hP : va_P D vwCl [(m0, .inr (11, y0)), (h0, .inr (10, [.ref x0, .int 0, .ref x1, .ref x2, .ref x3, .ref x4, .ref x5, .ref x6, .ref x7, .ref x8, .int 0, .int 3000])), (o0, .inl (kA 1, 1, .inr (.inl (fun _ => 0))))] H) (hD : va_D A [(m0, .inr (11, y0)), (h0, .inr (10, [.ref x0, .int 0, .ref x1, .ref x2, .ref x3, .ref x4, .ref x5, .ref x6, .ref x7, .ref x8, .int 0, .int 3000])), (o0, .inl (kA 1, 1, .inr (.inl (fun _ => 0))))]) : W p l e room_1 s m #[Value.ref b] below meth c H locs 515 172799 (lw_Z below #[Value.ref b] s) (F0 m 1531 ls [.int 1]) := by
  have ⟨hst, hx, hb, hr, hml, hown, hts, hG, hX, hbl, hbA, hlocks, hE, hK, hA⟩ := hC
  refine lv_istore (lv' := [(5, .int 1), (0, .ref b), (1, .ref h0), (2, .ref m0), (3, .ref o0), (4, .int 0)]) hx hb dL_law_1531 hl (by decide) rfl (fun ls hl => ?_)
  refine lv_aload_n hx hb dL_law_1533 rfl (lv_at hl 3 rfl) ?_
  refine lv_aload_n hx hb dL_law_1534 rfl (lv_at hl 1 rfl) ?_
  refine lv_iload hx hb dL_law_1535 (lv_at hl 5 rfl) ?_
  refine lv_iconst (v := 1) hx hb dL_law_1537 (by decide) ?_
  refine lv_iadd hx hb dL_law_1538 ?_
  refine W.eq (g2 := F0 m 1539 ls [.int 1, .ref b, .ref m0]) rfl ?_
  refine va_sld hx hb hX hbl hbA hS (show vp_in 1 8 by unfold vp_in; decide) dL_law_1539 ?_
  refine W.eq (g2 := F0 m 1540 ls [.int (xs 1), .ref m0]) rfl ?_
  refine lv_aload_n hx hb dL_law_1540 rfl (lv_at hl 1 rfl) ?_
  refine lv_iload hx hb dL_law_1541 (lv_at hl 5 rfl) ?_
  refine lv_iconst (v := 2) hx hb dL_law_1543 (by decide) ?_
  refine lv_iadd hx hb dL_law_1544 ?_
  refine W.eq (g2 := F0 m 1545 ls [.int 2, .ref b, .int (xs 1), .ref m0]) rfl ?_
  refine va_sld hx hb hX hbl hbA hS (show vp_in 2 8 by unfold vp_in; decide) dL_law_1545 ?_
  refine W.eq (g2 := F0 m 1546 ls [.int (xs 2), .int (xs 1), .ref m0]) rfl ?_
  refine lv_aload_n hx hb dL_law_1546 rfl (lv_at hl 1 rfl) ?_
  refine lv_iload hx hb dL_law_1547 (lv_at hl 5 rfl) ?_
  refine lv_iconst (v := 3) hx hb dL_law_1549 (by decide) ?_
  refine lv_iadd hx hb dL_law_1550 ?_
  refine W.eq (g2 := F0 m 1551 ls [.int 3, .ref b, .int (xs 2), .int (xs 1), .ref m0]) rfl ?_
  refine va_sld hx hb hX hbl hbA hS (show vp_in 3 8 by unfold vp_in; decide) dL_law_1551 ?_
  refine W.eq (g2 := F0 m 1552 ls [.int (xs 3), .int (xs 2), .int (xs 1), .ref m0]) rfl ?_
  refine lv_aload_n hx hb dL_law_1552 rfl (lv_at hl 1 rfl) ?_
  refine lv_iload hx hb dL_law_1553 (lv_at hl 5 rfl) ?_
  refine lv_iconst (v := 4) hx hb dL_law_1555 (by decide) ?_
  refine lv_iadd hx hb dL_law_1556 ?_
  refine W.eq (g2 := F0 m 1557 ls [.int 4, .ref b, .int (xs 3), .int (xs 2), .int (xs 1), .ref m0]) rfl ?_
  refine va_sld hx hb hX hbl hbA hS (show vp_in 4 8 by unfold vp_in; decide) dL_law_1557 ?_
  refine W.eq (g2 := F0 m 1558 ls [.int (xs 4), .int (xs 3), .int (xs 2), .int (xs 1), .ref m0]) rfl ?_
  refine lv_i2l (v := (xs 4).toInt64) hx hb dL_law_1558 rfl ?_
  refine lv_bipush (v := 32) hx hb dL_law_1559 (by decide) ?_
  refine lv_lshl (v := ((xs 4).toInt64) <<< ((32 : Int32).toInt64 &&& 63)) hx hb dL_law_1561 rfl ?_
  refine lv_aload_n hx hb dL_law_1562 rfl (lv_at hl 1 rfl) ?_
  refine lv_iload hx hb dL_law_1563 (lv_at hl 5 rfl) ?_
  refine lv_iconst (v := 5) hx hb dL_law_1565 (by decide) ?_
  refine lv_iadd hx hb dL_law_1566 ?_
  refine W.eq (g2 := F0 m 1567 ls [.int 5, .ref b, .long (((xs 4).toInt64) <<< ((32 : Int32).toInt64 &&& 63)), .int (xs 3), .int (xs 2), .int (xs 1), .ref m0]) rfl ?_
  refine va_sld hx hb hX hbl hbA hS (show vp_in 5 8 by unfold vp_in; decide) dL_law_1567 ?_
  refine W.eq (g2 := F0 m 1568 ls [.int (xs 5), .long (((xs 4).toInt64) <<< ((32 : Int32).toInt64 &&& 63)), .int (xs 3), .int (xs 2), .int (xs 1), .ref m0]) rfl ?_
  refine lv_i2l (v := (xs 5).toInt64) hx hb dL_law_1568 rfl ?_
  refine lv_ldc2 (v := 4294967295) hx hb hown (hG _ gw_2764) dL_law_1569 ?_
  refine lv_land hx hb dL_law_1572 ?_
  refine lv_lor hx hb dL_law_1573 ?_
  refine lv_aload_n hx hb dL_law_1574 rfl (lv_at hl 1 rfl) ?_
  refine lv_iload hx hb dL_law_1575 (lv_at hl 5 rfl) ?_
  refine lv_bipush (v := 6) hx hb dL_law_1577 (by decide) ?_
  refine lv_iadd hx hb dL_law_1579 ?_
  refine W.eq (g2 := F0 m 1580 ls [.int 6, .ref b, .long ((((xs 4).toInt64) <<< ((32 : Int32).toInt64 &&& 63)) ||| (((xs 5).toInt64) &&& 4294967295)), .int (xs 3), .int (xs 2), .int (xs 1), .ref m0]) rfl ?_
  refine va_sld hx hb hX hbl hbA hS (show vp_in 6 8 by unfold vp_in; decide) dL_law_1580 ?_
  refine W.eq (g2 := F0 m 1581 ls [.int (xs 6), .long ((((xs 4).toInt64) <<< ((32 : Int32).toInt64 &&& 63)) ||| (((xs 5).toInt64) &&& 4294967295)), .int (xs 3), .int (xs 2), .int (xs 1), .ref m0]) rfl ?_
  refine lv_i2l (v := (xs 6).toInt64) hx hb dL_law_1581 rfl ?_
  refine lv_bipush (v := 32) hx hb dL_law_1582 (by decide) ?_
  refine lv_lshl (v := ((xs 6).toInt64) <<< ((32 : Int32).toInt64 &&& 63)) hx hb dL_law_1584 rfl ?_
  refine lv_aload_n hx hb dL_law_1585 rfl (lv_at hl 1 rfl) ?_
  refine lv_iload hx hb dL_law_1586 (lv_at hl 5 rfl) ?_
  refine lv_bipush (v := 7) hx hb dL_law_1588 (by decide) ?_
  refine lv_iadd hx hb dL_law_1590 ?_
  refine W.eq (g2 := F0 m 1591 ls [.int 7, .ref b, .long (((xs 6).toInt64) <<< ((32 : Int32).toInt64 &&& 63)), .long ((((xs 4).toInt64) <<< ((32 : Int32).toInt64 &&& 63)) ||| (((xs 5).toInt64) &&& 4294967295)), .int (xs 3), .int (xs 2), .int (xs 1), .ref m0]) rfl ?_
  refine va_sld hx hb hX hbl hbA hS (show vp_in 7 8 by unfold vp_in; decide) dL_law_1591 ?_
  refine W.eq (g2 := F0 m 1592 ls [.int (xs 7), .long (((xs 6).toInt64) <<< ((32 : Int32).toInt64 &&& 63)), .long ((((xs 4).toInt64) <<< ((32 : Int32).toInt64 &&& 63)) ||| (((xs 5).toInt64) &&& 4294967295)), .int (xs 3), .int (xs 2), .int (xs 1), .ref m0]) rfl ?_
  refine lv_i2l (v := (xs 7).toInt64) hx hb dL_law_1592 rfl ?_
  refine lv_ldc2 (v := 4294967295) hx hb hown (hG _ gw_2764) dL_law_1593 ?_
  refine lv_land hx hb dL_law_1596 ?_
  refine lv_lor hx hb dL_law_1597 ?_
  have hPc := hP.sub (ws' := [(m0, .inr (11, y0))]) [0] rfl
  have hDc := hD.sub (ws' := [(m0, .inr (11, y0))]) [0] (by decide) rfl
  have hFc := va_free (wc := [(m0, .inr (11, y0))]) hD hS hA [0] rfl
  refine va_calll (va_runV (As := [.int (xs 1), .int (xs 2), .int (xs 3), .long ((((xs 4).toInt64) <<< ((32 : Int32).toInt64 &&& 63)) ||| (((xs 5).toInt64) &&& 4294967295)), .long ((((xs 6).toInt64) <<< ((32 : Int32).toInt64 &&& 63)) ||| (((xs 7).toInt64) &&& 4294967295))]) (rest := []) ⟨hx, hb, hml, hown, hts⟩ (a153_X12_work l  D kA V H.size m0 (xs 1) (xs 2) (xs 3) ((((xs 4).toInt64) <<< ((32 : Int32).toInt64 &&& 63)) ||| (((xs 5).toInt64) &&& 4294967295)) ((((xs 6).toInt64) <<< ((32 : Int32).toInt64 &&& 63)) ||| (((xs 7).toInt64) &&& 4294967295)) y0 (fun k hk => (hq k hk)) hq9) (cwV 5 hts (gw_V gw_2756 gw_2757 gw_2758 gw_16 gw_2759) rfl rfl rfl (by decide +kernel) ⟨(Nat.le_of_ble_eq_true rfl), (Nat.le_of_ble_eq_true rfl)⟩) ⟨aP.blind, va_recv hK hP (ci := 11) (q0 := 0) rfl rfl, aP.pre hE hS hPc hK hDc hFc⟩ rfl rfl hl.1 rfl (lv_room (Nat.le_of_ble_eq_true rfl)) dL_law_1598 ⟨(Nat.le_of_ble_eq_true rfl), (Nat.le_of_ble_eq_true rfl)⟩) hS (fun q _ h => hFc q h) hFc (fun r_100001 u t H1 locs ht hvm hw hB hz1 hk1 hS => ?_)
  obtain ⟨u_100002, rfl⟩ : ∃ z, z = u := ⟨u, rfl⟩
  obtain ⟨hP1, hD1⟩ := hB
  rw [ht] at hP1
  try dsimp only at hw hP1 hD1
  rcases hw with hz | hz | hz | hz | hz | hz | hz | hz | hz | hz | hz | hz | hz | hz | hz | hz | hz | hz | hz | hz | hz | hz | hz | hz | hz | hz | hz | hz | hz | hz | hz | hz | hz | hz | hz | hz | hz | hz | hz | hz | hz | hz | hz | hz | hz | hz | hz | hz | hz | hz | hz | hz
  · exact absurd hz.2.1 c_10
  · exact absurd hz.2.2.1 c_11
  · obtain ⟨c_100012, c_100013, c_100014, c_100015, w_100016, w_100017⟩ := hz
    subst w_100016
    subst w_100017
    obtain ⟨hP, hD⟩ := va_join (wr := [(h0, .inr (10, [.ref x0, .int 0, .ref x1, .ref x2, .ref x3, .ref x4, .ref x5, .ref x6, .ref x7, .ref x8, .int 0, .int 3000])), (o0, .inl (kA 1, 1, .inr (.inl (fun _ => 0))))]) (w1 := [(m0, .inr (11, y0.set 9 (.int 1)))]) hP hD [0] [1, 2] rfl rfl (by decide) (by decide) hk1 hFc hP1 hD1
    generalize H1 = H at hP hS ⊢
    have hP : va_P D vwCl [(h0, .inr (10, [.ref x0, .int 0, .ref x1, .ref x2, .ref x3, .ref x4, .ref x5, .ref x6, .ref x7, .ref x8, .int 0, .int 3000])), (o0, .inl (kA 1, 1, .inr (.inl (fun _ => 0)))), (m0, .inr (11, y0.set 9 (.int 1)))] H := hP
    have hD : va_D A [(h0, .inr (10, [.ref x0, .int 0, .ref x1, .ref x2, .ref x3, .ref x4, .ref x5, .ref x6, .ref x7, .ref x8, .int 0, .int 3000])), (o0, .inl (kA 1, 1, .inr (.inl (fun _ => 0)))), (m0, .inr (11, y0.set 9 (.int 1)))] := hD
    refine lv_lstore (lv' := [(6, .long 0), (5, .int 1), (0, .ref b), (1, .ref h0), (2, .ref m0), (3, .ref o0), (4, .int 0)]) hx hb dL_law_1601 hl (by decide) rfl (fun ls hl => ?_)
    refine lv_aload_n hx hb dL_law_1603 rfl (lv_at hl 4 rfl) ?_
    have hPc := hP.sub (ws' := [(m0, .inr (11, y0.set 9 (.int 1)))]) [2] rfl
    have hDc := hD.sub (ws' := [(m0, .inr (11, y0.set 9 (.int 1)))]) [2] (by decide) rfl
    have hFc := va_free (wc := [(m0, .inr (11, y0.set 9 (.int 1)))]) hD hS hA [2] rfl
    refine va_calli (va_runV (As := []) (rest := []) ⟨hx, hb, hml, hown, hts⟩ (a174_X12_thrown l  D kA V H.size m0 (y0.set 9 (.int 1)) (fun k hk => (by rw [List.length_set]; exact (hq k hk))) (List.getElem?_set_self (hq 9 (by decide)))) (cwV 0 hts (gw_V gw_1879 gw_1880 gw_1881 gw_16 gw_1882) rfl rfl rfl (by decide +kernel) ⟨(Nat.le_of_ble_eq_true rfl), (Nat.le_of_ble_eq_true rfl)⟩) ⟨aP.blind, va_recv hK hP (ci := 11) (q0 := 2) rfl rfl, aP.pre hE hS hPc hK hDc hFc⟩ rfl rfl hl.1 rfl (lv_room (Nat.le_of_ble_eq_true rfl)) dL_law_1604 ⟨(Nat.le_of_ble_eq_true rfl), (Nat.le_of_ble_eq_true rfl)⟩) hS (fun q _ h => hFc q h) hFc (fun r_100776 u t H1 locs ht hvm hw hB hz1 hk1 hS => ?_)
    obtain ⟨hP1, hD1⟩ := hB
    rw [ht] at hP1
    try dsimp only at hw hP1 hD1
    have w_100777 := hw
    subst w_100777
    obtain ⟨hP, hD⟩ := va_join (wr := [(h0, .inr (10, [.ref x0, .int 0, .ref x1, .ref x2, .ref x3, .ref x4, .ref x5, .ref x6, .ref x7, .ref x8, .int 0, .int 3000])), (o0, .inl (kA 1, 1, .inr (.inl (fun _ => 0))))]) (w1 := [(m0, .inr (11, (y0.set 9 (.int 1))))]) hP hD [2] [0, 1] rfl rfl (by decide) (by decide) hk1 hFc hP1 hD1
    generalize H1 = H at hP hS ⊢
    have hP : va_P D vwCl [(h0, .inr (10, [.ref x0, .int 0, .ref x1, .ref x2, .ref x3, .ref x4, .ref x5, .ref x6, .ref x7, .ref x8, .int 0, .int 3000])), (o0, .inl (kA 1, 1, .inr (.inl (fun _ => 0)))), (m0, .inr (11, (y0.set 9 (.int 1))))] H := hP
    have hD : va_D A [(h0, .inr (10, [.ref x0, .int 0, .ref x1, .ref x2, .ref x3, .ref x4, .ref x5, .ref x6, .ref x7, .ref x8, .int 0, .int 3000])), (o0, .inl (kA 1, 1, .inr (.inl (fun _ => 0)))), (m0, .inr (11, (y0.set 9 (.int 1))))] := hD
    refine lv_iload hx hb dL_law_1607 (lv_at hl 1 rfl) ?_
    refine lv_icmp_eq (tgt := 1614) hx hb dL_law_1609 (by decide) (fun c_100778 => ?_) (fun c_100778 => ?_)
    · skip
      refine lv_iload hx hb dL_law_1614 (lv_at hl 1 rfl) ?_
      refine lv_if_ne (tgt := 1630) hx hb dL_law_1616 (by decide) (fun c_100779 => ?_) (fun c_100779 => ?_)
      · skip
        refine lv_goto (tgt := 1804) hx hb dL_law_1630 (by decide) ?_
        exact lk_tail hC hA2 (lv_sub hl [2, 6] rfl) hS (Nat.le_of_ble_eq_true rfl) (Nat.le_of_ble_eq_true rfl)
      · exact absurd c_100779 (by decide)
    · exact absurd (by decide) c_100778
  · exact absurd c_12 hz.2.2.2.1
  · exact absurd c_12 hz.2.2.2.1
  · exact absurd hz.2.2.1 c_10
  · exact absurd hz.2.2.2.1 c_11
  · obtain ⟨c_100043, c_100044, c_100045, c_100046, c_100047, w_100048, w_100049⟩ := hz
    subst w_100048
    subst w_100049
    obtain ⟨hP, hD⟩ := va_join (wr := [(h0, .inr (10, [.ref x0, .int 0, .ref x1, .ref x2, .ref x3, .ref x4, .ref x5, .ref x6, .ref x7, .ref x8, .int 0, .int 3000])), (o0, .inl (kA 1, 1, .inr (.inl (fun _ => 0))))]) (w1 := [(m0, .inr (11, y0.set 9 (.int 1)))]) hP hD [0] [1, 2] rfl rfl (by decide) (by decide) hk1 hFc hP1 hD1
    generalize H1 = H at hP hS ⊢
    have hP : va_P D vwCl [(h0, .inr (10, [.ref x0, .int 0, .ref x1, .ref x2, .ref x3, .ref x4, .ref x5, .ref x6, .ref x7, .ref x8, .int 0, .int 3000])), (o0, .inl (kA 1, 1, .inr (.inl (fun _ => 0)))), (m0, .inr (11, y0.set 9 (.int 1)))] H := hP
    have hD : va_D A [(h0, .inr (10, [.ref x0, .int 0, .ref x1, .ref x2, .ref x3, .ref x4, .ref x5, .ref x6, .ref x7, .ref x8, .int 0, .int 3000])), (o0, .inl (kA 1, 1, .inr (.inl (fun _ => 0)))), (m0, .inr (11, y0.set 9 (.int 1)))] := hD
    refine lv_lstore (lv' := [(6, .long 0), (5, .int 1), (0, .ref b), (1, .ref h0), (2, .ref m0), (3, .ref o0), (4, .int 0)]) hx hb dL_law_1601 hl (by decide) rfl (fun ls hl => ?_)
    refine lv_aload_n hx hb dL_law_1603 rfl (lv_at hl 4 rfl) ?_
    have hPc := hP.sub (ws' := [(m0, .inr (11, y0.set 9 (.int 1)))]) [2] rfl
    have hDc := hD.sub (ws' := [(m0, .inr (11, y0.set 9 (.int 1)))]) [2] (by decide) rfl
    have hFc := va_free (wc := [(m0, .inr (11, y0.set 9 (.int 1)))]) hD hS hA [2] rfl
    refine va_calli (va_runV (As := []) (rest := []) ⟨hx, hb, hml, hown, hts⟩ (a174_X12_thrown l  D kA V H.size m0 (y0.set 9 (.int 1)) (fun k hk => (by rw [List.length_set]; exact (hq k hk))) (List.getElem?_set_self (hq 9 (by decide)))) (cwV 0 hts (gw_V gw_1879 gw_1880 gw_1881 gw_16 gw_1882) rfl rfl rfl (by decide +kernel) ⟨(Nat.le_of_ble_eq_true rfl), (Nat.le_of_ble_eq_true rfl)⟩) ⟨aP.blind, va_recv hK hP (ci := 11) (q0 := 2) rfl rfl, aP.pre hE hS hPc hK hDc hFc⟩ rfl rfl hl.1 rfl (lv_room (Nat.le_of_ble_eq_true rfl)) dL_law_1604 ⟨(Nat.le_of_ble_eq_true rfl), (Nat.le_of_ble_eq_true rfl)⟩) hS (fun q _ h => hFc q h) hFc (fun r_100780 u t H1 locs ht hvm hw hB hz1 hk1 hS => ?_)
    obtain ⟨hP1, hD1⟩ := hB
    rw [ht] at hP1
    try dsimp only at hw hP1 hD1
    have w_100781 := hw
    subst w_100781
    obtain ⟨hP, hD⟩ := va_join (wr := [(h0, .inr (10, [.ref x0, .int 0, .ref x1, .ref x2, .ref x3, .ref x4, .ref x5, .ref x6, .ref x7, .ref x8, .int 0, .int 3000])), (o0, .inl (kA 1, 1, .inr (.inl (fun _ => 0))))]) (w1 := [(m0, .inr (11, (y0.set 9 (.int 1))))]) hP hD [2] [0, 1] rfl rfl (by decide) (by decide) hk1 hFc hP1 hD1
    generalize H1 = H at hP hS ⊢
    have hP : va_P D vwCl [(h0, .inr (10, [.ref x0, .int 0, .ref x1, .ref x2, .ref x3, .ref x4, .ref x5, .ref x6, .ref x7, .ref x8, .int 0, .int 3000])), (o0, .inl (kA 1, 1, .inr (.inl (fun _ => 0)))), (m0, .inr (11, (y0.set 9 (.int 1))))] H := hP
    have hD : va_D A [(h0, .inr (10, [.ref x0, .int 0, .ref x1, .ref x2, .ref x3, .ref x4, .ref x5, .ref x6, .ref x7, .ref x8, .int 0, .int 3000])), (o0, .inl (kA 1, 1, .inr (.inl (fun _ => 0)))), (m0, .inr (11, (y0.set 9 (.int 1))))] := hD
    refine lv_iload hx hb dL_law_1607 (lv_at hl 1 rfl) ?_
    refine lv_icmp_eq (tgt := 1614) hx hb dL_law_1609 (by decide) (fun c_100782 => ?_) (fun c_100782 => ?_)
    · skip
      refine lv_iload hx hb dL_law_1614 (lv_at hl 1 rfl) ?_
      refine lv_if_ne (tgt := 1630) hx hb dL_law_1616 (by decide) (fun c_100783 => ?_) (fun c_100783 => ?_)
      · skip
        refine lv_goto (tgt := 1804) hx hb dL_law_1630 (by decide) ?_
        exact lk_tail hC hA2 (lv_sub hl [2, 6] rfl) hS (Nat.le_of_ble_eq_true rfl) (Nat.le_of_ble_eq_true rfl)
      · exact absurd c_100783 (by decide)
    · exact absurd (by decide) c_100782
  · exact absurd c_12 hz.2.2.2.2.1
  · exact absurd c_12 hz.2.2.2.2.1
  · exact absurd hz.2.2.1 c_10
  · exact absurd hz.2.2.2.1 c_11
  · obtain ⟨c_100077, c_100078, c_100079, c_100080, c_100081, w_100082, w_100083⟩ := hz
    subst w_100082
    subst w_100083
    obtain ⟨hP, hD⟩ := va_join (wr := [(h0, .inr (10, [.ref x0, .int 0, .ref x1, .ref x2, .ref x3, .ref x4, .ref x5, .ref x6, .ref x7, .ref x8, .int 0, .int 3000])), (o0, .inl (kA 1, 1, .inr (.inl (fun _ => 0))))]) (w1 := [(m0, .inr (11, y0.set 9 (.int 1)))]) hP hD [0] [1, 2] rfl rfl (by decide) (by decide) hk1 hFc hP1 hD1
    generalize H1 = H at hP hS ⊢
    have hP : va_P D vwCl [(h0, .inr (10, [.ref x0, .int 0, .ref x1, .ref x2, .ref x3, .ref x4, .ref x5, .ref x6, .ref x7, .ref x8, .int 0, .int 3000])), (o0, .inl (kA 1, 1, .inr (.inl (fun _ => 0)))), (m0, .inr (11, y0.set 9 (.int 1)))] H := hP
    have hD : va_D A [(h0, .inr (10, [.ref x0, .int 0, .ref x1, .ref x2, .ref x3, .ref x4, .ref x5, .ref x6, .ref x7, .ref x8, .int 0, .int 3000])), (o0, .inl (kA 1, 1, .inr (.inl (fun _ => 0)))), (m0, .inr (11, y0.set 9 (.int 1)))] := hD
    refine lv_lstore (lv' := [(6, .long 0), (5, .int 1), (0, .ref b), (1, .ref h0), (2, .ref m0), (3, .ref o0), (4, .int 0)]) hx hb dL_law_1601 hl (by decide) rfl (fun ls hl => ?_)
    refine lv_aload_n hx hb dL_law_1603 rfl (lv_at hl 4 rfl) ?_
    have hPc := hP.sub (ws' := [(m0, .inr (11, y0.set 9 (.int 1)))]) [2] rfl
    have hDc := hD.sub (ws' := [(m0, .inr (11, y0.set 9 (.int 1)))]) [2] (by decide) rfl
    have hFc := va_free (wc := [(m0, .inr (11, y0.set 9 (.int 1)))]) hD hS hA [2] rfl
    refine va_calli (va_runV (As := []) (rest := []) ⟨hx, hb, hml, hown, hts⟩ (a174_X12_thrown l  D kA V H.size m0 (y0.set 9 (.int 1)) (fun k hk => (by rw [List.length_set]; exact (hq k hk))) (List.getElem?_set_self (hq 9 (by decide)))) (cwV 0 hts (gw_V gw_1879 gw_1880 gw_1881 gw_16 gw_1882) rfl rfl rfl (by decide +kernel) ⟨(Nat.le_of_ble_eq_true rfl), (Nat.le_of_ble_eq_true rfl)⟩) ⟨aP.blind, va_recv hK hP (ci := 11) (q0 := 2) rfl rfl, aP.pre hE hS hPc hK hDc hFc⟩ rfl rfl hl.1 rfl (lv_room (Nat.le_of_ble_eq_true rfl)) dL_law_1604 ⟨(Nat.le_of_ble_eq_true rfl), (Nat.le_of_ble_eq_true rfl)⟩) hS (fun q _ h => hFc q h) hFc (fun r_100784 u t H1 locs ht hvm hw hB hz1 hk1 hS => ?_)
    obtain ⟨hP1, hD1⟩ := hB
    rw [ht] at hP1
    try dsimp only at hw hP1 hD1
    have w_100785 := hw
    subst w_100785
    obtain ⟨hP, hD⟩ := va_join (wr := [(h0, .inr (10, [.ref x0, .int 0, .ref x1, .ref x2, .ref x3, .ref x4, .ref x5, .ref x6, .ref x7, .ref x8, .int 0, .int 3000])), (o0, .inl (kA 1, 1, .inr (.inl (fun _ => 0))))]) (w1 := [(m0, .inr (11, (y0.set 9 (.int 1))))]) hP hD [2] [0, 1] rfl rfl (by decide) (by decide) hk1 hFc hP1 hD1
    generalize H1 = H at hP hS ⊢
    have hP : va_P D vwCl [(h0, .inr (10, [.ref x0, .int 0, .ref x1, .ref x2, .ref x3, .ref x4, .ref x5, .ref x6, .ref x7, .ref x8, .int 0, .int 3000])), (o0, .inl (kA 1, 1, .inr (.inl (fun _ => 0)))), (m0, .inr (11, (y0.set 9 (.int 1))))] H := hP
    have hD : va_D A [(h0, .inr (10, [.ref x0, .int 0, .ref x1, .ref x2, .ref x3, .ref x4, .ref x5, .ref x6, .ref x7, .ref x8, .int 0, .int 3000])), (o0, .inl (kA 1, 1, .inr (.inl (fun _ => 0)))), (m0, .inr (11, (y0.set 9 (.int 1))))] := hD
    refine lv_iload hx hb dL_law_1607 (lv_at hl 1 rfl) ?_
    refine lv_icmp_eq (tgt := 1614) hx hb dL_law_1609 (by decide) (fun c_100786 => ?_) (fun c_100786 => ?_)
    · skip
      refine lv_iload hx hb dL_law_1614 (lv_at hl 1 rfl) ?_
      refine lv_if_ne (tgt := 1630) hx hb dL_law_1616 (by decide) (fun c_100787 => ?_) (fun c_100787 => ?_)
      · skip
        refine lv_goto (tgt := 1804) hx hb dL_law_1630 (by decide) ?_
        exact lk_tail hC hA2 (lv_sub hl [2, 6] rfl) hS (Nat.le_of_ble_eq_true rfl) (Nat.le_of_ble_eq_true rfl)
      · exact absurd c_100787 (by decide)
    · exact absurd (by decide) c_100786
  · exact absurd c_12 hz.2.2.2.2.1
  · exact absurd c_12 hz.2.2.2.2.1
  · exact absurd c_12 hz.2.2.2.2.1
  · exact absurd c_12 hz.2.2.2.2.1
  · exact absurd c_12 hz.2.2.2.2.1
  · exact absurd c_12 hz.2.2.2.2.1
  · exact absurd c_12 hz.2.2.2.2.1
  · exact absurd c_12 hz.2.2.2.2.1
  · exact absurd c_12 hz.2.2.2.2.1
  · exact absurd c_12 hz.2.2.2.2.1
  · exact absurd c_12 hz.2.2.2.2.1
  · exact absurd c_12 hz.2.2.2.2.1
  · exact absurd c_12 hz.2.2.2.2.1
  · exact absurd c_12 hz.2.2.2.2.1
  · exact absurd c_12 hz.2.2.2.2.1
  · exact absurd c_12 hz.2.2.2.2.1
  · exact absurd c_12 hz.2.2.2.2.1
  · exact absurd c_12 hz.2.2.2.2.1
  · exact absurd c_12 hz.2.2.2.2.1
  · exact absurd c_12 hz.2.2.2.2.1
  · exact absurd c_12 hz.2.2.2.2.1
  · exact absurd c_12 hz.2.2.2.2.1
  · exact absurd c_12 hz.2.2.2.2.1
  · exact absurd c_12 hz.2.2.2.2.1
  · exact absurd c_12 hz.2.2.2.2.1
  · exact absurd c_12 hz.2.2.2.2.1
  · exact absurd c_12 hz.2.2.2.2.1
  · exact absurd c_12 hz.2.2.2.2.1
  · exact absurd c_12 hz.2.2.2.2.1
  · exact absurd c_12 hz.2.2.2.2.1
  · exact absurd c_12 hz.2.2.2.2.1
  · exact absurd c_12 hz.2.2.2.2.1
  · exact absurd c_12 hz.2.2.2.2.1
  · exact absurd c_12 hz.2.2.2.2.1
  · exact absurd c_12 hz.2.2.2.2.1
  · exact absurd c_12 hz.2.2.2.2.1
  · exact absurd c_12 hz.2.2.2.2.1
  · exact absurd c_12 hz.2.2.2.2.1
  · exact absurd c_12 hz.2.2.2.2.1
set_option maxHeartbeats 4000000 in
set_option maxRecDepth 100000 in
theorem lk_22_3 {p : Program} {l : Launch} {e : Env} {s : State} {m : MethodId} {below : List Frame} {meth : Method} {c : Code} {D : va_G} {kA : Nat → ClassId} {V : Nat → Nat} {b : Nat} {xs : Nat → Int32} {A : Nat → Prop} (hC : lw_C p l s m meth c b 8 xs D kA V A) (hA2 : ∀ q, A q → s.heap.size ≤ q) (h0 : Nat) (m0 : Nat) (o0 : Nat) (x0 : Nat) (x1 : Nat) (x2 : Nat) (x3 : Nat) (x4 : Nat) (x5 : Nat) (x6 : Nat) (x7 : Nat) (x8 : Nat) (y0 : List Value) (hq : ∀ k, k < 121 → k < y0.length) (hq9 : y0[9]? = some (.int 0)) (c_15 : ¬ (xs 2) < 0) (c_16 : ¬ 4 < (xs 2)) (c_17 : ¬ (xs 3) < 0) (c_18 : 4 < (xs 3)) {H : Heap} {locs : List Loc} {ls : Array Slot} (hl : lv_has ls 8 [(0, .ref b), (1, .ref h0), (2, .ref m0), (3, .ref o0), (4, .int 0)]) (hS : va_S A s.heap H locs) (hP : va_P D vwCl [(m0, .inr (11, y0)), (h0, .inr (10, [.ref x0, .int 0, .ref x1, .ref x2, .ref x3, .ref x4, .ref x5, .ref x6, .ref x7, .ref x8, .int 0, .int 3000])), (o0, .inl (kA 1, 1, .inr (.inl (fun _ => 0))))] H) (hD : va_D A [(m0, .inr (11, y0)), (h0, .inr (10, [.ref x0, .int 0, .ref x1, .ref x2, .ref x3, .ref x4, .ref x5, .ref x6, .ref x7, .ref x8, .int 0, .int 3000])), (o0, .inl (kA 1, 1, .inr (.inl (fun _ => 0))))]) : W p l e room_1 s m #[Value.ref b] below meth c H locs 515 172799 (lw_Z below #[Value.ref b] s) (F0 m 1531 ls [.int 1]) := by
  have ⟨hst, hx, hb, hr, hml, hown, hts, hG, hX, hbl, hbA, hlocks, hE, hK, hA⟩ := hC
  refine lv_istore (lv' := [(5, .int 1), (0, .ref b), (1, .ref h0), (2, .ref m0), (3, .ref o0), (4, .int 0)]) hx hb dL_law_1531 hl (by decide) rfl (fun ls hl => ?_)
  refine lv_aload_n hx hb dL_law_1533 rfl (lv_at hl 3 rfl) ?_
  refine lv_aload_n hx hb dL_law_1534 rfl (lv_at hl 1 rfl) ?_
  refine lv_iload hx hb dL_law_1535 (lv_at hl 5 rfl) ?_
  refine lv_iconst (v := 1) hx hb dL_law_1537 (by decide) ?_
  refine lv_iadd hx hb dL_law_1538 ?_
  refine W.eq (g2 := F0 m 1539 ls [.int 1, .ref b, .ref m0]) rfl ?_
  refine va_sld hx hb hX hbl hbA hS (show vp_in 1 8 by unfold vp_in; decide) dL_law_1539 ?_
  refine W.eq (g2 := F0 m 1540 ls [.int (xs 1), .ref m0]) rfl ?_
  refine lv_aload_n hx hb dL_law_1540 rfl (lv_at hl 1 rfl) ?_
  refine lv_iload hx hb dL_law_1541 (lv_at hl 5 rfl) ?_
  refine lv_iconst (v := 2) hx hb dL_law_1543 (by decide) ?_
  refine lv_iadd hx hb dL_law_1544 ?_
  refine W.eq (g2 := F0 m 1545 ls [.int 2, .ref b, .int (xs 1), .ref m0]) rfl ?_
  refine va_sld hx hb hX hbl hbA hS (show vp_in 2 8 by unfold vp_in; decide) dL_law_1545 ?_
  refine W.eq (g2 := F0 m 1546 ls [.int (xs 2), .int (xs 1), .ref m0]) rfl ?_
  refine lv_aload_n hx hb dL_law_1546 rfl (lv_at hl 1 rfl) ?_
  refine lv_iload hx hb dL_law_1547 (lv_at hl 5 rfl) ?_
  refine lv_iconst (v := 3) hx hb dL_law_1549 (by decide) ?_
  refine lv_iadd hx hb dL_law_1550 ?_
  refine W.eq (g2 := F0 m 1551 ls [.int 3, .ref b, .int (xs 2), .int (xs 1), .ref m0]) rfl ?_
  refine va_sld hx hb hX hbl hbA hS (show vp_in 3 8 by unfold vp_in; decide) dL_law_1551 ?_
  refine W.eq (g2 := F0 m 1552 ls [.int (xs 3), .int (xs 2), .int (xs 1), .ref m0]) rfl ?_
  refine lv_aload_n hx hb dL_law_1552 rfl (lv_at hl 1 rfl) ?_
  refine lv_iload hx hb dL_law_1553 (lv_at hl 5 rfl) ?_
  refine lv_iconst (v := 4) hx hb dL_law_1555 (by decide) ?_
  refine lv_iadd hx hb dL_law_1556 ?_
  refine W.eq (g2 := F0 m 1557 ls [.int 4, .ref b, .int (xs 3), .int (xs 2), .int (xs 1), .ref m0]) rfl ?_
  refine va_sld hx hb hX hbl hbA hS (show vp_in 4 8 by unfold vp_in; decide) dL_law_1557 ?_
  refine W.eq (g2 := F0 m 1558 ls [.int (xs 4), .int (xs 3), .int (xs 2), .int (xs 1), .ref m0]) rfl ?_
  refine lv_i2l (v := (xs 4).toInt64) hx hb dL_law_1558 rfl ?_
  refine lv_bipush (v := 32) hx hb dL_law_1559 (by decide) ?_
  refine lv_lshl (v := ((xs 4).toInt64) <<< ((32 : Int32).toInt64 &&& 63)) hx hb dL_law_1561 rfl ?_
  refine lv_aload_n hx hb dL_law_1562 rfl (lv_at hl 1 rfl) ?_
  refine lv_iload hx hb dL_law_1563 (lv_at hl 5 rfl) ?_
  refine lv_iconst (v := 5) hx hb dL_law_1565 (by decide) ?_
  refine lv_iadd hx hb dL_law_1566 ?_
  refine W.eq (g2 := F0 m 1567 ls [.int 5, .ref b, .long (((xs 4).toInt64) <<< ((32 : Int32).toInt64 &&& 63)), .int (xs 3), .int (xs 2), .int (xs 1), .ref m0]) rfl ?_
  refine va_sld hx hb hX hbl hbA hS (show vp_in 5 8 by unfold vp_in; decide) dL_law_1567 ?_
  refine W.eq (g2 := F0 m 1568 ls [.int (xs 5), .long (((xs 4).toInt64) <<< ((32 : Int32).toInt64 &&& 63)), .int (xs 3), .int (xs 2), .int (xs 1), .ref m0]) rfl ?_
  refine lv_i2l (v := (xs 5).toInt64) hx hb dL_law_1568 rfl ?_
  refine lv_ldc2 (v := 4294967295) hx hb hown (hG _ gw_2764) dL_law_1569 ?_
  refine lv_land hx hb dL_law_1572 ?_
  refine lv_lor hx hb dL_law_1573 ?_
  refine lv_aload_n hx hb dL_law_1574 rfl (lv_at hl 1 rfl) ?_
  refine lv_iload hx hb dL_law_1575 (lv_at hl 5 rfl) ?_
  refine lv_bipush (v := 6) hx hb dL_law_1577 (by decide) ?_
  refine lv_iadd hx hb dL_law_1579 ?_
  refine W.eq (g2 := F0 m 1580 ls [.int 6, .ref b, .long ((((xs 4).toInt64) <<< ((32 : Int32).toInt64 &&& 63)) ||| (((xs 5).toInt64) &&& 4294967295)), .int (xs 3), .int (xs 2), .int (xs 1), .ref m0]) rfl ?_
  refine va_sld hx hb hX hbl hbA hS (show vp_in 6 8 by unfold vp_in; decide) dL_law_1580 ?_
  refine W.eq (g2 := F0 m 1581 ls [.int (xs 6), .long ((((xs 4).toInt64) <<< ((32 : Int32).toInt64 &&& 63)) ||| (((xs 5).toInt64) &&& 4294967295)), .int (xs 3), .int (xs 2), .int (xs 1), .ref m0]) rfl ?_
  refine lv_i2l (v := (xs 6).toInt64) hx hb dL_law_1581 rfl ?_
  refine lv_bipush (v := 32) hx hb dL_law_1582 (by decide) ?_
  refine lv_lshl (v := ((xs 6).toInt64) <<< ((32 : Int32).toInt64 &&& 63)) hx hb dL_law_1584 rfl ?_
  refine lv_aload_n hx hb dL_law_1585 rfl (lv_at hl 1 rfl) ?_
  refine lv_iload hx hb dL_law_1586 (lv_at hl 5 rfl) ?_
  refine lv_bipush (v := 7) hx hb dL_law_1588 (by decide) ?_
  refine lv_iadd hx hb dL_law_1590 ?_
  refine W.eq (g2 := F0 m 1591 ls [.int 7, .ref b, .long (((xs 6).toInt64) <<< ((32 : Int32).toInt64 &&& 63)), .long ((((xs 4).toInt64) <<< ((32 : Int32).toInt64 &&& 63)) ||| (((xs 5).toInt64) &&& 4294967295)), .int (xs 3), .int (xs 2), .int (xs 1), .ref m0]) rfl ?_
  refine va_sld hx hb hX hbl hbA hS (show vp_in 7 8 by unfold vp_in; decide) dL_law_1591 ?_
  refine W.eq (g2 := F0 m 1592 ls [.int (xs 7), .long (((xs 6).toInt64) <<< ((32 : Int32).toInt64 &&& 63)), .long ((((xs 4).toInt64) <<< ((32 : Int32).toInt64 &&& 63)) ||| (((xs 5).toInt64) &&& 4294967295)), .int (xs 3), .int (xs 2), .int (xs 1), .ref m0]) rfl ?_
  refine lv_i2l (v := (xs 7).toInt64) hx hb dL_law_1592 rfl ?_
  refine lv_ldc2 (v := 4294967295) hx hb hown (hG _ gw_2764) dL_law_1593 ?_
  refine lv_land hx hb dL_law_1596 ?_
  refine lv_lor hx hb dL_law_1597 ?_
  have hPc := hP.sub (ws' := [(m0, .inr (11, y0))]) [0] rfl
  have hDc := hD.sub (ws' := [(m0, .inr (11, y0))]) [0] (by decide) rfl
  have hFc := va_free (wc := [(m0, .inr (11, y0))]) hD hS hA [0] rfl
  refine va_calll (va_runV (As := [.int (xs 1), .int (xs 2), .int (xs 3), .long ((((xs 4).toInt64) <<< ((32 : Int32).toInt64 &&& 63)) ||| (((xs 5).toInt64) &&& 4294967295)), .long ((((xs 6).toInt64) <<< ((32 : Int32).toInt64 &&& 63)) ||| (((xs 7).toInt64) &&& 4294967295))]) (rest := []) ⟨hx, hb, hml, hown, hts⟩ (a153_X12_work l  D kA V H.size m0 (xs 1) (xs 2) (xs 3) ((((xs 4).toInt64) <<< ((32 : Int32).toInt64 &&& 63)) ||| (((xs 5).toInt64) &&& 4294967295)) ((((xs 6).toInt64) <<< ((32 : Int32).toInt64 &&& 63)) ||| (((xs 7).toInt64) &&& 4294967295)) y0 (fun k hk => (hq k hk)) hq9) (cwV 5 hts (gw_V gw_2756 gw_2757 gw_2758 gw_16 gw_2759) rfl rfl rfl (by decide +kernel) ⟨(Nat.le_of_ble_eq_true rfl), (Nat.le_of_ble_eq_true rfl)⟩) ⟨aP.blind, va_recv hK hP (ci := 11) (q0 := 0) rfl rfl, aP.pre hE hS hPc hK hDc hFc⟩ rfl rfl hl.1 rfl (lv_room (Nat.le_of_ble_eq_true rfl)) dL_law_1598 ⟨(Nat.le_of_ble_eq_true rfl), (Nat.le_of_ble_eq_true rfl)⟩) hS (fun q _ h => hFc q h) hFc (fun r_100001 u t H1 locs ht hvm hw hB hz1 hk1 hS => ?_)
  obtain ⟨u_100002, rfl⟩ : ∃ z, z = u := ⟨u, rfl⟩
  obtain ⟨hP1, hD1⟩ := hB
  rw [ht] at hP1
  try dsimp only at hw hP1 hD1
  rcases hw with hz | hz | hz | hz | hz | hz | hz | hz | hz | hz | hz | hz | hz | hz | hz | hz | hz | hz | hz | hz | hz | hz | hz | hz | hz | hz | hz | hz | hz | hz | hz | hz | hz | hz | hz | hz | hz | hz | hz | hz | hz | hz | hz | hz | hz | hz | hz | hz | hz | hz | hz | hz
  · exact absurd hz.2.1 c_15
  · exact absurd hz.2.2.1 c_16
  · exact absurd hz.2.2.2.1 c_17
  · obtain ⟨c_100018, c_100019, c_100020, c_100021, c_100022, w_100023, w_100024⟩ := hz
    subst w_100023
    subst w_100024
    obtain ⟨hP, hD⟩ := va_join (wr := [(h0, .inr (10, [.ref x0, .int 0, .ref x1, .ref x2, .ref x3, .ref x4, .ref x5, .ref x6, .ref x7, .ref x8, .int 0, .int 3000])), (o0, .inl (kA 1, 1, .inr (.inl (fun _ => 0))))]) (w1 := [(m0, .inr (11, y0.set 9 (.int 1)))]) hP hD [0] [1, 2] rfl rfl (by decide) (by decide) hk1 hFc hP1 hD1
    generalize H1 = H at hP hS ⊢
    have hP : va_P D vwCl [(h0, .inr (10, [.ref x0, .int 0, .ref x1, .ref x2, .ref x3, .ref x4, .ref x5, .ref x6, .ref x7, .ref x8, .int 0, .int 3000])), (o0, .inl (kA 1, 1, .inr (.inl (fun _ => 0)))), (m0, .inr (11, y0.set 9 (.int 1)))] H := hP
    have hD : va_D A [(h0, .inr (10, [.ref x0, .int 0, .ref x1, .ref x2, .ref x3, .ref x4, .ref x5, .ref x6, .ref x7, .ref x8, .int 0, .int 3000])), (o0, .inl (kA 1, 1, .inr (.inl (fun _ => 0)))), (m0, .inr (11, y0.set 9 (.int 1)))] := hD
    refine lv_lstore (lv' := [(6, .long 0), (5, .int 1), (0, .ref b), (1, .ref h0), (2, .ref m0), (3, .ref o0), (4, .int 0)]) hx hb dL_law_1601 hl (by decide) rfl (fun ls hl => ?_)
    refine lv_aload_n hx hb dL_law_1603 rfl (lv_at hl 4 rfl) ?_
    have hPc := hP.sub (ws' := [(m0, .inr (11, y0.set 9 (.int 1)))]) [2] rfl
    have hDc := hD.sub (ws' := [(m0, .inr (11, y0.set 9 (.int 1)))]) [2] (by decide) rfl
    have hFc := va_free (wc := [(m0, .inr (11, y0.set 9 (.int 1)))]) hD hS hA [2] rfl
    refine va_calli (va_runV (As := []) (rest := []) ⟨hx, hb, hml, hown, hts⟩ (a174_X12_thrown l  D kA V H.size m0 (y0.set 9 (.int 1)) (fun k hk => (by rw [List.length_set]; exact (hq k hk))) (List.getElem?_set_self (hq 9 (by decide)))) (cwV 0 hts (gw_V gw_1879 gw_1880 gw_1881 gw_16 gw_1882) rfl rfl rfl (by decide +kernel) ⟨(Nat.le_of_ble_eq_true rfl), (Nat.le_of_ble_eq_true rfl)⟩) ⟨aP.blind, va_recv hK hP (ci := 11) (q0 := 2) rfl rfl, aP.pre hE hS hPc hK hDc hFc⟩ rfl rfl hl.1 rfl (lv_room (Nat.le_of_ble_eq_true rfl)) dL_law_1604 ⟨(Nat.le_of_ble_eq_true rfl), (Nat.le_of_ble_eq_true rfl)⟩) hS (fun q _ h => hFc q h) hFc (fun r_100776 u t H1 locs ht hvm hw hB hz1 hk1 hS => ?_)
    obtain ⟨hP1, hD1⟩ := hB
    rw [ht] at hP1
    try dsimp only at hw hP1 hD1
    have w_100777 := hw
    subst w_100777
    obtain ⟨hP, hD⟩ := va_join (wr := [(h0, .inr (10, [.ref x0, .int 0, .ref x1, .ref x2, .ref x3, .ref x4, .ref x5, .ref x6, .ref x7, .ref x8, .int 0, .int 3000])), (o0, .inl (kA 1, 1, .inr (.inl (fun _ => 0))))]) (w1 := [(m0, .inr (11, (y0.set 9 (.int 1))))]) hP hD [2] [0, 1] rfl rfl (by decide) (by decide) hk1 hFc hP1 hD1
    generalize H1 = H at hP hS ⊢
    have hP : va_P D vwCl [(h0, .inr (10, [.ref x0, .int 0, .ref x1, .ref x2, .ref x3, .ref x4, .ref x5, .ref x6, .ref x7, .ref x8, .int 0, .int 3000])), (o0, .inl (kA 1, 1, .inr (.inl (fun _ => 0)))), (m0, .inr (11, (y0.set 9 (.int 1))))] H := hP
    have hD : va_D A [(h0, .inr (10, [.ref x0, .int 0, .ref x1, .ref x2, .ref x3, .ref x4, .ref x5, .ref x6, .ref x7, .ref x8, .int 0, .int 3000])), (o0, .inl (kA 1, 1, .inr (.inl (fun _ => 0)))), (m0, .inr (11, (y0.set 9 (.int 1))))] := hD
    refine lv_iload hx hb dL_law_1607 (lv_at hl 1 rfl) ?_
    refine lv_icmp_eq (tgt := 1614) hx hb dL_law_1609 (by decide) (fun c_100778 => ?_) (fun c_100778 => ?_)
    · skip
      refine lv_iload hx hb dL_law_1614 (lv_at hl 1 rfl) ?_
      refine lv_if_ne (tgt := 1630) hx hb dL_law_1616 (by decide) (fun c_100779 => ?_) (fun c_100779 => ?_)
      · skip
        refine lv_goto (tgt := 1804) hx hb dL_law_1630 (by decide) ?_
        exact lk_tail hC hA2 (lv_sub hl [2, 6] rfl) hS (Nat.le_of_ble_eq_true rfl) (Nat.le_of_ble_eq_true rfl)
      · exact absurd c_100779 (by decide)
    · exact absurd (by decide) c_100778
  · exact absurd c_18 hz.2.2.2.2.1
  · exact absurd hz.2.2.1 c_15
  · exact absurd hz.2.2.2.1 c_16
  · exact absurd hz.2.2.2.2.1 c_17
  · obtain ⟨c_100050, c_100051, c_100052, c_100053, c_100054, c_100055, w_100056, w_100057⟩ := hz
    subst w_100056
    subst w_100057
    obtain ⟨hP, hD⟩ := va_join (wr := [(h0, .inr (10, [.ref x0, .int 0, .ref x1, .ref x2, .ref x3, .ref x4, .ref x5, .ref x6, .ref x7, .ref x8, .int 0, .int 3000])), (o0, .inl (kA 1, 1, .inr (.inl (fun _ => 0))))]) (w1 := [(m0, .inr (11, y0.set 9 (.int 1)))]) hP hD [0] [1, 2] rfl rfl (by decide) (by decide) hk1 hFc hP1 hD1
    generalize H1 = H at hP hS ⊢
    have hP : va_P D vwCl [(h0, .inr (10, [.ref x0, .int 0, .ref x1, .ref x2, .ref x3, .ref x4, .ref x5, .ref x6, .ref x7, .ref x8, .int 0, .int 3000])), (o0, .inl (kA 1, 1, .inr (.inl (fun _ => 0)))), (m0, .inr (11, y0.set 9 (.int 1)))] H := hP
    have hD : va_D A [(h0, .inr (10, [.ref x0, .int 0, .ref x1, .ref x2, .ref x3, .ref x4, .ref x5, .ref x6, .ref x7, .ref x8, .int 0, .int 3000])), (o0, .inl (kA 1, 1, .inr (.inl (fun _ => 0)))), (m0, .inr (11, y0.set 9 (.int 1)))] := hD
    refine lv_lstore (lv' := [(6, .long 0), (5, .int 1), (0, .ref b), (1, .ref h0), (2, .ref m0), (3, .ref o0), (4, .int 0)]) hx hb dL_law_1601 hl (by decide) rfl (fun ls hl => ?_)
    refine lv_aload_n hx hb dL_law_1603 rfl (lv_at hl 4 rfl) ?_
    have hPc := hP.sub (ws' := [(m0, .inr (11, y0.set 9 (.int 1)))]) [2] rfl
    have hDc := hD.sub (ws' := [(m0, .inr (11, y0.set 9 (.int 1)))]) [2] (by decide) rfl
    have hFc := va_free (wc := [(m0, .inr (11, y0.set 9 (.int 1)))]) hD hS hA [2] rfl
    refine va_calli (va_runV (As := []) (rest := []) ⟨hx, hb, hml, hown, hts⟩ (a174_X12_thrown l  D kA V H.size m0 (y0.set 9 (.int 1)) (fun k hk => (by rw [List.length_set]; exact (hq k hk))) (List.getElem?_set_self (hq 9 (by decide)))) (cwV 0 hts (gw_V gw_1879 gw_1880 gw_1881 gw_16 gw_1882) rfl rfl rfl (by decide +kernel) ⟨(Nat.le_of_ble_eq_true rfl), (Nat.le_of_ble_eq_true rfl)⟩) ⟨aP.blind, va_recv hK hP (ci := 11) (q0 := 2) rfl rfl, aP.pre hE hS hPc hK hDc hFc⟩ rfl rfl hl.1 rfl (lv_room (Nat.le_of_ble_eq_true rfl)) dL_law_1604 ⟨(Nat.le_of_ble_eq_true rfl), (Nat.le_of_ble_eq_true rfl)⟩) hS (fun q _ h => hFc q h) hFc (fun r_100780 u t H1 locs ht hvm hw hB hz1 hk1 hS => ?_)
    obtain ⟨hP1, hD1⟩ := hB
    rw [ht] at hP1
    try dsimp only at hw hP1 hD1
    have w_100781 := hw
    subst w_100781
    obtain ⟨hP, hD⟩ := va_join (wr := [(h0, .inr (10, [.ref x0, .int 0, .ref x1, .ref x2, .ref x3, .ref x4, .ref x5, .ref x6, .ref x7, .ref x8, .int 0, .int 3000])), (o0, .inl (kA 1, 1, .inr (.inl (fun _ => 0))))]) (w1 := [(m0, .inr (11, (y0.set 9 (.int 1))))]) hP hD [2] [0, 1] rfl rfl (by decide) (by decide) hk1 hFc hP1 hD1
    generalize H1 = H at hP hS ⊢
    have hP : va_P D vwCl [(h0, .inr (10, [.ref x0, .int 0, .ref x1, .ref x2, .ref x3, .ref x4, .ref x5, .ref x6, .ref x7, .ref x8, .int 0, .int 3000])), (o0, .inl (kA 1, 1, .inr (.inl (fun _ => 0)))), (m0, .inr (11, (y0.set 9 (.int 1))))] H := hP
    have hD : va_D A [(h0, .inr (10, [.ref x0, .int 0, .ref x1, .ref x2, .ref x3, .ref x4, .ref x5, .ref x6, .ref x7, .ref x8, .int 0, .int 3000])), (o0, .inl (kA 1, 1, .inr (.inl (fun _ => 0)))), (m0, .inr (11, (y0.set 9 (.int 1))))] := hD
    refine lv_iload hx hb dL_law_1607 (lv_at hl 1 rfl) ?_
    refine lv_icmp_eq (tgt := 1614) hx hb dL_law_1609 (by decide) (fun c_100782 => ?_) (fun c_100782 => ?_)
    · skip
      refine lv_iload hx hb dL_law_1614 (lv_at hl 1 rfl) ?_
      refine lv_if_ne (tgt := 1630) hx hb dL_law_1616 (by decide) (fun c_100783 => ?_) (fun c_100783 => ?_)
      · skip
        refine lv_goto (tgt := 1804) hx hb dL_law_1630 (by decide) ?_
        exact lk_tail hC hA2 (lv_sub hl [2, 6] rfl) hS (Nat.le_of_ble_eq_true rfl) (Nat.le_of_ble_eq_true rfl)
      · exact absurd c_100783 (by decide)
    · exact absurd (by decide) c_100782
  · exact absurd c_18 hz.2.2.2.2.2.1
  · exact absurd hz.2.2.1 c_15
  · exact absurd hz.2.2.2.1 c_16
  · exact absurd hz.2.2.2.2.1 c_17
  · obtain ⟨c_100084, c_100085, c_100086, c_100087, c_100088, c_100089, w_100090, w_100091⟩ := hz
    subst w_100090
    subst w_100091
    obtain ⟨hP, hD⟩ := va_join (wr := [(h0, .inr (10, [.ref x0, .int 0, .ref x1, .ref x2, .ref x3, .ref x4, .ref x5, .ref x6, .ref x7, .ref x8, .int 0, .int 3000])), (o0, .inl (kA 1, 1, .inr (.inl (fun _ => 0))))]) (w1 := [(m0, .inr (11, y0.set 9 (.int 1)))]) hP hD [0] [1, 2] rfl rfl (by decide) (by decide) hk1 hFc hP1 hD1
    generalize H1 = H at hP hS ⊢
    have hP : va_P D vwCl [(h0, .inr (10, [.ref x0, .int 0, .ref x1, .ref x2, .ref x3, .ref x4, .ref x5, .ref x6, .ref x7, .ref x8, .int 0, .int 3000])), (o0, .inl (kA 1, 1, .inr (.inl (fun _ => 0)))), (m0, .inr (11, y0.set 9 (.int 1)))] H := hP
    have hD : va_D A [(h0, .inr (10, [.ref x0, .int 0, .ref x1, .ref x2, .ref x3, .ref x4, .ref x5, .ref x6, .ref x7, .ref x8, .int 0, .int 3000])), (o0, .inl (kA 1, 1, .inr (.inl (fun _ => 0)))), (m0, .inr (11, y0.set 9 (.int 1)))] := hD
    refine lv_lstore (lv' := [(6, .long 0), (5, .int 1), (0, .ref b), (1, .ref h0), (2, .ref m0), (3, .ref o0), (4, .int 0)]) hx hb dL_law_1601 hl (by decide) rfl (fun ls hl => ?_)
    refine lv_aload_n hx hb dL_law_1603 rfl (lv_at hl 4 rfl) ?_
    have hPc := hP.sub (ws' := [(m0, .inr (11, y0.set 9 (.int 1)))]) [2] rfl
    have hDc := hD.sub (ws' := [(m0, .inr (11, y0.set 9 (.int 1)))]) [2] (by decide) rfl
    have hFc := va_free (wc := [(m0, .inr (11, y0.set 9 (.int 1)))]) hD hS hA [2] rfl
    refine va_calli (va_runV (As := []) (rest := []) ⟨hx, hb, hml, hown, hts⟩ (a174_X12_thrown l  D kA V H.size m0 (y0.set 9 (.int 1)) (fun k hk => (by rw [List.length_set]; exact (hq k hk))) (List.getElem?_set_self (hq 9 (by decide)))) (cwV 0 hts (gw_V gw_1879 gw_1880 gw_1881 gw_16 gw_1882) rfl rfl rfl (by decide +kernel) ⟨(Nat.le_of_ble_eq_true rfl), (Nat.le_of_ble_eq_true rfl)⟩) ⟨aP.blind, va_recv hK hP (ci := 11) (q0 := 2) rfl rfl, aP.pre hE hS hPc hK hDc hFc⟩ rfl rfl hl.1 rfl (lv_room (Nat.le_of_ble_eq_true rfl)) dL_law_1604 ⟨(Nat.le_of_ble_eq_true rfl), (Nat.le_of_ble_eq_true rfl)⟩) hS (fun q _ h => hFc q h) hFc (fun r_100784 u t H1 locs ht hvm hw hB hz1 hk1 hS => ?_)
    obtain ⟨hP1, hD1⟩ := hB
    rw [ht] at hP1
    try dsimp only at hw hP1 hD1
    have w_100785 := hw
    subst w_100785
    obtain ⟨hP, hD⟩ := va_join (wr := [(h0, .inr (10, [.ref x0, .int 0, .ref x1, .ref x2, .ref x3, .ref x4, .ref x5, .ref x6, .ref x7, .ref x8, .int 0, .int 3000])), (o0, .inl (kA 1, 1, .inr (.inl (fun _ => 0))))]) (w1 := [(m0, .inr (11, (y0.set 9 (.int 1))))]) hP hD [2] [0, 1] rfl rfl (by decide) (by decide) hk1 hFc hP1 hD1
    generalize H1 = H at hP hS ⊢
    have hP : va_P D vwCl [(h0, .inr (10, [.ref x0, .int 0, .ref x1, .ref x2, .ref x3, .ref x4, .ref x5, .ref x6, .ref x7, .ref x8, .int 0, .int 3000])), (o0, .inl (kA 1, 1, .inr (.inl (fun _ => 0)))), (m0, .inr (11, (y0.set 9 (.int 1))))] H := hP
    have hD : va_D A [(h0, .inr (10, [.ref x0, .int 0, .ref x1, .ref x2, .ref x3, .ref x4, .ref x5, .ref x6, .ref x7, .ref x8, .int 0, .int 3000])), (o0, .inl (kA 1, 1, .inr (.inl (fun _ => 0)))), (m0, .inr (11, (y0.set 9 (.int 1))))] := hD
    refine lv_iload hx hb dL_law_1607 (lv_at hl 1 rfl) ?_
    refine lv_icmp_eq (tgt := 1614) hx hb dL_law_1609 (by decide) (fun c_100786 => ?_) (fun c_100786 => ?_)
    · skip
      refine lv_iload hx hb dL_law_1614 (lv_at hl 1 rfl) ?_
      refine lv_if_ne (tgt := 1630) hx hb dL_law_1616 (by decide) (fun c_100787 => ?_) (fun c_100787 => ?_)
      · skip
        refine lv_goto (tgt := 1804) hx hb dL_law_1630 (by decide) ?_
        exact lk_tail hC hA2 (lv_sub hl [2, 6] rfl) hS (Nat.le_of_ble_eq_true rfl) (Nat.le_of_ble_eq_true rfl)
      · exact absurd c_100787 (by decide)
    · exact absurd (by decide) c_100786
  · exact absurd c_18 hz.2.2.2.2.2.1
  · exact absurd c_18 hz.2.2.2.2.2.1
  · exact absurd c_18 hz.2.2.2.2.2.1
  · exact absurd c_18 hz.2.2.2.2.2.1
  · exact absurd c_18 hz.2.2.2.2.2.1
  · exact absurd c_18 hz.2.2.2.2.2.1
  · exact absurd c_18 hz.2.2.2.2.2.1
  · exact absurd c_18 hz.2.2.2.2.2.1
  · exact absurd c_18 hz.2.2.2.2.2.1
  · exact absurd c_18 hz.2.2.2.2.2.1
  · exact absurd c_18 hz.2.2.2.2.2.1
  · exact absurd c_18 hz.2.2.2.2.2.1
  · exact absurd c_18 hz.2.2.2.2.2.1
  · exact absurd c_18 hz.2.2.2.2.2.1
  · exact absurd c_18 hz.2.2.2.2.2.1
  · exact absurd c_18 hz.2.2.2.2.2.1
  · exact absurd c_18 hz.2.2.2.2.2.1
  · exact absurd c_18 hz.2.2.2.2.2.1
  · exact absurd c_18 hz.2.2.2.2.2.1
  · exact absurd c_18 hz.2.2.2.2.2.1
  · exact absurd c_18 hz.2.2.2.2.2.1
  · exact absurd c_18 hz.2.2.2.2.2.1
  · exact absurd c_18 hz.2.2.2.2.2.1
  · exact absurd c_18 hz.2.2.2.2.2.1
  · exact absurd c_18 hz.2.2.2.2.2.1
  · exact absurd c_18 hz.2.2.2.2.2.1
  · exact absurd c_18 hz.2.2.2.2.2.1
  · exact absurd c_18 hz.2.2.2.2.2.1
  · exact absurd c_18 hz.2.2.2.2.2.1
  · exact absurd c_18 hz.2.2.2.2.2.1
  · exact absurd c_18 hz.2.2.2.2.2.1
  · exact absurd c_18 hz.2.2.2.2.2.1
  · exact absurd c_18 hz.2.2.2.2.2.1
  · exact absurd c_18 hz.2.2.2.2.2.1
  · exact absurd c_18 hz.2.2.2.2.2.1
  · exact absurd c_18 hz.2.2.2.2.2.1
  · exact absurd c_18 hz.2.2.2.2.2.1
  · exact absurd c_18 hz.2.2.2.2.2.1
set_option maxHeartbeats 4000000 in
set_option maxRecDepth 100000 in
theorem lk_22_4 {p : Program} {l : Launch} {e : Env} {s : State} {m : MethodId} {below : List Frame} {meth : Method} {c : Code} {D : va_G} {kA : Nat → ClassId} {V : Nat → Nat} {b : Nat} {xs : Nat → Int32} {A : Nat → Prop} (hC : lw_C p l s m meth c b 8 xs D kA V A) (hA2 : ∀ q, A q → s.heap.size ≤ q) (h0 : Nat) (m0 : Nat) (o0 : Nat) (x0 : Nat) (x1 : Nat) (x2 : Nat) (x3 : Nat) (x4 : Nat) (x5 : Nat) (x6 : Nat) (x7 : Nat) (x8 : Nat) (y0 : List Value) (hq : ∀ k, k < 121 → k < y0.length) (hq9 : y0[9]? = some (.int 0)) (c_21 : ¬ (xs 2) < 0) (c_22 : ¬ 4 < (xs 2)) (c_23 : ¬ (xs 3) < 0) (c_24 : ¬ 4 < (xs 3)) (c_25 : (xs 1) < 0) {H : Heap} {locs : List Loc} {ls : Array Slot} (hl : lv_has ls 8 [(0, .ref b), (1, .ref h0), (2, .ref m0), (3, .ref o0), (4, .int 0)]) (hS : va_S A s.heap H locs) (hP : va_P D vwCl [(m0, .inr (11, y0)), (h0, .inr (10, [.ref x0, .int 0, .ref x1, .ref x2, .ref x3, .ref x4, .ref x5, .ref x6, .ref x7, .ref x8, .int 0, .int 3000])), (o0, .inl (kA 1, 1, .inr (.inl (fun _ => 0))))] H) (hD : va_D A [(m0, .inr (11, y0)), (h0, .inr (10, [.ref x0, .int 0, .ref x1, .ref x2, .ref x3, .ref x4, .ref x5, .ref x6, .ref x7, .ref x8, .int 0, .int 3000])), (o0, .inl (kA 1, 1, .inr (.inl (fun _ => 0))))]) : W p l e room_1 s m #[Value.ref b] below meth c H locs 515 172799 (lw_Z below #[Value.ref b] s) (F0 m 1531 ls [.int 1]) := by
  have ⟨hst, hx, hb, hr, hml, hown, hts, hG, hX, hbl, hbA, hlocks, hE, hK, hA⟩ := hC
  refine lv_istore (lv' := [(5, .int 1), (0, .ref b), (1, .ref h0), (2, .ref m0), (3, .ref o0), (4, .int 0)]) hx hb dL_law_1531 hl (by decide) rfl (fun ls hl => ?_)
  refine lv_aload_n hx hb dL_law_1533 rfl (lv_at hl 3 rfl) ?_
  refine lv_aload_n hx hb dL_law_1534 rfl (lv_at hl 1 rfl) ?_
  refine lv_iload hx hb dL_law_1535 (lv_at hl 5 rfl) ?_
  refine lv_iconst (v := 1) hx hb dL_law_1537 (by decide) ?_
  refine lv_iadd hx hb dL_law_1538 ?_
  refine W.eq (g2 := F0 m 1539 ls [.int 1, .ref b, .ref m0]) rfl ?_
  refine va_sld hx hb hX hbl hbA hS (show vp_in 1 8 by unfold vp_in; decide) dL_law_1539 ?_
  refine W.eq (g2 := F0 m 1540 ls [.int (xs 1), .ref m0]) rfl ?_
  refine lv_aload_n hx hb dL_law_1540 rfl (lv_at hl 1 rfl) ?_
  refine lv_iload hx hb dL_law_1541 (lv_at hl 5 rfl) ?_
  refine lv_iconst (v := 2) hx hb dL_law_1543 (by decide) ?_
  refine lv_iadd hx hb dL_law_1544 ?_
  refine W.eq (g2 := F0 m 1545 ls [.int 2, .ref b, .int (xs 1), .ref m0]) rfl ?_
  refine va_sld hx hb hX hbl hbA hS (show vp_in 2 8 by unfold vp_in; decide) dL_law_1545 ?_
  refine W.eq (g2 := F0 m 1546 ls [.int (xs 2), .int (xs 1), .ref m0]) rfl ?_
  refine lv_aload_n hx hb dL_law_1546 rfl (lv_at hl 1 rfl) ?_
  refine lv_iload hx hb dL_law_1547 (lv_at hl 5 rfl) ?_
  refine lv_iconst (v := 3) hx hb dL_law_1549 (by decide) ?_
  refine lv_iadd hx hb dL_law_1550 ?_
  refine W.eq (g2 := F0 m 1551 ls [.int 3, .ref b, .int (xs 2), .int (xs 1), .ref m0]) rfl ?_
  refine va_sld hx hb hX hbl hbA hS (show vp_in 3 8 by unfold vp_in; decide) dL_law_1551 ?_
  refine W.eq (g2 := F0 m 1552 ls [.int (xs 3), .int (xs 2), .int (xs 1), .ref m0]) rfl ?_
  refine lv_aload_n hx hb dL_law_1552 rfl (lv_at hl 1 rfl) ?_
  refine lv_iload hx hb dL_law_1553 (lv_at hl 5 rfl) ?_
  refine lv_iconst (v := 4) hx hb dL_law_1555 (by decide) ?_
  refine lv_iadd hx hb dL_law_1556 ?_
  refine W.eq (g2 := F0 m 1557 ls [.int 4, .ref b, .int (xs 3), .int (xs 2), .int (xs 1), .ref m0]) rfl ?_
  refine va_sld hx hb hX hbl hbA hS (show vp_in 4 8 by unfold vp_in; decide) dL_law_1557 ?_
  refine W.eq (g2 := F0 m 1558 ls [.int (xs 4), .int (xs 3), .int (xs 2), .int (xs 1), .ref m0]) rfl ?_
  refine lv_i2l (v := (xs 4).toInt64) hx hb dL_law_1558 rfl ?_
  refine lv_bipush (v := 32) hx hb dL_law_1559 (by decide) ?_
  refine lv_lshl (v := ((xs 4).toInt64) <<< ((32 : Int32).toInt64 &&& 63)) hx hb dL_law_1561 rfl ?_
  refine lv_aload_n hx hb dL_law_1562 rfl (lv_at hl 1 rfl) ?_
  refine lv_iload hx hb dL_law_1563 (lv_at hl 5 rfl) ?_
  refine lv_iconst (v := 5) hx hb dL_law_1565 (by decide) ?_
  refine lv_iadd hx hb dL_law_1566 ?_
  refine W.eq (g2 := F0 m 1567 ls [.int 5, .ref b, .long (((xs 4).toInt64) <<< ((32 : Int32).toInt64 &&& 63)), .int (xs 3), .int (xs 2), .int (xs 1), .ref m0]) rfl ?_
  refine va_sld hx hb hX hbl hbA hS (show vp_in 5 8 by unfold vp_in; decide) dL_law_1567 ?_
  refine W.eq (g2 := F0 m 1568 ls [.int (xs 5), .long (((xs 4).toInt64) <<< ((32 : Int32).toInt64 &&& 63)), .int (xs 3), .int (xs 2), .int (xs 1), .ref m0]) rfl ?_
  refine lv_i2l (v := (xs 5).toInt64) hx hb dL_law_1568 rfl ?_
  refine lv_ldc2 (v := 4294967295) hx hb hown (hG _ gw_2764) dL_law_1569 ?_
  refine lv_land hx hb dL_law_1572 ?_
  refine lv_lor hx hb dL_law_1573 ?_
  refine lv_aload_n hx hb dL_law_1574 rfl (lv_at hl 1 rfl) ?_
  refine lv_iload hx hb dL_law_1575 (lv_at hl 5 rfl) ?_
  refine lv_bipush (v := 6) hx hb dL_law_1577 (by decide) ?_
  refine lv_iadd hx hb dL_law_1579 ?_
  refine W.eq (g2 := F0 m 1580 ls [.int 6, .ref b, .long ((((xs 4).toInt64) <<< ((32 : Int32).toInt64 &&& 63)) ||| (((xs 5).toInt64) &&& 4294967295)), .int (xs 3), .int (xs 2), .int (xs 1), .ref m0]) rfl ?_
  refine va_sld hx hb hX hbl hbA hS (show vp_in 6 8 by unfold vp_in; decide) dL_law_1580 ?_
  refine W.eq (g2 := F0 m 1581 ls [.int (xs 6), .long ((((xs 4).toInt64) <<< ((32 : Int32).toInt64 &&& 63)) ||| (((xs 5).toInt64) &&& 4294967295)), .int (xs 3), .int (xs 2), .int (xs 1), .ref m0]) rfl ?_
  refine lv_i2l (v := (xs 6).toInt64) hx hb dL_law_1581 rfl ?_
  refine lv_bipush (v := 32) hx hb dL_law_1582 (by decide) ?_
  refine lv_lshl (v := ((xs 6).toInt64) <<< ((32 : Int32).toInt64 &&& 63)) hx hb dL_law_1584 rfl ?_
  refine lv_aload_n hx hb dL_law_1585 rfl (lv_at hl 1 rfl) ?_
  refine lv_iload hx hb dL_law_1586 (lv_at hl 5 rfl) ?_
  refine lv_bipush (v := 7) hx hb dL_law_1588 (by decide) ?_
  refine lv_iadd hx hb dL_law_1590 ?_
  refine W.eq (g2 := F0 m 1591 ls [.int 7, .ref b, .long (((xs 6).toInt64) <<< ((32 : Int32).toInt64 &&& 63)), .long ((((xs 4).toInt64) <<< ((32 : Int32).toInt64 &&& 63)) ||| (((xs 5).toInt64) &&& 4294967295)), .int (xs 3), .int (xs 2), .int (xs 1), .ref m0]) rfl ?_
  refine va_sld hx hb hX hbl hbA hS (show vp_in 7 8 by unfold vp_in; decide) dL_law_1591 ?_
  refine W.eq (g2 := F0 m 1592 ls [.int (xs 7), .long (((xs 6).toInt64) <<< ((32 : Int32).toInt64 &&& 63)), .long ((((xs 4).toInt64) <<< ((32 : Int32).toInt64 &&& 63)) ||| (((xs 5).toInt64) &&& 4294967295)), .int (xs 3), .int (xs 2), .int (xs 1), .ref m0]) rfl ?_
  refine lv_i2l (v := (xs 7).toInt64) hx hb dL_law_1592 rfl ?_
  refine lv_ldc2 (v := 4294967295) hx hb hown (hG _ gw_2764) dL_law_1593 ?_
  refine lv_land hx hb dL_law_1596 ?_
  refine lv_lor hx hb dL_law_1597 ?_
  have hPc := hP.sub (ws' := [(m0, .inr (11, y0))]) [0] rfl
  have hDc := hD.sub (ws' := [(m0, .inr (11, y0))]) [0] (by decide) rfl
  have hFc := va_free (wc := [(m0, .inr (11, y0))]) hD hS hA [0] rfl
  refine va_calll (va_runV (As := [.int (xs 1), .int (xs 2), .int (xs 3), .long ((((xs 4).toInt64) <<< ((32 : Int32).toInt64 &&& 63)) ||| (((xs 5).toInt64) &&& 4294967295)), .long ((((xs 6).toInt64) <<< ((32 : Int32).toInt64 &&& 63)) ||| (((xs 7).toInt64) &&& 4294967295))]) (rest := []) ⟨hx, hb, hml, hown, hts⟩ (a153_X12_work l  D kA V H.size m0 (xs 1) (xs 2) (xs 3) ((((xs 4).toInt64) <<< ((32 : Int32).toInt64 &&& 63)) ||| (((xs 5).toInt64) &&& 4294967295)) ((((xs 6).toInt64) <<< ((32 : Int32).toInt64 &&& 63)) ||| (((xs 7).toInt64) &&& 4294967295)) y0 (fun k hk => (hq k hk)) hq9) (cwV 5 hts (gw_V gw_2756 gw_2757 gw_2758 gw_16 gw_2759) rfl rfl rfl (by decide +kernel) ⟨(Nat.le_of_ble_eq_true rfl), (Nat.le_of_ble_eq_true rfl)⟩) ⟨aP.blind, va_recv hK hP (ci := 11) (q0 := 0) rfl rfl, aP.pre hE hS hPc hK hDc hFc⟩ rfl rfl hl.1 rfl (lv_room (Nat.le_of_ble_eq_true rfl)) dL_law_1598 ⟨(Nat.le_of_ble_eq_true rfl), (Nat.le_of_ble_eq_true rfl)⟩) hS (fun q _ h => hFc q h) hFc (fun r_100001 u t H1 locs ht hvm hw hB hz1 hk1 hS => ?_)
  obtain ⟨u_100002, rfl⟩ : ∃ z, z = u := ⟨u, rfl⟩
  obtain ⟨hP1, hD1⟩ := hB
  rw [ht] at hP1
  try dsimp only at hw hP1 hD1
  rcases hw with hz | hz | hz | hz | hz | hz | hz | hz | hz | hz | hz | hz | hz | hz | hz | hz | hz | hz | hz | hz | hz | hz | hz | hz | hz | hz | hz | hz | hz | hz | hz | hz | hz | hz | hz | hz | hz | hz | hz | hz | hz | hz | hz | hz | hz | hz | hz | hz | hz | hz | hz | hz
  · exact absurd hz.2.1 c_21
  · exact absurd hz.2.2.1 c_22
  · exact absurd hz.2.2.2.1 c_23
  · exact absurd hz.2.2.2.2.1 c_24
  · obtain ⟨c_100025, c_100026, c_100027, c_100028, c_100029, w_100030, w_100031⟩ := hz
    subst w_100030
    subst w_100031
    obtain ⟨hP, hD⟩ := va_join (wr := [(h0, .inr (10, [.ref x0, .int 0, .ref x1, .ref x2, .ref x3, .ref x4, .ref x5, .ref x6, .ref x7, .ref x8, .int 0, .int 3000])), (o0, .inl (kA 1, 1, .inr (.inl (fun _ => 0))))]) (w1 := [(m0, .inr (11, y0.set 9 (.int 1)))]) hP hD [0] [1, 2] rfl rfl (by decide) (by decide) hk1 hFc hP1 hD1
    generalize H1 = H at hP hS ⊢
    have hP : va_P D vwCl [(h0, .inr (10, [.ref x0, .int 0, .ref x1, .ref x2, .ref x3, .ref x4, .ref x5, .ref x6, .ref x7, .ref x8, .int 0, .int 3000])), (o0, .inl (kA 1, 1, .inr (.inl (fun _ => 0)))), (m0, .inr (11, y0.set 9 (.int 1)))] H := hP
    have hD : va_D A [(h0, .inr (10, [.ref x0, .int 0, .ref x1, .ref x2, .ref x3, .ref x4, .ref x5, .ref x6, .ref x7, .ref x8, .int 0, .int 3000])), (o0, .inl (kA 1, 1, .inr (.inl (fun _ => 0)))), (m0, .inr (11, y0.set 9 (.int 1)))] := hD
    refine lv_lstore (lv' := [(6, .long 0), (5, .int 1), (0, .ref b), (1, .ref h0), (2, .ref m0), (3, .ref o0), (4, .int 0)]) hx hb dL_law_1601 hl (by decide) rfl (fun ls hl => ?_)
    refine lv_aload_n hx hb dL_law_1603 rfl (lv_at hl 4 rfl) ?_
    have hPc := hP.sub (ws' := [(m0, .inr (11, y0.set 9 (.int 1)))]) [2] rfl
    have hDc := hD.sub (ws' := [(m0, .inr (11, y0.set 9 (.int 1)))]) [2] (by decide) rfl
    have hFc := va_free (wc := [(m0, .inr (11, y0.set 9 (.int 1)))]) hD hS hA [2] rfl
    refine va_calli (va_runV (As := []) (rest := []) ⟨hx, hb, hml, hown, hts⟩ (a174_X12_thrown l  D kA V H.size m0 (y0.set 9 (.int 1)) (fun k hk => (by rw [List.length_set]; exact (hq k hk))) (List.getElem?_set_self (hq 9 (by decide)))) (cwV 0 hts (gw_V gw_1879 gw_1880 gw_1881 gw_16 gw_1882) rfl rfl rfl (by decide +kernel) ⟨(Nat.le_of_ble_eq_true rfl), (Nat.le_of_ble_eq_true rfl)⟩) ⟨aP.blind, va_recv hK hP (ci := 11) (q0 := 2) rfl rfl, aP.pre hE hS hPc hK hDc hFc⟩ rfl rfl hl.1 rfl (lv_room (Nat.le_of_ble_eq_true rfl)) dL_law_1604 ⟨(Nat.le_of_ble_eq_true rfl), (Nat.le_of_ble_eq_true rfl)⟩) hS (fun q _ h => hFc q h) hFc (fun r_100776 u t H1 locs ht hvm hw hB hz1 hk1 hS => ?_)
    obtain ⟨hP1, hD1⟩ := hB
    rw [ht] at hP1
    try dsimp only at hw hP1 hD1
    have w_100777 := hw
    subst w_100777
    obtain ⟨hP, hD⟩ := va_join (wr := [(h0, .inr (10, [.ref x0, .int 0, .ref x1, .ref x2, .ref x3, .ref x4, .ref x5, .ref x6, .ref x7, .ref x8, .int 0, .int 3000])), (o0, .inl (kA 1, 1, .inr (.inl (fun _ => 0))))]) (w1 := [(m0, .inr (11, (y0.set 9 (.int 1))))]) hP hD [2] [0, 1] rfl rfl (by decide) (by decide) hk1 hFc hP1 hD1
    generalize H1 = H at hP hS ⊢
    have hP : va_P D vwCl [(h0, .inr (10, [.ref x0, .int 0, .ref x1, .ref x2, .ref x3, .ref x4, .ref x5, .ref x6, .ref x7, .ref x8, .int 0, .int 3000])), (o0, .inl (kA 1, 1, .inr (.inl (fun _ => 0)))), (m0, .inr (11, (y0.set 9 (.int 1))))] H := hP
    have hD : va_D A [(h0, .inr (10, [.ref x0, .int 0, .ref x1, .ref x2, .ref x3, .ref x4, .ref x5, .ref x6, .ref x7, .ref x8, .int 0, .int 3000])), (o0, .inl (kA 1, 1, .inr (.inl (fun _ => 0)))), (m0, .inr (11, (y0.set 9 (.int 1))))] := hD
    refine lv_iload hx hb dL_law_1607 (lv_at hl 1 rfl) ?_
    refine lv_icmp_eq (tgt := 1614) hx hb dL_law_1609 (by decide) (fun c_100778 => ?_) (fun c_100778 => ?_)
    · skip
      refine lv_iload hx hb dL_law_1614 (lv_at hl 1 rfl) ?_
      refine lv_if_ne (tgt := 1630) hx hb dL_law_1616 (by decide) (fun c_100779 => ?_) (fun c_100779 => ?_)
      · skip
        refine lv_goto (tgt := 1804) hx hb dL_law_1630 (by decide) ?_
        exact lk_tail hC hA2 (lv_sub hl [2, 6] rfl) hS (Nat.le_of_ble_eq_true rfl) (Nat.le_of_ble_eq_true rfl)
      · exact absurd c_100779 (by decide)
    · exact absurd (by decide) c_100778
  · exact absurd c_25 hz.1
  · exact absurd c_25 hz.1
  · exact absurd c_25 hz.1
  · exact absurd c_25 hz.1
  · exact absurd c_25 hz.1
  · exact absurd c_25 hz.1
  · exact absurd c_25 hz.1
  · exact absurd c_25 hz.1
  · exact absurd c_25 hz.1
  · exact absurd c_25 hz.1
  · exact absurd c_25 hz.1
  · exact absurd c_25 hz.1
  · exact absurd c_25 hz.1
  · exact absurd c_25 hz.1
  · exact absurd c_25 hz.1
  · exact absurd c_25 hz.1
  · exact absurd c_25 hz.1
  · exact absurd c_25 hz.1
  · exact absurd c_25 hz.1
  · exact absurd c_25 hz.1
  · exact absurd c_25 hz.1
  · exact absurd c_25 hz.1
  · exact absurd c_25 hz.1
  · exact absurd c_25 hz.1
  · exact absurd c_25 hz.1
  · exact absurd c_25 hz.1
  · exact absurd c_25 hz.1
  · exact absurd c_25 hz.1
  · exact absurd c_25 hz.1
  · exact absurd c_25 hz.1
  · exact absurd c_25 hz.1
  · exact absurd c_25 hz.1
  · exact absurd c_25 hz.1
  · exact absurd c_25 hz.1
  · exact absurd c_25 hz.1
  · exact absurd c_25 hz.1
  · exact absurd c_25 hz.1
  · exact absurd c_25 hz.1
  · exact absurd c_25 hz.1
  · exact absurd c_25 hz.1
  · exact absurd c_25 hz.1
  · exact absurd c_25 hz.1
  · exact absurd c_25 hz.1
  · exact absurd c_25 hz.1
  · exact absurd c_25 hz.1
  · exact absurd c_25 hz.1
  · exact absurd c_25 hz.1
set_option maxHeartbeats 4000000 in
set_option maxRecDepth 100000 in
theorem lk_22_5 {p : Program} {l : Launch} {e : Env} {s : State} {m : MethodId} {below : List Frame} {meth : Method} {c : Code} {D : va_G} {kA : Nat → ClassId} {V : Nat → Nat} {b : Nat} {xs : Nat → Int32} {A : Nat → Prop} (hC : lw_C p l s m meth c b 8 xs D kA V A) (hA2 : ∀ q, A q → s.heap.size ≤ q) (h0 : Nat) (m0 : Nat) (o0 : Nat) (x0 : Nat) (x1 : Nat) (x2 : Nat) (x3 : Nat) (x4 : Nat) (x5 : Nat) (x6 : Nat) (x7 : Nat) (x8 : Nat) (y0 : List Value) (hq : ∀ k, k < 121 → k < y0.length) (hq9 : y0[9]? = some (.int 0)) (c_28 : ¬ (xs 2) < 0) (c_29 : ¬ 4 < (xs 2)) (c_30 : ¬ (xs 3) < 0) (c_31 : ¬ 4 < (xs 3)) (c_32 : ¬ (xs 1) < 0) (c_33 : (xs 1) ≤ 10) (c_34 : (n_cut (xs 3) ((((xs 6).toInt64) <<< ((32 : Int32).toInt64 &&& 63)) ||| (((xs 7).toInt64) &&& 4294967295))) = 0) (c_35 : (xs 1) = 3) {H : Heap} {locs : List Loc} {ls : Array Slot} (hl : lv_has ls 8 [(0, .ref b), (1, .ref h0), (2, .ref m0), (3, .ref o0), (4, .int 0)]) (hS : va_S A s.heap H locs) (hP : va_P D vwCl [(m0, .inr (11, y0)), (h0, .inr (10, [.ref x0, .int 0, .ref x1, .ref x2, .ref x3, .ref x4, .ref x5, .ref x6, .ref x7, .ref x8, .int 0, .int 3000])), (o0, .inl (kA 1, 1, .inr (.inl (fun _ => 0))))] H) (hD : va_D A [(m0, .inr (11, y0)), (h0, .inr (10, [.ref x0, .int 0, .ref x1, .ref x2, .ref x3, .ref x4, .ref x5, .ref x6, .ref x7, .ref x8, .int 0, .int 3000])), (o0, .inl (kA 1, 1, .inr (.inl (fun _ => 0))))]) : W p l e room_1 s m #[Value.ref b] below meth c H locs 515 172799 (lw_Z below #[Value.ref b] s) (F0 m 1531 ls [.int 2]) := by
  have ⟨hst, hx, hb, hr, hml, hown, hts, hG, hX, hbl, hbA, hlocks, hE, hK, hA⟩ := hC
  refine lv_istore (lv' := [(5, .int 2), (0, .ref b), (1, .ref h0), (2, .ref m0), (3, .ref o0), (4, .int 0)]) hx hb dL_law_1531 hl (by decide) rfl (fun ls hl => ?_)
  refine lv_aload_n hx hb dL_law_1533 rfl (lv_at hl 3 rfl) ?_
  refine lv_aload_n hx hb dL_law_1534 rfl (lv_at hl 1 rfl) ?_
  refine lv_iload hx hb dL_law_1535 (lv_at hl 5 rfl) ?_
  refine lv_iconst (v := 1) hx hb dL_law_1537 (by decide) ?_
  refine lv_iadd hx hb dL_law_1538 ?_
  refine W.eq (g2 := F0 m 1539 ls [.int 1, .ref b, .ref m0]) rfl ?_
  refine va_sld hx hb hX hbl hbA hS (show vp_in 1 8 by unfold vp_in; decide) dL_law_1539 ?_
  refine W.eq (g2 := F0 m 1540 ls [.int (xs 1), .ref m0]) rfl ?_
  refine lv_aload_n hx hb dL_law_1540 rfl (lv_at hl 1 rfl) ?_
  refine lv_iload hx hb dL_law_1541 (lv_at hl 5 rfl) ?_
  refine lv_iconst (v := 2) hx hb dL_law_1543 (by decide) ?_
  refine lv_iadd hx hb dL_law_1544 ?_
  refine W.eq (g2 := F0 m 1545 ls [.int 2, .ref b, .int (xs 1), .ref m0]) rfl ?_
  refine va_sld hx hb hX hbl hbA hS (show vp_in 2 8 by unfold vp_in; decide) dL_law_1545 ?_
  refine W.eq (g2 := F0 m 1546 ls [.int (xs 2), .int (xs 1), .ref m0]) rfl ?_
  refine lv_aload_n hx hb dL_law_1546 rfl (lv_at hl 1 rfl) ?_
  refine lv_iload hx hb dL_law_1547 (lv_at hl 5 rfl) ?_
  refine lv_iconst (v := 3) hx hb dL_law_1549 (by decide) ?_
  refine lv_iadd hx hb dL_law_1550 ?_
  refine W.eq (g2 := F0 m 1551 ls [.int 3, .ref b, .int (xs 2), .int (xs 1), .ref m0]) rfl ?_
  refine va_sld hx hb hX hbl hbA hS (show vp_in 3 8 by unfold vp_in; decide) dL_law_1551 ?_
  refine W.eq (g2 := F0 m 1552 ls [.int (xs 3), .int (xs 2), .int (xs 1), .ref m0]) rfl ?_
  refine lv_aload_n hx hb dL_law_1552 rfl (lv_at hl 1 rfl) ?_
  refine lv_iload hx hb dL_law_1553 (lv_at hl 5 rfl) ?_
  refine lv_iconst (v := 4) hx hb dL_law_1555 (by decide) ?_
  refine lv_iadd hx hb dL_law_1556 ?_
  refine W.eq (g2 := F0 m 1557 ls [.int 4, .ref b, .int (xs 3), .int (xs 2), .int (xs 1), .ref m0]) rfl ?_
  refine va_sld hx hb hX hbl hbA hS (show vp_in 4 8 by unfold vp_in; decide) dL_law_1557 ?_
  refine W.eq (g2 := F0 m 1558 ls [.int (xs 4), .int (xs 3), .int (xs 2), .int (xs 1), .ref m0]) rfl ?_
  refine lv_i2l (v := (xs 4).toInt64) hx hb dL_law_1558 rfl ?_
  refine lv_bipush (v := 32) hx hb dL_law_1559 (by decide) ?_
  refine lv_lshl (v := ((xs 4).toInt64) <<< ((32 : Int32).toInt64 &&& 63)) hx hb dL_law_1561 rfl ?_
  refine lv_aload_n hx hb dL_law_1562 rfl (lv_at hl 1 rfl) ?_
  refine lv_iload hx hb dL_law_1563 (lv_at hl 5 rfl) ?_
  refine lv_iconst (v := 5) hx hb dL_law_1565 (by decide) ?_
  refine lv_iadd hx hb dL_law_1566 ?_
  refine W.eq (g2 := F0 m 1567 ls [.int 5, .ref b, .long (((xs 4).toInt64) <<< ((32 : Int32).toInt64 &&& 63)), .int (xs 3), .int (xs 2), .int (xs 1), .ref m0]) rfl ?_
  refine va_sld hx hb hX hbl hbA hS (show vp_in 5 8 by unfold vp_in; decide) dL_law_1567 ?_
  refine W.eq (g2 := F0 m 1568 ls [.int (xs 5), .long (((xs 4).toInt64) <<< ((32 : Int32).toInt64 &&& 63)), .int (xs 3), .int (xs 2), .int (xs 1), .ref m0]) rfl ?_
  refine lv_i2l (v := (xs 5).toInt64) hx hb dL_law_1568 rfl ?_
  refine lv_ldc2 (v := 4294967295) hx hb hown (hG _ gw_2764) dL_law_1569 ?_
  refine lv_land hx hb dL_law_1572 ?_
  refine lv_lor hx hb dL_law_1573 ?_
  refine lv_aload_n hx hb dL_law_1574 rfl (lv_at hl 1 rfl) ?_
  refine lv_iload hx hb dL_law_1575 (lv_at hl 5 rfl) ?_
  refine lv_bipush (v := 6) hx hb dL_law_1577 (by decide) ?_
  refine lv_iadd hx hb dL_law_1579 ?_
  refine W.eq (g2 := F0 m 1580 ls [.int 6, .ref b, .long ((((xs 4).toInt64) <<< ((32 : Int32).toInt64 &&& 63)) ||| (((xs 5).toInt64) &&& 4294967295)), .int (xs 3), .int (xs 2), .int (xs 1), .ref m0]) rfl ?_
  refine va_sld hx hb hX hbl hbA hS (show vp_in 6 8 by unfold vp_in; decide) dL_law_1580 ?_
  refine W.eq (g2 := F0 m 1581 ls [.int (xs 6), .long ((((xs 4).toInt64) <<< ((32 : Int32).toInt64 &&& 63)) ||| (((xs 5).toInt64) &&& 4294967295)), .int (xs 3), .int (xs 2), .int (xs 1), .ref m0]) rfl ?_
  refine lv_i2l (v := (xs 6).toInt64) hx hb dL_law_1581 rfl ?_
  refine lv_bipush (v := 32) hx hb dL_law_1582 (by decide) ?_
  refine lv_lshl (v := ((xs 6).toInt64) <<< ((32 : Int32).toInt64 &&& 63)) hx hb dL_law_1584 rfl ?_
  refine lv_aload_n hx hb dL_law_1585 rfl (lv_at hl 1 rfl) ?_
  refine lv_iload hx hb dL_law_1586 (lv_at hl 5 rfl) ?_
  refine lv_bipush (v := 7) hx hb dL_law_1588 (by decide) ?_
  refine lv_iadd hx hb dL_law_1590 ?_
  refine W.eq (g2 := F0 m 1591 ls [.int 7, .ref b, .long (((xs 6).toInt64) <<< ((32 : Int32).toInt64 &&& 63)), .long ((((xs 4).toInt64) <<< ((32 : Int32).toInt64 &&& 63)) ||| (((xs 5).toInt64) &&& 4294967295)), .int (xs 3), .int (xs 2), .int (xs 1), .ref m0]) rfl ?_
  refine va_sld hx hb hX hbl hbA hS (show vp_in 7 8 by unfold vp_in; decide) dL_law_1591 ?_
  refine W.eq (g2 := F0 m 1592 ls [.int (xs 7), .long (((xs 6).toInt64) <<< ((32 : Int32).toInt64 &&& 63)), .long ((((xs 4).toInt64) <<< ((32 : Int32).toInt64 &&& 63)) ||| (((xs 5).toInt64) &&& 4294967295)), .int (xs 3), .int (xs 2), .int (xs 1), .ref m0]) rfl ?_
  refine lv_i2l (v := (xs 7).toInt64) hx hb dL_law_1592 rfl ?_
  refine lv_ldc2 (v := 4294967295) hx hb hown (hG _ gw_2764) dL_law_1593 ?_
  refine lv_land hx hb dL_law_1596 ?_
  refine lv_lor hx hb dL_law_1597 ?_
  have hPc := hP.sub (ws' := [(m0, .inr (11, y0))]) [0] rfl
  have hDc := hD.sub (ws' := [(m0, .inr (11, y0))]) [0] (by decide) rfl
  have hFc := va_free (wc := [(m0, .inr (11, y0))]) hD hS hA [0] rfl
  refine va_calll (va_runV (As := [.int (xs 1), .int (xs 2), .int (xs 3), .long ((((xs 4).toInt64) <<< ((32 : Int32).toInt64 &&& 63)) ||| (((xs 5).toInt64) &&& 4294967295)), .long ((((xs 6).toInt64) <<< ((32 : Int32).toInt64 &&& 63)) ||| (((xs 7).toInt64) &&& 4294967295))]) (rest := []) ⟨hx, hb, hml, hown, hts⟩ (a153_X12_work l  D kA V H.size m0 (xs 1) (xs 2) (xs 3) ((((xs 4).toInt64) <<< ((32 : Int32).toInt64 &&& 63)) ||| (((xs 5).toInt64) &&& 4294967295)) ((((xs 6).toInt64) <<< ((32 : Int32).toInt64 &&& 63)) ||| (((xs 7).toInt64) &&& 4294967295)) y0 (fun k hk => (hq k hk)) hq9) (cwV 5 hts (gw_V gw_2756 gw_2757 gw_2758 gw_16 gw_2759) rfl rfl rfl (by decide +kernel) ⟨(Nat.le_of_ble_eq_true rfl), (Nat.le_of_ble_eq_true rfl)⟩) ⟨aP.blind, va_recv hK hP (ci := 11) (q0 := 0) rfl rfl, aP.pre hE hS hPc hK hDc hFc⟩ rfl rfl hl.1 rfl (lv_room (Nat.le_of_ble_eq_true rfl)) dL_law_1598 ⟨(Nat.le_of_ble_eq_true rfl), (Nat.le_of_ble_eq_true rfl)⟩) hS (fun q _ h => hFc q h) hFc (fun r_100001 u t H1 locs ht hvm hw hB hz1 hk1 hS => ?_)
  obtain ⟨u_100002, rfl⟩ : ∃ z, z = u := ⟨u, rfl⟩
  obtain ⟨hP1, hD1⟩ := hB
  rw [ht] at hP1
  try dsimp only at hw hP1 hD1
  rcases hw with hz | hz | hz | hz | hz | hz | hz | hz | hz | hz | hz | hz | hz | hz | hz | hz | hz | hz | hz | hz | hz | hz | hz | hz | hz | hz | hz | hz | hz | hz | hz | hz | hz | hz | hz | hz | hz | hz | hz | hz | hz | hz | hz | hz | hz | hz | hz | hz | hz | hz | hz | hz
  · exact absurd hz.1 c_32
  · exact absurd hz.1 c_32
  · exact absurd hz.1 c_32
  · exact absurd hz.1 c_32
  · exact absurd hz.1 c_32
  · exact absurd hz.2.1 (Int32.not_lt.mpr c_33)
  · exact absurd hz.2.1 (Int32.not_lt.mpr c_33)
  · exact absurd hz.2.1 (Int32.not_lt.mpr c_33)
  · exact absurd hz.2.1 (Int32.not_lt.mpr c_33)
  · exact absurd hz.2.1 (Int32.not_lt.mpr c_33)
  · exact absurd hz.2.2.1 c_28
  · exact absurd hz.2.2.2.1 c_29
  · exact absurd hz.2.2.2.2.1 c_30
  · exact absurd hz.2.2.2.2.2.1 c_31
  · exact absurd c_35 hz.2.2.2.2.2.2.2.2.2.1
  · exact absurd c_35 hz.2.2.2.2.2.2.2.2.2.1
  · exact absurd c_35 hz.2.2.2.2.2.2.2.2.2.1
  · exact absurd c_35 hz.2.2.2.2.2.2.2.2.2.1
  · exact absurd c_35 hz.2.2.2.2.2.2.2.2.2.1
  · exact absurd c_35 hz.2.2.2.2.2.2.2.2.2.1
  · exact absurd c_35 hz.2.2.2.2.2.2.2.2.2.1
  · exact absurd c_35 hz.2.2.2.2.2.2.2.2.2.1
  · exact absurd c_35 hz.2.2.2.2.2.2.2.2.2.1
  · exact absurd c_35 hz.2.2.2.2.2.2.2.2.2.1
  · exact absurd c_35 hz.2.2.2.2.2.2.2.2.2.1
  · exact absurd c_35 hz.2.2.2.2.2.2.2.2.2.1
  · exact absurd c_35 hz.2.2.2.2.2.2.2.2.2.1
  · exact absurd c_35 hz.2.2.2.2.2.2.2.2.2.1
  · exact absurd c_35 hz.2.2.2.2.2.2.2.2.2.1
  · exact absurd c_35 hz.2.2.2.2.2.2.2.2.2.1
  · exact absurd c_35 hz.2.2.2.2.2.2.2.2.2.1
  · exact absurd c_35 hz.2.2.2.2.2.2.2.2.2.1
  · exact absurd c_35 hz.2.2.2.2.2.2.2.2.2.1
  · exact absurd c_35 hz.2.2.2.2.2.2.2.2.2.1
  · exact absurd c_35 hz.2.2.2.2.2.2.2.2.2.1
  · exact absurd c_35 hz.2.2.2.2.2.2.2.2.2.1
  · exact absurd c_35 hz.2.2.2.2.2.2.2.2.2.1
  · exact absurd c_34 hz.2.2.2.2.2.2.2.2.2.2.2.1
  · exact absurd c_34 hz.2.2.2.2.2.2.2.2.2.2.2.1
  · exact absurd c_34 hz.2.2.2.2.2.2.2.2.2.2.2.1
  · obtain ⟨c_100598, c_100599, c_100600, c_100601, c_100602, c_100603, c_100604, c_100605, c_100606, c_100607, c_100608, c_100609, c_100610, w_100611, w_100612⟩ := hz
    subst w_100611
    subst w_100612
    obtain ⟨hP, hD⟩ := va_join (wr := [(h0, .inr (10, [.ref x0, .int 0, .ref x1, .ref x2, .ref x3, .ref x4, .ref x5, .ref x6, .ref x7, .ref x8, .int 0, .int 3000])), (o0, .inl (kA 1, 1, .inr (.inl (fun _ => 0))))]) (w1 := [(m0, .inr (11, (y0.set 9 (.int 0)).set 9 (.int 2)))]) hP hD [0] [1, 2] rfl rfl (by decide) (by decide) hk1 hFc hP1 hD1
    generalize H1 = H at hP hS ⊢
    have hP : va_P D vwCl [(h0, .inr (10, [.ref x0, .int 0, .ref x1, .ref x2, .ref x3, .ref x4, .ref x5, .ref x6, .ref x7, .ref x8, .int 0, .int 3000])), (o0, .inl (kA 1, 1, .inr (.inl (fun _ => 0)))), (m0, .inr (11, (y0.set 9 (.int 0)).set 9 (.int 2)))] H := hP
    have hD : va_D A [(h0, .inr (10, [.ref x0, .int 0, .ref x1, .ref x2, .ref x3, .ref x4, .ref x5, .ref x6, .ref x7, .ref x8, .int 0, .int 3000])), (o0, .inl (kA 1, 1, .inr (.inl (fun _ => 0)))), (m0, .inr (11, (y0.set 9 (.int 0)).set 9 (.int 2)))] := hD
    refine lv_lstore (lv' := [(6, .long 0), (5, .int 2), (0, .ref b), (1, .ref h0), (2, .ref m0), (3, .ref o0), (4, .int 0)]) hx hb dL_law_1601 hl (by decide) rfl (fun ls hl => ?_)
    refine lv_aload_n hx hb dL_law_1603 rfl (lv_at hl 4 rfl) ?_
    have hPc := hP.sub (ws' := [(m0, .inr (11, (y0.set 9 (.int 0)).set 9 (.int 2)))]) [2] rfl
    have hDc := hD.sub (ws' := [(m0, .inr (11, (y0.set 9 (.int 0)).set 9 (.int 2)))]) [2] (by decide) rfl
    have hFc := va_free (wc := [(m0, .inr (11, (y0.set 9 (.int 0)).set 9 (.int 2)))]) hD hS hA [2] rfl
    refine va_calli (va_runV (As := []) (rest := []) ⟨hx, hb, hml, hown, hts⟩ (a175_X12_thrown l  D kA V H.size m0 ((y0.set 9 (.int 0)).set 9 (.int 2)) (fun k hk => (by rw [List.length_set]; exact (by rw [List.length_set]; exact (hq k hk)))) (List.getElem?_set_self (by rw [List.length_set]; exact (hq 9 (by decide))))) (cwV 0 hts (gw_V gw_1879 gw_1880 gw_1881 gw_16 gw_1882) rfl rfl rfl (by decide +kernel) ⟨(Nat.le_of_ble_eq_true rfl), (Nat.le_of_ble_eq_true rfl)⟩) ⟨aP.blind, va_recv hK hP (ci := 11) (q0 := 2) rfl rfl, aP.pre hE hS hPc hK hDc hFc⟩ rfl rfl hl.1 rfl (lv_room (Nat.le_of_ble_eq_true rfl)) dL_law_1604 ⟨(Nat.le_of_ble_eq_true rfl), (Nat.le_of_ble_eq_true rfl)⟩) hS (fun q _ h => hFc q h) hFc (fun r_100776 u t H1 locs ht hvm hw hB hz1 hk1 hS => ?_)
    obtain ⟨hP1, hD1⟩ := hB
    rw [ht] at hP1
    try dsimp only at hw hP1 hD1
    have w_100777 := hw
    subst w_100777
    obtain ⟨hP, hD⟩ := va_join (wr := [(h0, .inr (10, [.ref x0, .int 0, .ref x1, .ref x2, .ref x3, .ref x4, .ref x5, .ref x6, .ref x7, .ref x8, .int 0, .int 3000])), (o0, .inl (kA 1, 1, .inr (.inl (fun _ => 0))))]) (w1 := [(m0, .inr (11, ((y0.set 9 (.int 0)).set 9 (.int 2))))]) hP hD [2] [0, 1] rfl rfl (by decide) (by decide) hk1 hFc hP1 hD1
    generalize H1 = H at hP hS ⊢
    have hP : va_P D vwCl [(h0, .inr (10, [.ref x0, .int 0, .ref x1, .ref x2, .ref x3, .ref x4, .ref x5, .ref x6, .ref x7, .ref x8, .int 0, .int 3000])), (o0, .inl (kA 1, 1, .inr (.inl (fun _ => 0)))), (m0, .inr (11, ((y0.set 9 (.int 0)).set 9 (.int 2))))] H := hP
    have hD : va_D A [(h0, .inr (10, [.ref x0, .int 0, .ref x1, .ref x2, .ref x3, .ref x4, .ref x5, .ref x6, .ref x7, .ref x8, .int 0, .int 3000])), (o0, .inl (kA 1, 1, .inr (.inl (fun _ => 0)))), (m0, .inr (11, ((y0.set 9 (.int 0)).set 9 (.int 2))))] := hD
    refine lv_iload hx hb dL_law_1607 (lv_at hl 1 rfl) ?_
    refine lv_icmp_eq (tgt := 1614) hx hb dL_law_1609 (by decide) (fun c_100778 => ?_) (fun c_100778 => ?_)
    · skip
      refine lv_iload hx hb dL_law_1614 (lv_at hl 1 rfl) ?_
      refine lv_if_ne (tgt := 1630) hx hb dL_law_1616 (by decide) (fun c_100779 => ?_) (fun c_100779 => ?_)
      · skip
        refine lv_goto (tgt := 1804) hx hb dL_law_1630 (by decide) ?_
        exact lk_tail hC hA2 (lv_sub hl [2, 6] rfl) hS (Nat.le_of_ble_eq_true rfl) (Nat.le_of_ble_eq_true rfl)
      · exact absurd c_100779 (by decide)
    · exact absurd (by decide) c_100778
  · obtain ⟨c_100613, c_100614, c_100615, c_100616, c_100617, c_100618, c_100619, c_100620, c_100621, c_100622, c_100623, c_100624, c_100625, c_100626, c_100627, w_100628, w_100629⟩ := hz
    subst w_100628
    subst w_100629
    obtain ⟨hP, hD⟩ := va_join (wr := [(h0, .inr (10, [.ref x0, .int 0, .ref x1, .ref x2, .ref x3, .ref x4, .ref x5, .ref x6, .ref x7, .ref x8, .int 0, .int 3000])), (o0, .inl (kA 1, 1, .inr (.inl (fun _ => 0))))]) (w1 := [(m0, .inr (11, (y0.set 9 (.int 0)).set 9 (.int 2)))]) hP hD [0] [1, 2] rfl rfl (by decide) (by decide) hk1 hFc hP1 hD1
    generalize H1 = H at hP hS ⊢
    have hP : va_P D vwCl [(h0, .inr (10, [.ref x0, .int 0, .ref x1, .ref x2, .ref x3, .ref x4, .ref x5, .ref x6, .ref x7, .ref x8, .int 0, .int 3000])), (o0, .inl (kA 1, 1, .inr (.inl (fun _ => 0)))), (m0, .inr (11, (y0.set 9 (.int 0)).set 9 (.int 2)))] H := hP
    have hD : va_D A [(h0, .inr (10, [.ref x0, .int 0, .ref x1, .ref x2, .ref x3, .ref x4, .ref x5, .ref x6, .ref x7, .ref x8, .int 0, .int 3000])), (o0, .inl (kA 1, 1, .inr (.inl (fun _ => 0)))), (m0, .inr (11, (y0.set 9 (.int 0)).set 9 (.int 2)))] := hD
    refine lv_lstore (lv' := [(6, .long 0), (5, .int 2), (0, .ref b), (1, .ref h0), (2, .ref m0), (3, .ref o0), (4, .int 0)]) hx hb dL_law_1601 hl (by decide) rfl (fun ls hl => ?_)
    refine lv_aload_n hx hb dL_law_1603 rfl (lv_at hl 4 rfl) ?_
    have hPc := hP.sub (ws' := [(m0, .inr (11, (y0.set 9 (.int 0)).set 9 (.int 2)))]) [2] rfl
    have hDc := hD.sub (ws' := [(m0, .inr (11, (y0.set 9 (.int 0)).set 9 (.int 2)))]) [2] (by decide) rfl
    have hFc := va_free (wc := [(m0, .inr (11, (y0.set 9 (.int 0)).set 9 (.int 2)))]) hD hS hA [2] rfl
    refine va_calli (va_runV (As := []) (rest := []) ⟨hx, hb, hml, hown, hts⟩ (a175_X12_thrown l  D kA V H.size m0 ((y0.set 9 (.int 0)).set 9 (.int 2)) (fun k hk => (by rw [List.length_set]; exact (by rw [List.length_set]; exact (hq k hk)))) (List.getElem?_set_self (by rw [List.length_set]; exact (hq 9 (by decide))))) (cwV 0 hts (gw_V gw_1879 gw_1880 gw_1881 gw_16 gw_1882) rfl rfl rfl (by decide +kernel) ⟨(Nat.le_of_ble_eq_true rfl), (Nat.le_of_ble_eq_true rfl)⟩) ⟨aP.blind, va_recv hK hP (ci := 11) (q0 := 2) rfl rfl, aP.pre hE hS hPc hK hDc hFc⟩ rfl rfl hl.1 rfl (lv_room (Nat.le_of_ble_eq_true rfl)) dL_law_1604 ⟨(Nat.le_of_ble_eq_true rfl), (Nat.le_of_ble_eq_true rfl)⟩) hS (fun q _ h => hFc q h) hFc (fun r_100780 u t H1 locs ht hvm hw hB hz1 hk1 hS => ?_)
    obtain ⟨hP1, hD1⟩ := hB
    rw [ht] at hP1
    try dsimp only at hw hP1 hD1
    have w_100781 := hw
    subst w_100781
    obtain ⟨hP, hD⟩ := va_join (wr := [(h0, .inr (10, [.ref x0, .int 0, .ref x1, .ref x2, .ref x3, .ref x4, .ref x5, .ref x6, .ref x7, .ref x8, .int 0, .int 3000])), (o0, .inl (kA 1, 1, .inr (.inl (fun _ => 0))))]) (w1 := [(m0, .inr (11, ((y0.set 9 (.int 0)).set 9 (.int 2))))]) hP hD [2] [0, 1] rfl rfl (by decide) (by decide) hk1 hFc hP1 hD1
    generalize H1 = H at hP hS ⊢
    have hP : va_P D vwCl [(h0, .inr (10, [.ref x0, .int 0, .ref x1, .ref x2, .ref x3, .ref x4, .ref x5, .ref x6, .ref x7, .ref x8, .int 0, .int 3000])), (o0, .inl (kA 1, 1, .inr (.inl (fun _ => 0)))), (m0, .inr (11, ((y0.set 9 (.int 0)).set 9 (.int 2))))] H := hP
    have hD : va_D A [(h0, .inr (10, [.ref x0, .int 0, .ref x1, .ref x2, .ref x3, .ref x4, .ref x5, .ref x6, .ref x7, .ref x8, .int 0, .int 3000])), (o0, .inl (kA 1, 1, .inr (.inl (fun _ => 0)))), (m0, .inr (11, ((y0.set 9 (.int 0)).set 9 (.int 2))))] := hD
    refine lv_iload hx hb dL_law_1607 (lv_at hl 1 rfl) ?_
    refine lv_icmp_eq (tgt := 1614) hx hb dL_law_1609 (by decide) (fun c_100782 => ?_) (fun c_100782 => ?_)
    · skip
      refine lv_iload hx hb dL_law_1614 (lv_at hl 1 rfl) ?_
      refine lv_if_ne (tgt := 1630) hx hb dL_law_1616 (by decide) (fun c_100783 => ?_) (fun c_100783 => ?_)
      · skip
        refine lv_goto (tgt := 1804) hx hb dL_law_1630 (by decide) ?_
        exact lk_tail hC hA2 (lv_sub hl [2, 6] rfl) hS (Nat.le_of_ble_eq_true rfl) (Nat.le_of_ble_eq_true rfl)
      · exact absurd c_100783 (by decide)
    · exact absurd (by decide) c_100782
  · obtain ⟨c_100630, c_100631, c_100632, c_100633, c_100634, c_100635, c_100636, c_100637, c_100638, c_100639, c_100640, c_100641, c_100642, c_100643, c_100644, w_100645, w_100646⟩ := hz
    subst w_100645
    subst w_100646
    obtain ⟨hP, hD⟩ := va_join (wr := [(h0, .inr (10, [.ref x0, .int 0, .ref x1, .ref x2, .ref x3, .ref x4, .ref x5, .ref x6, .ref x7, .ref x8, .int 0, .int 3000])), (o0, .inl (kA 1, 1, .inr (.inl (fun _ => 0))))]) (w1 := [(m0, .inr (11, (y0.set 9 (.int 0)).set 9 (.int 2)))]) hP hD [0] [1, 2] rfl rfl (by decide) (by decide) hk1 hFc hP1 hD1
    generalize H1 = H at hP hS ⊢
    have hP : va_P D vwCl [(h0, .inr (10, [.ref x0, .int 0, .ref x1, .ref x2, .ref x3, .ref x4, .ref x5, .ref x6, .ref x7, .ref x8, .int 0, .int 3000])), (o0, .inl (kA 1, 1, .inr (.inl (fun _ => 0)))), (m0, .inr (11, (y0.set 9 (.int 0)).set 9 (.int 2)))] H := hP
    have hD : va_D A [(h0, .inr (10, [.ref x0, .int 0, .ref x1, .ref x2, .ref x3, .ref x4, .ref x5, .ref x6, .ref x7, .ref x8, .int 0, .int 3000])), (o0, .inl (kA 1, 1, .inr (.inl (fun _ => 0)))), (m0, .inr (11, (y0.set 9 (.int 0)).set 9 (.int 2)))] := hD
    refine lv_lstore (lv' := [(6, .long 0), (5, .int 2), (0, .ref b), (1, .ref h0), (2, .ref m0), (3, .ref o0), (4, .int 0)]) hx hb dL_law_1601 hl (by decide) rfl (fun ls hl => ?_)
    refine lv_aload_n hx hb dL_law_1603 rfl (lv_at hl 4 rfl) ?_
    have hPc := hP.sub (ws' := [(m0, .inr (11, (y0.set 9 (.int 0)).set 9 (.int 2)))]) [2] rfl
    have hDc := hD.sub (ws' := [(m0, .inr (11, (y0.set 9 (.int 0)).set 9 (.int 2)))]) [2] (by decide) rfl
    have hFc := va_free (wc := [(m0, .inr (11, (y0.set 9 (.int 0)).set 9 (.int 2)))]) hD hS hA [2] rfl
    refine va_calli (va_runV (As := []) (rest := []) ⟨hx, hb, hml, hown, hts⟩ (a175_X12_thrown l  D kA V H.size m0 ((y0.set 9 (.int 0)).set 9 (.int 2)) (fun k hk => (by rw [List.length_set]; exact (by rw [List.length_set]; exact (hq k hk)))) (List.getElem?_set_self (by rw [List.length_set]; exact (hq 9 (by decide))))) (cwV 0 hts (gw_V gw_1879 gw_1880 gw_1881 gw_16 gw_1882) rfl rfl rfl (by decide +kernel) ⟨(Nat.le_of_ble_eq_true rfl), (Nat.le_of_ble_eq_true rfl)⟩) ⟨aP.blind, va_recv hK hP (ci := 11) (q0 := 2) rfl rfl, aP.pre hE hS hPc hK hDc hFc⟩ rfl rfl hl.1 rfl (lv_room (Nat.le_of_ble_eq_true rfl)) dL_law_1604 ⟨(Nat.le_of_ble_eq_true rfl), (Nat.le_of_ble_eq_true rfl)⟩) hS (fun q _ h => hFc q h) hFc (fun r_100784 u t H1 locs ht hvm hw hB hz1 hk1 hS => ?_)
    obtain ⟨hP1, hD1⟩ := hB
    rw [ht] at hP1
    try dsimp only at hw hP1 hD1
    have w_100785 := hw
    subst w_100785
    obtain ⟨hP, hD⟩ := va_join (wr := [(h0, .inr (10, [.ref x0, .int 0, .ref x1, .ref x2, .ref x3, .ref x4, .ref x5, .ref x6, .ref x7, .ref x8, .int 0, .int 3000])), (o0, .inl (kA 1, 1, .inr (.inl (fun _ => 0))))]) (w1 := [(m0, .inr (11, ((y0.set 9 (.int 0)).set 9 (.int 2))))]) hP hD [2] [0, 1] rfl rfl (by decide) (by decide) hk1 hFc hP1 hD1
    generalize H1 = H at hP hS ⊢
    have hP : va_P D vwCl [(h0, .inr (10, [.ref x0, .int 0, .ref x1, .ref x2, .ref x3, .ref x4, .ref x5, .ref x6, .ref x7, .ref x8, .int 0, .int 3000])), (o0, .inl (kA 1, 1, .inr (.inl (fun _ => 0)))), (m0, .inr (11, ((y0.set 9 (.int 0)).set 9 (.int 2))))] H := hP
    have hD : va_D A [(h0, .inr (10, [.ref x0, .int 0, .ref x1, .ref x2, .ref x3, .ref x4, .ref x5, .ref x6, .ref x7, .ref x8, .int 0, .int 3000])), (o0, .inl (kA 1, 1, .inr (.inl (fun _ => 0)))), (m0, .inr (11, ((y0.set 9 (.int 0)).set 9 (.int 2))))] := hD
    refine lv_iload hx hb dL_law_1607 (lv_at hl 1 rfl) ?_
    refine lv_icmp_eq (tgt := 1614) hx hb dL_law_1609 (by decide) (fun c_100786 => ?_) (fun c_100786 => ?_)
    · skip
      refine lv_iload hx hb dL_law_1614 (lv_at hl 1 rfl) ?_
      refine lv_if_ne (tgt := 1630) hx hb dL_law_1616 (by decide) (fun c_100787 => ?_) (fun c_100787 => ?_)
      · skip
        refine lv_goto (tgt := 1804) hx hb dL_law_1630 (by decide) ?_
        exact lk_tail hC hA2 (lv_sub hl [2, 6] rfl) hS (Nat.le_of_ble_eq_true rfl) (Nat.le_of_ble_eq_true rfl)
      · exact absurd c_100787 (by decide)
    · exact absurd (by decide) c_100786
  · exact False.elim (by have a1 := (iyE (n := 2) hz.2.2.2.2.2.2.2.2.1 (by decide)); have a2 := (iyE (n := 3) c_35 (by decide)); omega)
  · exact False.elim (by have a1 := (iyE (n := 2) hz.2.2.2.2.2.2.2.2.1 (by decide)); have a2 := (iyE (n := 3) c_35 (by decide)); omega)
  · exact False.elim (by have a1 := (iyE (n := 2) hz.2.2.2.2.2.2.2.2.1 (by decide)); have a2 := (iyE (n := 3) c_35 (by decide)); omega)
  · exact False.elim (by have a1 := (iyE (n := 1) hz.2.2.2.2.2.2.2.1 (by decide)); have a2 := (iyE (n := 3) c_35 (by decide)); omega)
  · exact False.elim (by have a1 := (iyE (n := 1) hz.2.2.2.2.2.2.2.1 (by decide)); have a2 := (iyE (n := 3) c_35 (by decide)); omega)
  · exact False.elim (by have a1 := (iyE (n := 1) hz.2.2.2.2.2.2.2.1 (by decide)); have a2 := (iyE (n := 3) c_35 (by decide)); omega)
  · exact False.elim (by have a1 := (iyE (n := 0) hz.2.2.2.2.2.2.1 (by decide)); have a2 := (iyE (n := 3) c_35 (by decide)); omega)
  · exact False.elim (by have a1 := (iyE (n := 0) hz.2.2.2.2.2.2.1 (by decide)); have a2 := (iyE (n := 3) c_35 (by decide)); omega)
  · exact False.elim (by have a1 := (iyE (n := 0) hz.2.2.2.2.2.2.1 (by decide)); have a2 := (iyE (n := 3) c_35 (by decide)); omega)
set_option maxHeartbeats 4000000 in
set_option maxRecDepth 100000 in
theorem lk_22_6 {p : Program} {l : Launch} {e : Env} {s : State} {m : MethodId} {below : List Frame} {meth : Method} {c : Code} {D : va_G} {kA : Nat → ClassId} {V : Nat → Nat} {b : Nat} {xs : Nat → Int32} {A : Nat → Prop} (hC : lw_C p l s m meth c b 8 xs D kA V A) (hA2 : ∀ q, A q → s.heap.size ≤ q) (h0 : Nat) (m0 : Nat) (o0 : Nat) (x0 : Nat) (x1 : Nat) (x2 : Nat) (x3 : Nat) (x4 : Nat) (x5 : Nat) (x6 : Nat) (x7 : Nat) (x8 : Nat) (y0 : List Value) (hq : ∀ k, k < 121 → k < y0.length) (hq9 : y0[9]? = some (.int 0)) (c_38 : ¬ (xs 2) < 0) (c_39 : ¬ 4 < (xs 2)) (c_40 : ¬ (xs 3) < 0) (c_41 : ¬ 4 < (xs 3)) (c_42 : ¬ (xs 1) < 0) (c_43 : (xs 1) ≤ 10) (c_44 : (n_cut (xs 3) ((((xs 6).toInt64) <<< ((32 : Int32).toInt64 &&& 63)) ||| (((xs 7).toInt64) &&& 4294967295))) = 0) (c_45 : ¬ (xs 1) = 3) (c_46 : (xs 1) = 4) {H : Heap} {locs : List Loc} {ls : Array Slot} (hl : lv_has ls 8 [(0, .ref b), (1, .ref h0), (2, .ref m0), (3, .ref o0), (4, .int 0)]) (hS : va_S A s.heap H locs) (hP : va_P D vwCl [(m0, .inr (11, y0)), (h0, .inr (10, [.ref x0, .int 0, .ref x1, .ref x2, .ref x3, .ref x4, .ref x5, .ref x6, .ref x7, .ref x8, .int 0, .int 3000])), (o0, .inl (kA 1, 1, .inr (.inl (fun _ => 0))))] H) (hD : va_D A [(m0, .inr (11, y0)), (h0, .inr (10, [.ref x0, .int 0, .ref x1, .ref x2, .ref x3, .ref x4, .ref x5, .ref x6, .ref x7, .ref x8, .int 0, .int 3000])), (o0, .inl (kA 1, 1, .inr (.inl (fun _ => 0))))]) : W p l e room_1 s m #[Value.ref b] below meth c H locs 515 172799 (lw_Z below #[Value.ref b] s) (F0 m 1531 ls [.int 2]) := by
  have ⟨hst, hx, hb, hr, hml, hown, hts, hG, hX, hbl, hbA, hlocks, hE, hK, hA⟩ := hC
  refine lv_istore (lv' := [(5, .int 2), (0, .ref b), (1, .ref h0), (2, .ref m0), (3, .ref o0), (4, .int 0)]) hx hb dL_law_1531 hl (by decide) rfl (fun ls hl => ?_)
  refine lv_aload_n hx hb dL_law_1533 rfl (lv_at hl 3 rfl) ?_
  refine lv_aload_n hx hb dL_law_1534 rfl (lv_at hl 1 rfl) ?_
  refine lv_iload hx hb dL_law_1535 (lv_at hl 5 rfl) ?_
  refine lv_iconst (v := 1) hx hb dL_law_1537 (by decide) ?_
  refine lv_iadd hx hb dL_law_1538 ?_
  refine W.eq (g2 := F0 m 1539 ls [.int 1, .ref b, .ref m0]) rfl ?_
  refine va_sld hx hb hX hbl hbA hS (show vp_in 1 8 by unfold vp_in; decide) dL_law_1539 ?_
  refine W.eq (g2 := F0 m 1540 ls [.int (xs 1), .ref m0]) rfl ?_
  refine lv_aload_n hx hb dL_law_1540 rfl (lv_at hl 1 rfl) ?_
  refine lv_iload hx hb dL_law_1541 (lv_at hl 5 rfl) ?_
  refine lv_iconst (v := 2) hx hb dL_law_1543 (by decide) ?_
  refine lv_iadd hx hb dL_law_1544 ?_
  refine W.eq (g2 := F0 m 1545 ls [.int 2, .ref b, .int (xs 1), .ref m0]) rfl ?_
  refine va_sld hx hb hX hbl hbA hS (show vp_in 2 8 by unfold vp_in; decide) dL_law_1545 ?_
  refine W.eq (g2 := F0 m 1546 ls [.int (xs 2), .int (xs 1), .ref m0]) rfl ?_
  refine lv_aload_n hx hb dL_law_1546 rfl (lv_at hl 1 rfl) ?_
  refine lv_iload hx hb dL_law_1547 (lv_at hl 5 rfl) ?_
  refine lv_iconst (v := 3) hx hb dL_law_1549 (by decide) ?_
  refine lv_iadd hx hb dL_law_1550 ?_
  refine W.eq (g2 := F0 m 1551 ls [.int 3, .ref b, .int (xs 2), .int (xs 1), .ref m0]) rfl ?_
  refine va_sld hx hb hX hbl hbA hS (show vp_in 3 8 by unfold vp_in; decide) dL_law_1551 ?_
  refine W.eq (g2 := F0 m 1552 ls [.int (xs 3), .int (xs 2), .int (xs 1), .ref m0]) rfl ?_
  refine lv_aload_n hx hb dL_law_1552 rfl (lv_at hl 1 rfl) ?_
  refine lv_iload hx hb dL_law_1553 (lv_at hl 5 rfl) ?_
  refine lv_iconst (v := 4) hx hb dL_law_1555 (by decide) ?_
  refine lv_iadd hx hb dL_law_1556 ?_
  refine W.eq (g2 := F0 m 1557 ls [.int 4, .ref b, .int (xs 3), .int (xs 2), .int (xs 1), .ref m0]) rfl ?_
  refine va_sld hx hb hX hbl hbA hS (show vp_in 4 8 by unfold vp_in; decide) dL_law_1557 ?_
  refine W.eq (g2 := F0 m 1558 ls [.int (xs 4), .int (xs 3), .int (xs 2), .int (xs 1), .ref m0]) rfl ?_
  refine lv_i2l (v := (xs 4).toInt64) hx hb dL_law_1558 rfl ?_
  refine lv_bipush (v := 32) hx hb dL_law_1559 (by decide) ?_
  refine lv_lshl (v := ((xs 4).toInt64) <<< ((32 : Int32).toInt64 &&& 63)) hx hb dL_law_1561 rfl ?_
  refine lv_aload_n hx hb dL_law_1562 rfl (lv_at hl 1 rfl) ?_
  refine lv_iload hx hb dL_law_1563 (lv_at hl 5 rfl) ?_
  refine lv_iconst (v := 5) hx hb dL_law_1565 (by decide) ?_
  refine lv_iadd hx hb dL_law_1566 ?_
  refine W.eq (g2 := F0 m 1567 ls [.int 5, .ref b, .long (((xs 4).toInt64) <<< ((32 : Int32).toInt64 &&& 63)), .int (xs 3), .int (xs 2), .int (xs 1), .ref m0]) rfl ?_
  refine va_sld hx hb hX hbl hbA hS (show vp_in 5 8 by unfold vp_in; decide) dL_law_1567 ?_
  refine W.eq (g2 := F0 m 1568 ls [.int (xs 5), .long (((xs 4).toInt64) <<< ((32 : Int32).toInt64 &&& 63)), .int (xs 3), .int (xs 2), .int (xs 1), .ref m0]) rfl ?_
  refine lv_i2l (v := (xs 5).toInt64) hx hb dL_law_1568 rfl ?_
  refine lv_ldc2 (v := 4294967295) hx hb hown (hG _ gw_2764) dL_law_1569 ?_
  refine lv_land hx hb dL_law_1572 ?_
  refine lv_lor hx hb dL_law_1573 ?_
  refine lv_aload_n hx hb dL_law_1574 rfl (lv_at hl 1 rfl) ?_
  refine lv_iload hx hb dL_law_1575 (lv_at hl 5 rfl) ?_
  refine lv_bipush (v := 6) hx hb dL_law_1577 (by decide) ?_
  refine lv_iadd hx hb dL_law_1579 ?_
  refine W.eq (g2 := F0 m 1580 ls [.int 6, .ref b, .long ((((xs 4).toInt64) <<< ((32 : Int32).toInt64 &&& 63)) ||| (((xs 5).toInt64) &&& 4294967295)), .int (xs 3), .int (xs 2), .int (xs 1), .ref m0]) rfl ?_
  refine va_sld hx hb hX hbl hbA hS (show vp_in 6 8 by unfold vp_in; decide) dL_law_1580 ?_
  refine W.eq (g2 := F0 m 1581 ls [.int (xs 6), .long ((((xs 4).toInt64) <<< ((32 : Int32).toInt64 &&& 63)) ||| (((xs 5).toInt64) &&& 4294967295)), .int (xs 3), .int (xs 2), .int (xs 1), .ref m0]) rfl ?_
  refine lv_i2l (v := (xs 6).toInt64) hx hb dL_law_1581 rfl ?_
  refine lv_bipush (v := 32) hx hb dL_law_1582 (by decide) ?_
  refine lv_lshl (v := ((xs 6).toInt64) <<< ((32 : Int32).toInt64 &&& 63)) hx hb dL_law_1584 rfl ?_
  refine lv_aload_n hx hb dL_law_1585 rfl (lv_at hl 1 rfl) ?_
  refine lv_iload hx hb dL_law_1586 (lv_at hl 5 rfl) ?_
  refine lv_bipush (v := 7) hx hb dL_law_1588 (by decide) ?_
  refine lv_iadd hx hb dL_law_1590 ?_
  refine W.eq (g2 := F0 m 1591 ls [.int 7, .ref b, .long (((xs 6).toInt64) <<< ((32 : Int32).toInt64 &&& 63)), .long ((((xs 4).toInt64) <<< ((32 : Int32).toInt64 &&& 63)) ||| (((xs 5).toInt64) &&& 4294967295)), .int (xs 3), .int (xs 2), .int (xs 1), .ref m0]) rfl ?_
  refine va_sld hx hb hX hbl hbA hS (show vp_in 7 8 by unfold vp_in; decide) dL_law_1591 ?_
  refine W.eq (g2 := F0 m 1592 ls [.int (xs 7), .long (((xs 6).toInt64) <<< ((32 : Int32).toInt64 &&& 63)), .long ((((xs 4).toInt64) <<< ((32 : Int32).toInt64 &&& 63)) ||| (((xs 5).toInt64) &&& 4294967295)), .int (xs 3), .int (xs 2), .int (xs 1), .ref m0]) rfl ?_
  refine lv_i2l (v := (xs 7).toInt64) hx hb dL_law_1592 rfl ?_
  refine lv_ldc2 (v := 4294967295) hx hb hown (hG _ gw_2764) dL_law_1593 ?_
  refine lv_land hx hb dL_law_1596 ?_
  refine lv_lor hx hb dL_law_1597 ?_
  have hPc := hP.sub (ws' := [(m0, .inr (11, y0))]) [0] rfl
  have hDc := hD.sub (ws' := [(m0, .inr (11, y0))]) [0] (by decide) rfl
  have hFc := va_free (wc := [(m0, .inr (11, y0))]) hD hS hA [0] rfl
  refine va_calll (va_runV (As := [.int (xs 1), .int (xs 2), .int (xs 3), .long ((((xs 4).toInt64) <<< ((32 : Int32).toInt64 &&& 63)) ||| (((xs 5).toInt64) &&& 4294967295)), .long ((((xs 6).toInt64) <<< ((32 : Int32).toInt64 &&& 63)) ||| (((xs 7).toInt64) &&& 4294967295))]) (rest := []) ⟨hx, hb, hml, hown, hts⟩ (a153_X12_work l  D kA V H.size m0 (xs 1) (xs 2) (xs 3) ((((xs 4).toInt64) <<< ((32 : Int32).toInt64 &&& 63)) ||| (((xs 5).toInt64) &&& 4294967295)) ((((xs 6).toInt64) <<< ((32 : Int32).toInt64 &&& 63)) ||| (((xs 7).toInt64) &&& 4294967295)) y0 (fun k hk => (hq k hk)) hq9) (cwV 5 hts (gw_V gw_2756 gw_2757 gw_2758 gw_16 gw_2759) rfl rfl rfl (by decide +kernel) ⟨(Nat.le_of_ble_eq_true rfl), (Nat.le_of_ble_eq_true rfl)⟩) ⟨aP.blind, va_recv hK hP (ci := 11) (q0 := 0) rfl rfl, aP.pre hE hS hPc hK hDc hFc⟩ rfl rfl hl.1 rfl (lv_room (Nat.le_of_ble_eq_true rfl)) dL_law_1598 ⟨(Nat.le_of_ble_eq_true rfl), (Nat.le_of_ble_eq_true rfl)⟩) hS (fun q _ h => hFc q h) hFc (fun r_100001 u t H1 locs ht hvm hw hB hz1 hk1 hS => ?_)
  obtain ⟨u_100002, rfl⟩ : ∃ z, z = u := ⟨u, rfl⟩
  obtain ⟨hP1, hD1⟩ := hB
  rw [ht] at hP1
  try dsimp only at hw hP1 hD1
  rcases hw with hz | hz | hz | hz | hz | hz | hz | hz | hz | hz | hz | hz | hz | hz | hz | hz | hz | hz | hz | hz | hz | hz | hz | hz | hz | hz | hz | hz | hz | hz | hz | hz | hz | hz | hz | hz | hz | hz | hz | hz | hz | hz | hz | hz | hz | hz | hz | hz | hz | hz | hz | hz
  · exact absurd hz.1 c_42
  · exact absurd hz.1 c_42
  · exact absurd hz.1 c_42
  · exact absurd hz.1 c_42
  · exact absurd hz.1 c_42
  · exact absurd hz.2.1 (Int32.not_lt.mpr c_43)
  · exact absurd hz.2.1 (Int32.not_lt.mpr c_43)
  · exact absurd hz.2.1 (Int32.not_lt.mpr c_43)
  · exact absurd hz.2.1 (Int32.not_lt.mpr c_43)
  · exact absurd hz.2.1 (Int32.not_lt.mpr c_43)
  · exact absurd hz.2.2.1 c_38
  · exact absurd hz.2.2.2.1 c_39
  · exact absurd hz.2.2.2.2.1 c_40
  · exact absurd hz.2.2.2.2.2.1 c_41
  · exact absurd c_46 hz.2.2.2.2.2.2.2.2.2.2.1
  · exact absurd c_46 hz.2.2.2.2.2.2.2.2.2.2.1
  · exact absurd c_46 hz.2.2.2.2.2.2.2.2.2.2.1
  · exact absurd c_46 hz.2.2.2.2.2.2.2.2.2.2.1
  · exact absurd c_46 hz.2.2.2.2.2.2.2.2.2.2.1
  · exact absurd c_46 hz.2.2.2.2.2.2.2.2.2.2.1
  · exact absurd c_46 hz.2.2.2.2.2.2.2.2.2.2.1
  · exact absurd c_46 hz.2.2.2.2.2.2.2.2.2.2.1
  · exact absurd c_46 hz.2.2.2.2.2.2.2.2.2.2.1
  · exact absurd c_46 hz.2.2.2.2.2.2.2.2.2.2.1
  · exact absurd c_46 hz.2.2.2.2.2.2.2.2.2.2.1
  · exact absurd c_46 hz.2.2.2.2.2.2.2.2.2.2.1
  · exact absurd c_46 hz.2.2.2.2.2.2.2.2.2.2.1
  · exact absurd c_46 hz.2.2.2.2.2.2.2.2.2.2.1
  · exact absurd c_46 hz.2.2.2.2.2.2.2.2.2.2.1
  · exact absurd c_46 hz.2.2.2.2.2.2.2.2.2.2.1
  · exact absurd c_46 hz.2.2.2.2.2.2.2.2.2.2.1
  · exact absurd c_44 hz.2.2.2.2.2.2.2.2.2.2.2.2.2.1
  · exact absurd c_44 hz.2.2.2.2.2.2.2.2.2.2.2.2.2.1
  · exact absurd c_44 hz.2.2.2.2.2.2.2.2.2.2.2.2.2.1
  · obtain ⟨c_100494, c_100495, c_100496, c_100497, c_100498, c_100499, c_100500, c_100501, c_100502, c_100503, c_100504, c_100505, c_100506, c_100507, c_100508, w_100509, w_100510⟩ := hz
    subst w_100509
    subst w_100510
    obtain ⟨hP, hD⟩ := va_join (wr := [(h0, .inr (10, [.ref x0, .int 0, .ref x1, .ref x2, .ref x3, .ref x4, .ref x5, .ref x6, .ref x7, .ref x8, .int 0, .int 3000])), (o0, .inl (kA 1, 1, .inr (.inl (fun _ => 0))))]) (w1 := [(m0, .inr (11, (y0.set 9 (.int 0)).set 9 (.int 2)))]) hP hD [0] [1, 2] rfl rfl (by decide) (by decide) hk1 hFc hP1 hD1
    generalize H1 = H at hP hS ⊢
    have hP : va_P D vwCl [(h0, .inr (10, [.ref x0, .int 0, .ref x1, .ref x2, .ref x3, .ref x4, .ref x5, .ref x6, .ref x7, .ref x8, .int 0, .int 3000])), (o0, .inl (kA 1, 1, .inr (.inl (fun _ => 0)))), (m0, .inr (11, (y0.set 9 (.int 0)).set 9 (.int 2)))] H := hP
    have hD : va_D A [(h0, .inr (10, [.ref x0, .int 0, .ref x1, .ref x2, .ref x3, .ref x4, .ref x5, .ref x6, .ref x7, .ref x8, .int 0, .int 3000])), (o0, .inl (kA 1, 1, .inr (.inl (fun _ => 0)))), (m0, .inr (11, (y0.set 9 (.int 0)).set 9 (.int 2)))] := hD
    refine lv_lstore (lv' := [(6, .long 0), (5, .int 2), (0, .ref b), (1, .ref h0), (2, .ref m0), (3, .ref o0), (4, .int 0)]) hx hb dL_law_1601 hl (by decide) rfl (fun ls hl => ?_)
    refine lv_aload_n hx hb dL_law_1603 rfl (lv_at hl 4 rfl) ?_
    have hPc := hP.sub (ws' := [(m0, .inr (11, (y0.set 9 (.int 0)).set 9 (.int 2)))]) [2] rfl
    have hDc := hD.sub (ws' := [(m0, .inr (11, (y0.set 9 (.int 0)).set 9 (.int 2)))]) [2] (by decide) rfl
    have hFc := va_free (wc := [(m0, .inr (11, (y0.set 9 (.int 0)).set 9 (.int 2)))]) hD hS hA [2] rfl
    refine va_calli (va_runV (As := []) (rest := []) ⟨hx, hb, hml, hown, hts⟩ (a175_X12_thrown l  D kA V H.size m0 ((y0.set 9 (.int 0)).set 9 (.int 2)) (fun k hk => (by rw [List.length_set]; exact (by rw [List.length_set]; exact (hq k hk)))) (List.getElem?_set_self (by rw [List.length_set]; exact (hq 9 (by decide))))) (cwV 0 hts (gw_V gw_1879 gw_1880 gw_1881 gw_16 gw_1882) rfl rfl rfl (by decide +kernel) ⟨(Nat.le_of_ble_eq_true rfl), (Nat.le_of_ble_eq_true rfl)⟩) ⟨aP.blind, va_recv hK hP (ci := 11) (q0 := 2) rfl rfl, aP.pre hE hS hPc hK hDc hFc⟩ rfl rfl hl.1 rfl (lv_room (Nat.le_of_ble_eq_true rfl)) dL_law_1604 ⟨(Nat.le_of_ble_eq_true rfl), (Nat.le_of_ble_eq_true rfl)⟩) hS (fun q _ h => hFc q h) hFc (fun r_100776 u t H1 locs ht hvm hw hB hz1 hk1 hS => ?_)
    obtain ⟨hP1, hD1⟩ := hB
    rw [ht] at hP1
    try dsimp only at hw hP1 hD1
    have w_100777 := hw
    subst w_100777
    obtain ⟨hP, hD⟩ := va_join (wr := [(h0, .inr (10, [.ref x0, .int 0, .ref x1, .ref x2, .ref x3, .ref x4, .ref x5, .ref x6, .ref x7, .ref x8, .int 0, .int 3000])), (o0, .inl (kA 1, 1, .inr (.inl (fun _ => 0))))]) (w1 := [(m0, .inr (11, ((y0.set 9 (.int 0)).set 9 (.int 2))))]) hP hD [2] [0, 1] rfl rfl (by decide) (by decide) hk1 hFc hP1 hD1
    generalize H1 = H at hP hS ⊢
    have hP : va_P D vwCl [(h0, .inr (10, [.ref x0, .int 0, .ref x1, .ref x2, .ref x3, .ref x4, .ref x5, .ref x6, .ref x7, .ref x8, .int 0, .int 3000])), (o0, .inl (kA 1, 1, .inr (.inl (fun _ => 0)))), (m0, .inr (11, ((y0.set 9 (.int 0)).set 9 (.int 2))))] H := hP
    have hD : va_D A [(h0, .inr (10, [.ref x0, .int 0, .ref x1, .ref x2, .ref x3, .ref x4, .ref x5, .ref x6, .ref x7, .ref x8, .int 0, .int 3000])), (o0, .inl (kA 1, 1, .inr (.inl (fun _ => 0)))), (m0, .inr (11, ((y0.set 9 (.int 0)).set 9 (.int 2))))] := hD
    refine lv_iload hx hb dL_law_1607 (lv_at hl 1 rfl) ?_
    refine lv_icmp_eq (tgt := 1614) hx hb dL_law_1609 (by decide) (fun c_100778 => ?_) (fun c_100778 => ?_)
    · skip
      refine lv_iload hx hb dL_law_1614 (lv_at hl 1 rfl) ?_
      refine lv_if_ne (tgt := 1630) hx hb dL_law_1616 (by decide) (fun c_100779 => ?_) (fun c_100779 => ?_)
      · skip
        refine lv_goto (tgt := 1804) hx hb dL_law_1630 (by decide) ?_
        exact lk_tail hC hA2 (lv_sub hl [2, 6] rfl) hS (Nat.le_of_ble_eq_true rfl) (Nat.le_of_ble_eq_true rfl)
      · exact absurd c_100779 (by decide)
    · exact absurd (by decide) c_100778
  · obtain ⟨c_100511, c_100512, c_100513, c_100514, c_100515, c_100516, c_100517, c_100518, c_100519, c_100520, c_100521, c_100522, c_100523, c_100524, c_100525, c_100526, c_100527, w_100528, w_100529⟩ := hz
    subst w_100528
    subst w_100529
    obtain ⟨hP, hD⟩ := va_join (wr := [(h0, .inr (10, [.ref x0, .int 0, .ref x1, .ref x2, .ref x3, .ref x4, .ref x5, .ref x6, .ref x7, .ref x8, .int 0, .int 3000])), (o0, .inl (kA 1, 1, .inr (.inl (fun _ => 0))))]) (w1 := [(m0, .inr (11, (y0.set 9 (.int 0)).set 9 (.int 2)))]) hP hD [0] [1, 2] rfl rfl (by decide) (by decide) hk1 hFc hP1 hD1
    generalize H1 = H at hP hS ⊢
    have hP : va_P D vwCl [(h0, .inr (10, [.ref x0, .int 0, .ref x1, .ref x2, .ref x3, .ref x4, .ref x5, .ref x6, .ref x7, .ref x8, .int 0, .int 3000])), (o0, .inl (kA 1, 1, .inr (.inl (fun _ => 0)))), (m0, .inr (11, (y0.set 9 (.int 0)).set 9 (.int 2)))] H := hP
    have hD : va_D A [(h0, .inr (10, [.ref x0, .int 0, .ref x1, .ref x2, .ref x3, .ref x4, .ref x5, .ref x6, .ref x7, .ref x8, .int 0, .int 3000])), (o0, .inl (kA 1, 1, .inr (.inl (fun _ => 0)))), (m0, .inr (11, (y0.set 9 (.int 0)).set 9 (.int 2)))] := hD
    refine lv_lstore (lv' := [(6, .long 0), (5, .int 2), (0, .ref b), (1, .ref h0), (2, .ref m0), (3, .ref o0), (4, .int 0)]) hx hb dL_law_1601 hl (by decide) rfl (fun ls hl => ?_)
    refine lv_aload_n hx hb dL_law_1603 rfl (lv_at hl 4 rfl) ?_
    have hPc := hP.sub (ws' := [(m0, .inr (11, (y0.set 9 (.int 0)).set 9 (.int 2)))]) [2] rfl
    have hDc := hD.sub (ws' := [(m0, .inr (11, (y0.set 9 (.int 0)).set 9 (.int 2)))]) [2] (by decide) rfl
    have hFc := va_free (wc := [(m0, .inr (11, (y0.set 9 (.int 0)).set 9 (.int 2)))]) hD hS hA [2] rfl
    refine va_calli (va_runV (As := []) (rest := []) ⟨hx, hb, hml, hown, hts⟩ (a175_X12_thrown l  D kA V H.size m0 ((y0.set 9 (.int 0)).set 9 (.int 2)) (fun k hk => (by rw [List.length_set]; exact (by rw [List.length_set]; exact (hq k hk)))) (List.getElem?_set_self (by rw [List.length_set]; exact (hq 9 (by decide))))) (cwV 0 hts (gw_V gw_1879 gw_1880 gw_1881 gw_16 gw_1882) rfl rfl rfl (by decide +kernel) ⟨(Nat.le_of_ble_eq_true rfl), (Nat.le_of_ble_eq_true rfl)⟩) ⟨aP.blind, va_recv hK hP (ci := 11) (q0 := 2) rfl rfl, aP.pre hE hS hPc hK hDc hFc⟩ rfl rfl hl.1 rfl (lv_room (Nat.le_of_ble_eq_true rfl)) dL_law_1604 ⟨(Nat.le_of_ble_eq_true rfl), (Nat.le_of_ble_eq_true rfl)⟩) hS (fun q _ h => hFc q h) hFc (fun r_100780 u t H1 locs ht hvm hw hB hz1 hk1 hS => ?_)
    obtain ⟨hP1, hD1⟩ := hB
    rw [ht] at hP1
    try dsimp only at hw hP1 hD1
    have w_100781 := hw
    subst w_100781
    obtain ⟨hP, hD⟩ := va_join (wr := [(h0, .inr (10, [.ref x0, .int 0, .ref x1, .ref x2, .ref x3, .ref x4, .ref x5, .ref x6, .ref x7, .ref x8, .int 0, .int 3000])), (o0, .inl (kA 1, 1, .inr (.inl (fun _ => 0))))]) (w1 := [(m0, .inr (11, ((y0.set 9 (.int 0)).set 9 (.int 2))))]) hP hD [2] [0, 1] rfl rfl (by decide) (by decide) hk1 hFc hP1 hD1
    generalize H1 = H at hP hS ⊢
    have hP : va_P D vwCl [(h0, .inr (10, [.ref x0, .int 0, .ref x1, .ref x2, .ref x3, .ref x4, .ref x5, .ref x6, .ref x7, .ref x8, .int 0, .int 3000])), (o0, .inl (kA 1, 1, .inr (.inl (fun _ => 0)))), (m0, .inr (11, ((y0.set 9 (.int 0)).set 9 (.int 2))))] H := hP
    have hD : va_D A [(h0, .inr (10, [.ref x0, .int 0, .ref x1, .ref x2, .ref x3, .ref x4, .ref x5, .ref x6, .ref x7, .ref x8, .int 0, .int 3000])), (o0, .inl (kA 1, 1, .inr (.inl (fun _ => 0)))), (m0, .inr (11, ((y0.set 9 (.int 0)).set 9 (.int 2))))] := hD
    refine lv_iload hx hb dL_law_1607 (lv_at hl 1 rfl) ?_
    refine lv_icmp_eq (tgt := 1614) hx hb dL_law_1609 (by decide) (fun c_100782 => ?_) (fun c_100782 => ?_)
    · skip
      refine lv_iload hx hb dL_law_1614 (lv_at hl 1 rfl) ?_
      refine lv_if_ne (tgt := 1630) hx hb dL_law_1616 (by decide) (fun c_100783 => ?_) (fun c_100783 => ?_)
      · skip
        refine lv_goto (tgt := 1804) hx hb dL_law_1630 (by decide) ?_
        exact lk_tail hC hA2 (lv_sub hl [2, 6] rfl) hS (Nat.le_of_ble_eq_true rfl) (Nat.le_of_ble_eq_true rfl)
      · exact absurd c_100783 (by decide)
    · exact absurd (by decide) c_100782
  · obtain ⟨c_100530, c_100531, c_100532, c_100533, c_100534, c_100535, c_100536, c_100537, c_100538, c_100539, c_100540, c_100541, c_100542, c_100543, c_100544, c_100545, c_100546, w_100547, w_100548⟩ := hz
    subst w_100547
    subst w_100548
    obtain ⟨hP, hD⟩ := va_join (wr := [(h0, .inr (10, [.ref x0, .int 0, .ref x1, .ref x2, .ref x3, .ref x4, .ref x5, .ref x6, .ref x7, .ref x8, .int 0, .int 3000])), (o0, .inl (kA 1, 1, .inr (.inl (fun _ => 0))))]) (w1 := [(m0, .inr (11, (y0.set 9 (.int 0)).set 9 (.int 2)))]) hP hD [0] [1, 2] rfl rfl (by decide) (by decide) hk1 hFc hP1 hD1
    generalize H1 = H at hP hS ⊢
    have hP : va_P D vwCl [(h0, .inr (10, [.ref x0, .int 0, .ref x1, .ref x2, .ref x3, .ref x4, .ref x5, .ref x6, .ref x7, .ref x8, .int 0, .int 3000])), (o0, .inl (kA 1, 1, .inr (.inl (fun _ => 0)))), (m0, .inr (11, (y0.set 9 (.int 0)).set 9 (.int 2)))] H := hP
    have hD : va_D A [(h0, .inr (10, [.ref x0, .int 0, .ref x1, .ref x2, .ref x3, .ref x4, .ref x5, .ref x6, .ref x7, .ref x8, .int 0, .int 3000])), (o0, .inl (kA 1, 1, .inr (.inl (fun _ => 0)))), (m0, .inr (11, (y0.set 9 (.int 0)).set 9 (.int 2)))] := hD
    refine lv_lstore (lv' := [(6, .long 0), (5, .int 2), (0, .ref b), (1, .ref h0), (2, .ref m0), (3, .ref o0), (4, .int 0)]) hx hb dL_law_1601 hl (by decide) rfl (fun ls hl => ?_)
    refine lv_aload_n hx hb dL_law_1603 rfl (lv_at hl 4 rfl) ?_
    have hPc := hP.sub (ws' := [(m0, .inr (11, (y0.set 9 (.int 0)).set 9 (.int 2)))]) [2] rfl
    have hDc := hD.sub (ws' := [(m0, .inr (11, (y0.set 9 (.int 0)).set 9 (.int 2)))]) [2] (by decide) rfl
    have hFc := va_free (wc := [(m0, .inr (11, (y0.set 9 (.int 0)).set 9 (.int 2)))]) hD hS hA [2] rfl
    refine va_calli (va_runV (As := []) (rest := []) ⟨hx, hb, hml, hown, hts⟩ (a175_X12_thrown l  D kA V H.size m0 ((y0.set 9 (.int 0)).set 9 (.int 2)) (fun k hk => (by rw [List.length_set]; exact (by rw [List.length_set]; exact (hq k hk)))) (List.getElem?_set_self (by rw [List.length_set]; exact (hq 9 (by decide))))) (cwV 0 hts (gw_V gw_1879 gw_1880 gw_1881 gw_16 gw_1882) rfl rfl rfl (by decide +kernel) ⟨(Nat.le_of_ble_eq_true rfl), (Nat.le_of_ble_eq_true rfl)⟩) ⟨aP.blind, va_recv hK hP (ci := 11) (q0 := 2) rfl rfl, aP.pre hE hS hPc hK hDc hFc⟩ rfl rfl hl.1 rfl (lv_room (Nat.le_of_ble_eq_true rfl)) dL_law_1604 ⟨(Nat.le_of_ble_eq_true rfl), (Nat.le_of_ble_eq_true rfl)⟩) hS (fun q _ h => hFc q h) hFc (fun r_100784 u t H1 locs ht hvm hw hB hz1 hk1 hS => ?_)
    obtain ⟨hP1, hD1⟩ := hB
    rw [ht] at hP1
    try dsimp only at hw hP1 hD1
    have w_100785 := hw
    subst w_100785
    obtain ⟨hP, hD⟩ := va_join (wr := [(h0, .inr (10, [.ref x0, .int 0, .ref x1, .ref x2, .ref x3, .ref x4, .ref x5, .ref x6, .ref x7, .ref x8, .int 0, .int 3000])), (o0, .inl (kA 1, 1, .inr (.inl (fun _ => 0))))]) (w1 := [(m0, .inr (11, ((y0.set 9 (.int 0)).set 9 (.int 2))))]) hP hD [2] [0, 1] rfl rfl (by decide) (by decide) hk1 hFc hP1 hD1
    generalize H1 = H at hP hS ⊢
    have hP : va_P D vwCl [(h0, .inr (10, [.ref x0, .int 0, .ref x1, .ref x2, .ref x3, .ref x4, .ref x5, .ref x6, .ref x7, .ref x8, .int 0, .int 3000])), (o0, .inl (kA 1, 1, .inr (.inl (fun _ => 0)))), (m0, .inr (11, ((y0.set 9 (.int 0)).set 9 (.int 2))))] H := hP
    have hD : va_D A [(h0, .inr (10, [.ref x0, .int 0, .ref x1, .ref x2, .ref x3, .ref x4, .ref x5, .ref x6, .ref x7, .ref x8, .int 0, .int 3000])), (o0, .inl (kA 1, 1, .inr (.inl (fun _ => 0)))), (m0, .inr (11, ((y0.set 9 (.int 0)).set 9 (.int 2))))] := hD
    refine lv_iload hx hb dL_law_1607 (lv_at hl 1 rfl) ?_
    refine lv_icmp_eq (tgt := 1614) hx hb dL_law_1609 (by decide) (fun c_100786 => ?_) (fun c_100786 => ?_)
    · skip
      refine lv_iload hx hb dL_law_1614 (lv_at hl 1 rfl) ?_
      refine lv_if_ne (tgt := 1630) hx hb dL_law_1616 (by decide) (fun c_100787 => ?_) (fun c_100787 => ?_)
      · skip
        refine lv_goto (tgt := 1804) hx hb dL_law_1630 (by decide) ?_
        exact lk_tail hC hA2 (lv_sub hl [2, 6] rfl) hS (Nat.le_of_ble_eq_true rfl) (Nat.le_of_ble_eq_true rfl)
      · exact absurd c_100787 (by decide)
    · exact absurd (by decide) c_100786
  · exact absurd hz.2.2.2.2.2.2.2.2.2.1 c_45
  · exact absurd hz.2.2.2.2.2.2.2.2.2.1 c_45
  · exact absurd hz.2.2.2.2.2.2.2.2.2.1 c_45
  · exact absurd hz.2.2.2.2.2.2.2.2.2.1 c_45
  · exact absurd hz.2.2.2.2.2.2.2.2.2.1 c_45
  · exact absurd hz.2.2.2.2.2.2.2.2.2.1 c_45
  · exact False.elim (by have a1 := (iyE (n := 2) hz.2.2.2.2.2.2.2.2.1 (by decide)); have a2 := (iyE (n := 4) c_46 (by decide)); omega)
  · exact False.elim (by have a1 := (iyE (n := 2) hz.2.2.2.2.2.2.2.2.1 (by decide)); have a2 := (iyE (n := 4) c_46 (by decide)); omega)
  · exact False.elim (by have a1 := (iyE (n := 2) hz.2.2.2.2.2.2.2.2.1 (by decide)); have a2 := (iyE (n := 4) c_46 (by decide)); omega)
  · exact False.elim (by have a1 := (iyE (n := 1) hz.2.2.2.2.2.2.2.1 (by decide)); have a2 := (iyE (n := 4) c_46 (by decide)); omega)
  · exact False.elim (by have a1 := (iyE (n := 1) hz.2.2.2.2.2.2.2.1 (by decide)); have a2 := (iyE (n := 4) c_46 (by decide)); omega)
  · exact False.elim (by have a1 := (iyE (n := 1) hz.2.2.2.2.2.2.2.1 (by decide)); have a2 := (iyE (n := 4) c_46 (by decide)); omega)
  · exact False.elim (by have a1 := (iyE (n := 0) hz.2.2.2.2.2.2.1 (by decide)); have a2 := (iyE (n := 4) c_46 (by decide)); omega)
  · exact False.elim (by have a1 := (iyE (n := 0) hz.2.2.2.2.2.2.1 (by decide)); have a2 := (iyE (n := 4) c_46 (by decide)); omega)
  · exact False.elim (by have a1 := (iyE (n := 0) hz.2.2.2.2.2.2.1 (by decide)); have a2 := (iyE (n := 4) c_46 (by decide)); omega)
set_option maxHeartbeats 4000000 in
set_option maxRecDepth 100000 in
theorem lk_22_7 {p : Program} {l : Launch} {e : Env} {s : State} {m : MethodId} {below : List Frame} {meth : Method} {c : Code} {D : va_G} {kA : Nat → ClassId} {V : Nat → Nat} {b : Nat} {xs : Nat → Int32} {A : Nat → Prop} (hC : lw_C p l s m meth c b 8 xs D kA V A) (hA2 : ∀ q, A q → s.heap.size ≤ q) (h0 : Nat) (m0 : Nat) (o0 : Nat) (x0 : Nat) (x1 : Nat) (x2 : Nat) (x3 : Nat) (x4 : Nat) (x5 : Nat) (x6 : Nat) (x7 : Nat) (x8 : Nat) (y0 : List Value) (hq : ∀ k, k < 121 → k < y0.length) (hq9 : y0[9]? = some (.int 0)) (c_49 : ¬ (xs 2) < 0) (c_50 : ¬ 4 < (xs 2)) (c_51 : ¬ (xs 3) < 0) (c_52 : ¬ 4 < (xs 3)) (c_53 : ¬ (xs 1) < 0) (c_54 : ¬ (xs 1) ≤ 10) {H : Heap} {locs : List Loc} {ls : Array Slot} (hl : lv_has ls 8 [(0, .ref b), (1, .ref h0), (2, .ref m0), (3, .ref o0), (4, .int 0)]) (hS : va_S A s.heap H locs) (hP : va_P D vwCl [(m0, .inr (11, y0)), (h0, .inr (10, [.ref x0, .int 0, .ref x1, .ref x2, .ref x3, .ref x4, .ref x5, .ref x6, .ref x7, .ref x8, .int 0, .int 3000])), (o0, .inl (kA 1, 1, .inr (.inl (fun _ => 0))))] H) (hD : va_D A [(m0, .inr (11, y0)), (h0, .inr (10, [.ref x0, .int 0, .ref x1, .ref x2, .ref x3, .ref x4, .ref x5, .ref x6, .ref x7, .ref x8, .int 0, .int 3000])), (o0, .inl (kA 1, 1, .inr (.inl (fun _ => 0))))]) : W p l e room_1 s m #[Value.ref b] below meth c H locs 515 172799 (lw_Z below #[Value.ref b] s) (F0 m 1531 ls [.int 1]) := by
  have ⟨hst, hx, hb, hr, hml, hown, hts, hG, hX, hbl, hbA, hlocks, hE, hK, hA⟩ := hC
  refine lv_istore (lv' := [(5, .int 1), (0, .ref b), (1, .ref h0), (2, .ref m0), (3, .ref o0), (4, .int 0)]) hx hb dL_law_1531 hl (by decide) rfl (fun ls hl => ?_)
  refine lv_aload_n hx hb dL_law_1533 rfl (lv_at hl 3 rfl) ?_
  refine lv_aload_n hx hb dL_law_1534 rfl (lv_at hl 1 rfl) ?_
  refine lv_iload hx hb dL_law_1535 (lv_at hl 5 rfl) ?_
  refine lv_iconst (v := 1) hx hb dL_law_1537 (by decide) ?_
  refine lv_iadd hx hb dL_law_1538 ?_
  refine W.eq (g2 := F0 m 1539 ls [.int 1, .ref b, .ref m0]) rfl ?_
  refine va_sld hx hb hX hbl hbA hS (show vp_in 1 8 by unfold vp_in; decide) dL_law_1539 ?_
  refine W.eq (g2 := F0 m 1540 ls [.int (xs 1), .ref m0]) rfl ?_
  refine lv_aload_n hx hb dL_law_1540 rfl (lv_at hl 1 rfl) ?_
  refine lv_iload hx hb dL_law_1541 (lv_at hl 5 rfl) ?_
  refine lv_iconst (v := 2) hx hb dL_law_1543 (by decide) ?_
  refine lv_iadd hx hb dL_law_1544 ?_
  refine W.eq (g2 := F0 m 1545 ls [.int 2, .ref b, .int (xs 1), .ref m0]) rfl ?_
  refine va_sld hx hb hX hbl hbA hS (show vp_in 2 8 by unfold vp_in; decide) dL_law_1545 ?_
  refine W.eq (g2 := F0 m 1546 ls [.int (xs 2), .int (xs 1), .ref m0]) rfl ?_
  refine lv_aload_n hx hb dL_law_1546 rfl (lv_at hl 1 rfl) ?_
  refine lv_iload hx hb dL_law_1547 (lv_at hl 5 rfl) ?_
  refine lv_iconst (v := 3) hx hb dL_law_1549 (by decide) ?_
  refine lv_iadd hx hb dL_law_1550 ?_
  refine W.eq (g2 := F0 m 1551 ls [.int 3, .ref b, .int (xs 2), .int (xs 1), .ref m0]) rfl ?_
  refine va_sld hx hb hX hbl hbA hS (show vp_in 3 8 by unfold vp_in; decide) dL_law_1551 ?_
  refine W.eq (g2 := F0 m 1552 ls [.int (xs 3), .int (xs 2), .int (xs 1), .ref m0]) rfl ?_
  refine lv_aload_n hx hb dL_law_1552 rfl (lv_at hl 1 rfl) ?_
  refine lv_iload hx hb dL_law_1553 (lv_at hl 5 rfl) ?_
  refine lv_iconst (v := 4) hx hb dL_law_1555 (by decide) ?_
  refine lv_iadd hx hb dL_law_1556 ?_
  refine W.eq (g2 := F0 m 1557 ls [.int 4, .ref b, .int (xs 3), .int (xs 2), .int (xs 1), .ref m0]) rfl ?_
  refine va_sld hx hb hX hbl hbA hS (show vp_in 4 8 by unfold vp_in; decide) dL_law_1557 ?_
  refine W.eq (g2 := F0 m 1558 ls [.int (xs 4), .int (xs 3), .int (xs 2), .int (xs 1), .ref m0]) rfl ?_
  refine lv_i2l (v := (xs 4).toInt64) hx hb dL_law_1558 rfl ?_
  refine lv_bipush (v := 32) hx hb dL_law_1559 (by decide) ?_
  refine lv_lshl (v := ((xs 4).toInt64) <<< ((32 : Int32).toInt64 &&& 63)) hx hb dL_law_1561 rfl ?_
  refine lv_aload_n hx hb dL_law_1562 rfl (lv_at hl 1 rfl) ?_
  refine lv_iload hx hb dL_law_1563 (lv_at hl 5 rfl) ?_
  refine lv_iconst (v := 5) hx hb dL_law_1565 (by decide) ?_
  refine lv_iadd hx hb dL_law_1566 ?_
  refine W.eq (g2 := F0 m 1567 ls [.int 5, .ref b, .long (((xs 4).toInt64) <<< ((32 : Int32).toInt64 &&& 63)), .int (xs 3), .int (xs 2), .int (xs 1), .ref m0]) rfl ?_
  refine va_sld hx hb hX hbl hbA hS (show vp_in 5 8 by unfold vp_in; decide) dL_law_1567 ?_
  refine W.eq (g2 := F0 m 1568 ls [.int (xs 5), .long (((xs 4).toInt64) <<< ((32 : Int32).toInt64 &&& 63)), .int (xs 3), .int (xs 2), .int (xs 1), .ref m0]) rfl ?_
  refine lv_i2l (v := (xs 5).toInt64) hx hb dL_law_1568 rfl ?_
  refine lv_ldc2 (v := 4294967295) hx hb hown (hG _ gw_2764) dL_law_1569 ?_
  refine lv_land hx hb dL_law_1572 ?_
  refine lv_lor hx hb dL_law_1573 ?_
  refine lv_aload_n hx hb dL_law_1574 rfl (lv_at hl 1 rfl) ?_
  refine lv_iload hx hb dL_law_1575 (lv_at hl 5 rfl) ?_
  refine lv_bipush (v := 6) hx hb dL_law_1577 (by decide) ?_
  refine lv_iadd hx hb dL_law_1579 ?_
  refine W.eq (g2 := F0 m 1580 ls [.int 6, .ref b, .long ((((xs 4).toInt64) <<< ((32 : Int32).toInt64 &&& 63)) ||| (((xs 5).toInt64) &&& 4294967295)), .int (xs 3), .int (xs 2), .int (xs 1), .ref m0]) rfl ?_
  refine va_sld hx hb hX hbl hbA hS (show vp_in 6 8 by unfold vp_in; decide) dL_law_1580 ?_
  refine W.eq (g2 := F0 m 1581 ls [.int (xs 6), .long ((((xs 4).toInt64) <<< ((32 : Int32).toInt64 &&& 63)) ||| (((xs 5).toInt64) &&& 4294967295)), .int (xs 3), .int (xs 2), .int (xs 1), .ref m0]) rfl ?_
  refine lv_i2l (v := (xs 6).toInt64) hx hb dL_law_1581 rfl ?_
  refine lv_bipush (v := 32) hx hb dL_law_1582 (by decide) ?_
  refine lv_lshl (v := ((xs 6).toInt64) <<< ((32 : Int32).toInt64 &&& 63)) hx hb dL_law_1584 rfl ?_
  refine lv_aload_n hx hb dL_law_1585 rfl (lv_at hl 1 rfl) ?_
  refine lv_iload hx hb dL_law_1586 (lv_at hl 5 rfl) ?_
  refine lv_bipush (v := 7) hx hb dL_law_1588 (by decide) ?_
  refine lv_iadd hx hb dL_law_1590 ?_
  refine W.eq (g2 := F0 m 1591 ls [.int 7, .ref b, .long (((xs 6).toInt64) <<< ((32 : Int32).toInt64 &&& 63)), .long ((((xs 4).toInt64) <<< ((32 : Int32).toInt64 &&& 63)) ||| (((xs 5).toInt64) &&& 4294967295)), .int (xs 3), .int (xs 2), .int (xs 1), .ref m0]) rfl ?_
  refine va_sld hx hb hX hbl hbA hS (show vp_in 7 8 by unfold vp_in; decide) dL_law_1591 ?_
  refine W.eq (g2 := F0 m 1592 ls [.int (xs 7), .long (((xs 6).toInt64) <<< ((32 : Int32).toInt64 &&& 63)), .long ((((xs 4).toInt64) <<< ((32 : Int32).toInt64 &&& 63)) ||| (((xs 5).toInt64) &&& 4294967295)), .int (xs 3), .int (xs 2), .int (xs 1), .ref m0]) rfl ?_
  refine lv_i2l (v := (xs 7).toInt64) hx hb dL_law_1592 rfl ?_
  refine lv_ldc2 (v := 4294967295) hx hb hown (hG _ gw_2764) dL_law_1593 ?_
  refine lv_land hx hb dL_law_1596 ?_
  refine lv_lor hx hb dL_law_1597 ?_
  have hPc := hP.sub (ws' := [(m0, .inr (11, y0))]) [0] rfl
  have hDc := hD.sub (ws' := [(m0, .inr (11, y0))]) [0] (by decide) rfl
  have hFc := va_free (wc := [(m0, .inr (11, y0))]) hD hS hA [0] rfl
  refine va_calll (va_runV (As := [.int (xs 1), .int (xs 2), .int (xs 3), .long ((((xs 4).toInt64) <<< ((32 : Int32).toInt64 &&& 63)) ||| (((xs 5).toInt64) &&& 4294967295)), .long ((((xs 6).toInt64) <<< ((32 : Int32).toInt64 &&& 63)) ||| (((xs 7).toInt64) &&& 4294967295))]) (rest := []) ⟨hx, hb, hml, hown, hts⟩ (a153_X12_work l  D kA V H.size m0 (xs 1) (xs 2) (xs 3) ((((xs 4).toInt64) <<< ((32 : Int32).toInt64 &&& 63)) ||| (((xs 5).toInt64) &&& 4294967295)) ((((xs 6).toInt64) <<< ((32 : Int32).toInt64 &&& 63)) ||| (((xs 7).toInt64) &&& 4294967295)) y0 (fun k hk => (hq k hk)) hq9) (cwV 5 hts (gw_V gw_2756 gw_2757 gw_2758 gw_16 gw_2759) rfl rfl rfl (by decide +kernel) ⟨(Nat.le_of_ble_eq_true rfl), (Nat.le_of_ble_eq_true rfl)⟩) ⟨aP.blind, va_recv hK hP (ci := 11) (q0 := 0) rfl rfl, aP.pre hE hS hPc hK hDc hFc⟩ rfl rfl hl.1 rfl (lv_room (Nat.le_of_ble_eq_true rfl)) dL_law_1598 ⟨(Nat.le_of_ble_eq_true rfl), (Nat.le_of_ble_eq_true rfl)⟩) hS (fun q _ h => hFc q h) hFc (fun r_100001 u t H1 locs ht hvm hw hB hz1 hk1 hS => ?_)
  obtain ⟨u_100002, rfl⟩ : ∃ z, z = u := ⟨u, rfl⟩
  obtain ⟨hP1, hD1⟩ := hB
  rw [ht] at hP1
  try dsimp only at hw hP1 hD1
  rcases hw with hz | hz | hz | hz | hz | hz | hz | hz | hz | hz | hz | hz | hz | hz | hz | hz | hz | hz | hz | hz | hz | hz | hz | hz | hz | hz | hz | hz | hz | hz | hz | hz | hz | hz | hz | hz | hz | hz | hz | hz | hz | hz | hz | hz | hz | hz | hz | hz | hz | hz | hz | hz
  · exact absurd hz.1 c_53
  · exact absurd hz.1 c_53
  · exact absurd hz.1 c_53
  · exact absurd hz.1 c_53
  · exact absurd hz.1 c_53
  · exact absurd hz.2.2.1 c_49
  · exact absurd hz.2.2.2.1 c_50
  · exact absurd hz.2.2.2.2.1 c_51
  · exact absurd hz.2.2.2.2.2.1 c_52
  · obtain ⟨c_100058, c_100059, c_100060, c_100061, c_100062, c_100063, w_100064, w_100065⟩ := hz
    subst w_100064
    subst w_100065
    obtain ⟨hP, hD⟩ := va_join (wr := [(h0, .inr (10, [.ref x0, .int 0, .ref x1, .ref x2, .ref x3, .ref x4, .ref x5, .ref x6, .ref x7, .ref x8, .int 0, .int 3000])), (o0, .inl (kA 1, 1, .inr (.inl (fun _ => 0))))]) (w1 := [(m0, .inr (11, y0.set 9 (.int 1)))]) hP hD [0] [1, 2] rfl rfl (by decide) (by decide) hk1 hFc hP1 hD1
    generalize H1 = H at hP hS ⊢
    have hP : va_P D vwCl [(h0, .inr (10, [.ref x0, .int 0, .ref x1, .ref x2, .ref x3, .ref x4, .ref x5, .ref x6, .ref x7, .ref x8, .int 0, .int 3000])), (o0, .inl (kA 1, 1, .inr (.inl (fun _ => 0)))), (m0, .inr (11, y0.set 9 (.int 1)))] H := hP
    have hD : va_D A [(h0, .inr (10, [.ref x0, .int 0, .ref x1, .ref x2, .ref x3, .ref x4, .ref x5, .ref x6, .ref x7, .ref x8, .int 0, .int 3000])), (o0, .inl (kA 1, 1, .inr (.inl (fun _ => 0)))), (m0, .inr (11, y0.set 9 (.int 1)))] := hD
    refine lv_lstore (lv' := [(6, .long 0), (5, .int 1), (0, .ref b), (1, .ref h0), (2, .ref m0), (3, .ref o0), (4, .int 0)]) hx hb dL_law_1601 hl (by decide) rfl (fun ls hl => ?_)
    refine lv_aload_n hx hb dL_law_1603 rfl (lv_at hl 4 rfl) ?_
    have hPc := hP.sub (ws' := [(m0, .inr (11, y0.set 9 (.int 1)))]) [2] rfl
    have hDc := hD.sub (ws' := [(m0, .inr (11, y0.set 9 (.int 1)))]) [2] (by decide) rfl
    have hFc := va_free (wc := [(m0, .inr (11, y0.set 9 (.int 1)))]) hD hS hA [2] rfl
    refine va_calli (va_runV (As := []) (rest := []) ⟨hx, hb, hml, hown, hts⟩ (a174_X12_thrown l  D kA V H.size m0 (y0.set 9 (.int 1)) (fun k hk => (by rw [List.length_set]; exact (hq k hk))) (List.getElem?_set_self (hq 9 (by decide)))) (cwV 0 hts (gw_V gw_1879 gw_1880 gw_1881 gw_16 gw_1882) rfl rfl rfl (by decide +kernel) ⟨(Nat.le_of_ble_eq_true rfl), (Nat.le_of_ble_eq_true rfl)⟩) ⟨aP.blind, va_recv hK hP (ci := 11) (q0 := 2) rfl rfl, aP.pre hE hS hPc hK hDc hFc⟩ rfl rfl hl.1 rfl (lv_room (Nat.le_of_ble_eq_true rfl)) dL_law_1604 ⟨(Nat.le_of_ble_eq_true rfl), (Nat.le_of_ble_eq_true rfl)⟩) hS (fun q _ h => hFc q h) hFc (fun r_100776 u t H1 locs ht hvm hw hB hz1 hk1 hS => ?_)
    obtain ⟨hP1, hD1⟩ := hB
    rw [ht] at hP1
    try dsimp only at hw hP1 hD1
    have w_100777 := hw
    subst w_100777
    obtain ⟨hP, hD⟩ := va_join (wr := [(h0, .inr (10, [.ref x0, .int 0, .ref x1, .ref x2, .ref x3, .ref x4, .ref x5, .ref x6, .ref x7, .ref x8, .int 0, .int 3000])), (o0, .inl (kA 1, 1, .inr (.inl (fun _ => 0))))]) (w1 := [(m0, .inr (11, (y0.set 9 (.int 1))))]) hP hD [2] [0, 1] rfl rfl (by decide) (by decide) hk1 hFc hP1 hD1
    generalize H1 = H at hP hS ⊢
    have hP : va_P D vwCl [(h0, .inr (10, [.ref x0, .int 0, .ref x1, .ref x2, .ref x3, .ref x4, .ref x5, .ref x6, .ref x7, .ref x8, .int 0, .int 3000])), (o0, .inl (kA 1, 1, .inr (.inl (fun _ => 0)))), (m0, .inr (11, (y0.set 9 (.int 1))))] H := hP
    have hD : va_D A [(h0, .inr (10, [.ref x0, .int 0, .ref x1, .ref x2, .ref x3, .ref x4, .ref x5, .ref x6, .ref x7, .ref x8, .int 0, .int 3000])), (o0, .inl (kA 1, 1, .inr (.inl (fun _ => 0)))), (m0, .inr (11, (y0.set 9 (.int 1))))] := hD
    refine lv_iload hx hb dL_law_1607 (lv_at hl 1 rfl) ?_
    refine lv_icmp_eq (tgt := 1614) hx hb dL_law_1609 (by decide) (fun c_100778 => ?_) (fun c_100778 => ?_)
    · skip
      refine lv_iload hx hb dL_law_1614 (lv_at hl 1 rfl) ?_
      refine lv_if_ne (tgt := 1630) hx hb dL_law_1616 (by decide) (fun c_100779 => ?_) (fun c_100779 => ?_)
      · skip
        refine lv_goto (tgt := 1804) hx hb dL_law_1630 (by decide) ?_
        exact lk_tail hC hA2 (lv_sub hl [2, 6] rfl) hS (Nat.le_of_ble_eq_true rfl) (Nat.le_of_ble_eq_true rfl)
      · exact absurd c_100779 (by decide)
    · exact absurd (by decide) c_100778
  · exact absurd (Int32.not_le.mp c_54) hz.2.1
  · exact absurd (Int32.not_le.mp c_54) hz.2.1
  · exact absurd (Int32.not_le.mp c_54) hz.2.1
  · exact absurd (Int32.not_le.mp c_54) hz.2.1
  · exact absurd (Int32.not_le.mp c_54) hz.2.1
  · exact absurd (Int32.not_le.mp c_54) hz.2.1
  · exact absurd (Int32.not_le.mp c_54) hz.2.1
  · exact absurd (Int32.not_le.mp c_54) hz.2.1
  · exact absurd (Int32.not_le.mp c_54) hz.2.1
  · exact absurd (Int32.not_le.mp c_54) hz.2.1
  · exact absurd (Int32.not_le.mp c_54) hz.2.1
  · exact absurd (Int32.not_le.mp c_54) hz.2.1
  · exact absurd (Int32.not_le.mp c_54) hz.2.1
  · exact absurd (Int32.not_le.mp c_54) hz.2.1
  · exact absurd (Int32.not_le.mp c_54) hz.2.1
  · exact absurd (Int32.not_le.mp c_54) hz.2.1
  · exact absurd (Int32.not_le.mp c_54) hz.2.1
  · exact absurd (Int32.not_le.mp c_54) hz.2.1
  · exact absurd (Int32.not_le.mp c_54) hz.2.1
  · exact absurd (Int32.not_le.mp c_54) hz.2.1
  · exact absurd (Int32.not_le.mp c_54) hz.2.1
  · exact absurd (Int32.not_le.mp c_54) hz.2.1
  · exact absurd (Int32.not_le.mp c_54) hz.2.1
  · exact absurd (Int32.not_le.mp c_54) hz.2.1
  · exact absurd (Int32.not_le.mp c_54) hz.2.1
  · exact absurd (Int32.not_le.mp c_54) hz.2.1
  · exact absurd (Int32.not_le.mp c_54) hz.2.1
  · exact absurd (Int32.not_le.mp c_54) hz.2.1
  · exact absurd (Int32.not_le.mp c_54) hz.2.1
  · exact absurd (Int32.not_le.mp c_54) hz.2.1
  · exact absurd (Int32.not_le.mp c_54) hz.2.1
  · exact absurd (Int32.not_le.mp c_54) hz.2.1
  · exact absurd (Int32.not_le.mp c_54) hz.2.1
  · exact absurd (Int32.not_le.mp c_54) hz.2.1
  · exact absurd (Int32.not_le.mp c_54) hz.2.1
  · exact absurd (Int32.not_le.mp c_54) hz.2.1
  · exact absurd (Int32.not_le.mp c_54) hz.2.1
  · exact absurd (Int32.not_le.mp c_54) hz.2.1
  · exact absurd (Int32.not_le.mp c_54) hz.2.1
  · exact absurd (Int32.not_le.mp c_54) hz.2.1
  · exact absurd (Int32.not_le.mp c_54) hz.2.1
  · exact absurd (Int32.not_le.mp c_54) hz.2.1
set_option maxHeartbeats 4000000 in
set_option maxRecDepth 100000 in
theorem lk_22_8 {p : Program} {l : Launch} {e : Env} {s : State} {m : MethodId} {below : List Frame} {meth : Method} {c : Code} {D : va_G} {kA : Nat → ClassId} {V : Nat → Nat} {b : Nat} {xs : Nat → Int32} {A : Nat → Prop} (hC : lw_C p l s m meth c b 8 xs D kA V A) (hA2 : ∀ q, A q → s.heap.size ≤ q) (h0 : Nat) (m0 : Nat) (o0 : Nat) (x0 : Nat) (x1 : Nat) (x2 : Nat) (x3 : Nat) (x4 : Nat) (x5 : Nat) (x6 : Nat) (x7 : Nat) (x8 : Nat) (y0 : List Value) (hq : ∀ k, k < 121 → k < y0.length) (hq9 : y0[9]? = some (.int 0)) (c_57 : ¬ (xs 2) < 0) (c_58 : ¬ 4 < (xs 2)) (c_59 : ¬ (xs 3) < 0) (c_60 : ¬ 4 < (xs 3)) (c_61 : ¬ (xs 1) < 0) (c_62 : (xs 1) ≤ 10) (c_63 : ¬ (n_cut (xs 3) ((((xs 6).toInt64) <<< ((32 : Int32).toInt64 &&& 63)) ||| (((xs 7).toInt64) &&& 4294967295))) = 0) (c_64 : (xs 2) = 4) {H : Heap} {locs : List Loc} {ls : Array Slot} (hl : lv_has ls 8 [(0, .ref b), (1, .ref h0), (2, .ref m0), (3, .ref o0), (4, .int 0)]) (hS : va_S A s.heap H locs) (hP : va_P D vwCl [(m0, .inr (11, y0)), (h0, .inr (10, [.ref x0, .int 0, .ref x1, .ref x2, .ref x3, .ref x4, .ref x5, .ref x6, .ref x7, .ref x8, .int 0, .int 3000])), (o0, .inl (kA 1, 1, .inr (.inl (vp_updL (fun _ => 0) 0 (n_cut (xs 2) (n_combine (xs 1) 1 (n_cut (xs 2) ((((xs 4).toInt64) <<< ((32 : Int32).toInt64 &&& 63)) ||| (((xs 5).toInt64) &&& 4294967295))) (n_cut (xs 3) ((((xs 6).toInt64) <<< ((32 : Int32).toInt64 &&& 63)) ||| (((xs 7).toInt64) &&& 4294967295)))))))))] H) (hD : va_D A [(m0, .inr (11, y0)), (h0, .inr (10, [.ref x0, .int 0, .ref x1, .ref x2, .ref x3, .ref x4, .ref x5, .ref x6, .ref x7, .ref x8, .int 0, .int 3000])), (o0, .inl (kA 1, 1, .inr (.inl (vp_updL (fun _ => 0) 0 (n_cut (xs 2) (n_combine (xs 1) 1 (n_cut (xs 2) ((((xs 4).toInt64) <<< ((32 : Int32).toInt64 &&& 63)) ||| (((xs 5).toInt64) &&& 4294967295))) (n_cut (xs 3) ((((xs 6).toInt64) <<< ((32 : Int32).toInt64 &&& 63)) ||| (((xs 7).toInt64) &&& 4294967295)))))))))]) : W p l e room_1 s m #[Value.ref b] below meth c H locs 515 172799 (lw_Z below #[Value.ref b] s) (F0 m 1531 ls [.int 0]) := by
  have ⟨hst, hx, hb, hr, hml, hown, hts, hG, hX, hbl, hbA, hlocks, hE, hK, hA⟩ := hC
  refine lv_istore (lv' := [(5, .int 0), (0, .ref b), (1, .ref h0), (2, .ref m0), (3, .ref o0), (4, .int 0)]) hx hb dL_law_1531 hl (by decide) rfl (fun ls hl => ?_)
  refine lv_aload_n hx hb dL_law_1533 rfl (lv_at hl 3 rfl) ?_
  refine lv_aload_n hx hb dL_law_1534 rfl (lv_at hl 1 rfl) ?_
  refine lv_iload hx hb dL_law_1535 (lv_at hl 5 rfl) ?_
  refine lv_iconst (v := 1) hx hb dL_law_1537 (by decide) ?_
  refine lv_iadd hx hb dL_law_1538 ?_
  refine W.eq (g2 := F0 m 1539 ls [.int 1, .ref b, .ref m0]) rfl ?_
  refine va_sld hx hb hX hbl hbA hS (show vp_in 1 8 by unfold vp_in; decide) dL_law_1539 ?_
  refine W.eq (g2 := F0 m 1540 ls [.int (xs 1), .ref m0]) rfl ?_
  refine lv_aload_n hx hb dL_law_1540 rfl (lv_at hl 1 rfl) ?_
  refine lv_iload hx hb dL_law_1541 (lv_at hl 5 rfl) ?_
  refine lv_iconst (v := 2) hx hb dL_law_1543 (by decide) ?_
  refine lv_iadd hx hb dL_law_1544 ?_
  refine W.eq (g2 := F0 m 1545 ls [.int 2, .ref b, .int (xs 1), .ref m0]) rfl ?_
  refine va_sld hx hb hX hbl hbA hS (show vp_in 2 8 by unfold vp_in; decide) dL_law_1545 ?_
  refine W.eq (g2 := F0 m 1546 ls [.int (xs 2), .int (xs 1), .ref m0]) rfl ?_
  refine lv_aload_n hx hb dL_law_1546 rfl (lv_at hl 1 rfl) ?_
  refine lv_iload hx hb dL_law_1547 (lv_at hl 5 rfl) ?_
  refine lv_iconst (v := 3) hx hb dL_law_1549 (by decide) ?_
  refine lv_iadd hx hb dL_law_1550 ?_
  refine W.eq (g2 := F0 m 1551 ls [.int 3, .ref b, .int (xs 2), .int (xs 1), .ref m0]) rfl ?_
  refine va_sld hx hb hX hbl hbA hS (show vp_in 3 8 by unfold vp_in; decide) dL_law_1551 ?_
  refine W.eq (g2 := F0 m 1552 ls [.int (xs 3), .int (xs 2), .int (xs 1), .ref m0]) rfl ?_
  refine lv_aload_n hx hb dL_law_1552 rfl (lv_at hl 1 rfl) ?_
  refine lv_iload hx hb dL_law_1553 (lv_at hl 5 rfl) ?_
  refine lv_iconst (v := 4) hx hb dL_law_1555 (by decide) ?_
  refine lv_iadd hx hb dL_law_1556 ?_
  refine W.eq (g2 := F0 m 1557 ls [.int 4, .ref b, .int (xs 3), .int (xs 2), .int (xs 1), .ref m0]) rfl ?_
  refine va_sld hx hb hX hbl hbA hS (show vp_in 4 8 by unfold vp_in; decide) dL_law_1557 ?_
  refine W.eq (g2 := F0 m 1558 ls [.int (xs 4), .int (xs 3), .int (xs 2), .int (xs 1), .ref m0]) rfl ?_
  refine lv_i2l (v := (xs 4).toInt64) hx hb dL_law_1558 rfl ?_
  refine lv_bipush (v := 32) hx hb dL_law_1559 (by decide) ?_
  refine lv_lshl (v := ((xs 4).toInt64) <<< ((32 : Int32).toInt64 &&& 63)) hx hb dL_law_1561 rfl ?_
  refine lv_aload_n hx hb dL_law_1562 rfl (lv_at hl 1 rfl) ?_
  refine lv_iload hx hb dL_law_1563 (lv_at hl 5 rfl) ?_
  refine lv_iconst (v := 5) hx hb dL_law_1565 (by decide) ?_
  refine lv_iadd hx hb dL_law_1566 ?_
  refine W.eq (g2 := F0 m 1567 ls [.int 5, .ref b, .long (((xs 4).toInt64) <<< ((32 : Int32).toInt64 &&& 63)), .int (xs 3), .int (xs 2), .int (xs 1), .ref m0]) rfl ?_
  refine va_sld hx hb hX hbl hbA hS (show vp_in 5 8 by unfold vp_in; decide) dL_law_1567 ?_
  refine W.eq (g2 := F0 m 1568 ls [.int (xs 5), .long (((xs 4).toInt64) <<< ((32 : Int32).toInt64 &&& 63)), .int (xs 3), .int (xs 2), .int (xs 1), .ref m0]) rfl ?_
  refine lv_i2l (v := (xs 5).toInt64) hx hb dL_law_1568 rfl ?_
  refine lv_ldc2 (v := 4294967295) hx hb hown (hG _ gw_2764) dL_law_1569 ?_
  refine lv_land hx hb dL_law_1572 ?_
  refine lv_lor hx hb dL_law_1573 ?_
  refine lv_aload_n hx hb dL_law_1574 rfl (lv_at hl 1 rfl) ?_
  refine lv_iload hx hb dL_law_1575 (lv_at hl 5 rfl) ?_
  refine lv_bipush (v := 6) hx hb dL_law_1577 (by decide) ?_
  refine lv_iadd hx hb dL_law_1579 ?_
  refine W.eq (g2 := F0 m 1580 ls [.int 6, .ref b, .long ((((xs 4).toInt64) <<< ((32 : Int32).toInt64 &&& 63)) ||| (((xs 5).toInt64) &&& 4294967295)), .int (xs 3), .int (xs 2), .int (xs 1), .ref m0]) rfl ?_
  refine va_sld hx hb hX hbl hbA hS (show vp_in 6 8 by unfold vp_in; decide) dL_law_1580 ?_
  refine W.eq (g2 := F0 m 1581 ls [.int (xs 6), .long ((((xs 4).toInt64) <<< ((32 : Int32).toInt64 &&& 63)) ||| (((xs 5).toInt64) &&& 4294967295)), .int (xs 3), .int (xs 2), .int (xs 1), .ref m0]) rfl ?_
  refine lv_i2l (v := (xs 6).toInt64) hx hb dL_law_1581 rfl ?_
  refine lv_bipush (v := 32) hx hb dL_law_1582 (by decide) ?_
  refine lv_lshl (v := ((xs 6).toInt64) <<< ((32 : Int32).toInt64 &&& 63)) hx hb dL_law_1584 rfl ?_
  refine lv_aload_n hx hb dL_law_1585 rfl (lv_at hl 1 rfl) ?_
  refine lv_iload hx hb dL_law_1586 (lv_at hl 5 rfl) ?_
  refine lv_bipush (v := 7) hx hb dL_law_1588 (by decide) ?_
  refine lv_iadd hx hb dL_law_1590 ?_
  refine W.eq (g2 := F0 m 1591 ls [.int 7, .ref b, .long (((xs 6).toInt64) <<< ((32 : Int32).toInt64 &&& 63)), .long ((((xs 4).toInt64) <<< ((32 : Int32).toInt64 &&& 63)) ||| (((xs 5).toInt64) &&& 4294967295)), .int (xs 3), .int (xs 2), .int (xs 1), .ref m0]) rfl ?_
  refine va_sld hx hb hX hbl hbA hS (show vp_in 7 8 by unfold vp_in; decide) dL_law_1591 ?_
  refine W.eq (g2 := F0 m 1592 ls [.int (xs 7), .long (((xs 6).toInt64) <<< ((32 : Int32).toInt64 &&& 63)), .long ((((xs 4).toInt64) <<< ((32 : Int32).toInt64 &&& 63)) ||| (((xs 5).toInt64) &&& 4294967295)), .int (xs 3), .int (xs 2), .int (xs 1), .ref m0]) rfl ?_
  refine lv_i2l (v := (xs 7).toInt64) hx hb dL_law_1592 rfl ?_
  refine lv_ldc2 (v := 4294967295) hx hb hown (hG _ gw_2764) dL_law_1593 ?_
  refine lv_land hx hb dL_law_1596 ?_
  refine lv_lor hx hb dL_law_1597 ?_
  have hPc := hP.sub (ws' := [(m0, .inr (11, y0))]) [0] rfl
  have hDc := hD.sub (ws' := [(m0, .inr (11, y0))]) [0] (by decide) rfl
  have hFc := va_free (wc := [(m0, .inr (11, y0))]) hD hS hA [0] rfl
  refine va_calll (va_runV (As := [.int (xs 1), .int (xs 2), .int (xs 3), .long ((((xs 4).toInt64) <<< ((32 : Int32).toInt64 &&& 63)) ||| (((xs 5).toInt64) &&& 4294967295)), .long ((((xs 6).toInt64) <<< ((32 : Int32).toInt64 &&& 63)) ||| (((xs 7).toInt64) &&& 4294967295))]) (rest := []) ⟨hx, hb, hml, hown, hts⟩ (a153_X12_work l  D kA V H.size m0 (xs 1) (xs 2) (xs 3) ((((xs 4).toInt64) <<< ((32 : Int32).toInt64 &&& 63)) ||| (((xs 5).toInt64) &&& 4294967295)) ((((xs 6).toInt64) <<< ((32 : Int32).toInt64 &&& 63)) ||| (((xs 7).toInt64) &&& 4294967295)) y0 (fun k hk => (hq k hk)) hq9) (cwV 5 hts (gw_V gw_2756 gw_2757 gw_2758 gw_16 gw_2759) rfl rfl rfl (by decide +kernel) ⟨(Nat.le_of_ble_eq_true rfl), (Nat.le_of_ble_eq_true rfl)⟩) ⟨aP.blind, va_recv hK hP (ci := 11) (q0 := 0) rfl rfl, aP.pre hE hS hPc hK hDc hFc⟩ rfl rfl hl.1 rfl (lv_room (Nat.le_of_ble_eq_true rfl)) dL_law_1598 ⟨(Nat.le_of_ble_eq_true rfl), (Nat.le_of_ble_eq_true rfl)⟩) hS (fun q _ h => hFc q h) hFc (fun r_100001 u t H1 locs ht hvm hw hB hz1 hk1 hS => ?_)
  obtain ⟨u_100002, rfl⟩ : ∃ z, z = u := ⟨u, rfl⟩
  obtain ⟨hP1, hD1⟩ := hB
  rw [ht] at hP1
  try dsimp only at hw hP1 hD1
  rcases hw with hz | hz | hz | hz | hz | hz | hz | hz | hz | hz | hz | hz | hz | hz | hz | hz | hz | hz | hz | hz | hz | hz | hz | hz | hz | hz | hz | hz | hz | hz | hz | hz | hz | hz | hz | hz | hz | hz | hz | hz | hz | hz | hz | hz | hz | hz | hz | hz | hz | hz | hz | hz
  · exact absurd hz.1 c_61
  · exact absurd hz.1 c_61
  · exact absurd hz.1 c_61
  · exact absurd hz.1 c_61
  · exact absurd hz.1 c_61
  · exact absurd hz.2.1 (Int32.not_lt.mpr c_62)
  · exact absurd hz.2.1 (Int32.not_lt.mpr c_62)
  · exact absurd hz.2.1 (Int32.not_lt.mpr c_62)
  · exact absurd hz.2.1 (Int32.not_lt.mpr c_62)
  · exact absurd hz.2.1 (Int32.not_lt.mpr c_62)
  · exact absurd hz.2.2.1 c_57
  · exact absurd hz.2.2.2.1 c_58
  · exact absurd hz.2.2.2.2.1 c_59
  · exact absurd hz.2.2.2.2.2.1 c_60
  · obtain ⟨c_100092, c_100093, c_100094, c_100095, c_100096, c_100097, c_100098, c_100099, c_100100, c_100101, c_100102, c_100103, c_100104, c_100105, c_100106, c_100107, c_100108, c_100109, c_100110, w_100111, w_100112⟩ := hz
    subst w_100111
    subst w_100112
    obtain ⟨hP, hD⟩ := va_join (wr := [(h0, .inr (10, [.ref x0, .int 0, .ref x1, .ref x2, .ref x3, .ref x4, .ref x5, .ref x6, .ref x7, .ref x8, .int 0, .int 3000])), (o0, .inl (kA 1, 1, .inr (.inl (vp_updL (fun _ => 0) 0 (n_cut (xs 2) (n_combine (xs 1) 1 (n_cut (xs 2) ((((xs 4).toInt64) <<< ((32 : Int32).toInt64 &&& 63)) ||| (((xs 5).toInt64) &&& 4294967295))) (n_cut (xs 3) ((((xs 6).toInt64) <<< ((32 : Int32).toInt64 &&& 63)) ||| (((xs 7).toInt64) &&& 4294967295)))))))))]) (w1 := [(m0, .inr (11, y0.set 9 (.int 0)))]) hP hD [0] [1, 2] rfl rfl (by decide) (by decide) hk1 hFc hP1 hD1
    generalize H1 = H at hP hS ⊢
    have hP : va_P D vwCl [(h0, .inr (10, [.ref x0, .int 0, .ref x1, .ref x2, .ref x3, .ref x4, .ref x5, .ref x6, .ref x7, .ref x8, .int 0, .int 3000])), (o0, .inl (kA 1, 1, .inr (.inl (vp_updL (fun _ => 0) 0 (n_cut (xs 2) (n_combine (xs 1) 1 (n_cut (xs 2) ((((xs 4).toInt64) <<< ((32 : Int32).toInt64 &&& 63)) ||| (((xs 5).toInt64) &&& 4294967295))) (n_cut (xs 3) ((((xs 6).toInt64) <<< ((32 : Int32).toInt64 &&& 63)) ||| (((xs 7).toInt64) &&& 4294967295))))))))), (m0, .inr (11, y0.set 9 (.int 0)))] H := hP
    have hD : va_D A [(h0, .inr (10, [.ref x0, .int 0, .ref x1, .ref x2, .ref x3, .ref x4, .ref x5, .ref x6, .ref x7, .ref x8, .int 0, .int 3000])), (o0, .inl (kA 1, 1, .inr (.inl (vp_updL (fun _ => 0) 0 (n_cut (xs 2) (n_combine (xs 1) 1 (n_cut (xs 2) ((((xs 4).toInt64) <<< ((32 : Int32).toInt64 &&& 63)) ||| (((xs 5).toInt64) &&& 4294967295))) (n_cut (xs 3) ((((xs 6).toInt64) <<< ((32 : Int32).toInt64 &&& 63)) ||| (((xs 7).toInt64) &&& 4294967295))))))))), (m0, .inr (11, y0.set 9 (.int 0)))] := hD
    refine lv_lstore (lv' := [(6, .long (n_cut (xs 2) (r_two 203 1 (n_cut (xs 2) ((((xs 4).toInt64) <<< ((32 : Int32).toInt64 &&& 63)) ||| (((xs 5).toInt64) &&& 4294967295))) (n_cut (xs 3) ((((xs 6).toInt64) <<< ((32 : Int32).toInt64 &&& 63)) ||| (((xs 7).toInt64) &&& 4294967295)))))), (5, .int 0), (0, .ref b), (1, .ref h0), (2, .ref m0), (3, .ref o0), (4, .int 0)]) hx hb dL_law_1601 hl (by decide) rfl (fun ls hl => ?_)
    refine lv_aload_n hx hb dL_law_1603 rfl (lv_at hl 4 rfl) ?_
    have hPc := hP.sub (ws' := [(m0, .inr (11, y0.set 9 (.int 0)))]) [2] rfl
    have hDc := hD.sub (ws' := [(m0, .inr (11, y0.set 9 (.int 0)))]) [2] (by decide) rfl
    have hFc := va_free (wc := [(m0, .inr (11, y0.set 9 (.int 0)))]) hD hS hA [2] rfl
    refine va_calli (va_runV (As := []) (rest := []) ⟨hx, hb, hml, hown, hts⟩ (a94_X12_thrown l  D kA V H.size m0 (y0.set 9 (.int 0)) (fun k hk => (by rw [List.length_set]; exact (hq k hk))) (List.getElem?_set_self (hq 9 (by decide)))) (cwV 0 hts (gw_V gw_1879 gw_1880 gw_1881 gw_16 gw_1882) rfl rfl rfl (by decide +kernel) ⟨(Nat.le_of_ble_eq_true rfl), (Nat.le_of_ble_eq_true rfl)⟩) ⟨aP.blind, va_recv hK hP (ci := 11) (q0 := 2) rfl rfl, aP.pre hE hS hPc hK hDc hFc⟩ rfl rfl hl.1 rfl (lv_room (Nat.le_of_ble_eq_true rfl)) dL_law_1604 ⟨(Nat.le_of_ble_eq_true rfl), (Nat.le_of_ble_eq_true rfl)⟩) hS (fun q _ h => hFc q h) hFc (fun r_100776 u t H1 locs ht hvm hw hB hz1 hk1 hS => ?_)
    obtain ⟨hP1, hD1⟩ := hB
    rw [ht] at hP1
    try dsimp only at hw hP1 hD1
    have w_100777 := hw
    subst w_100777
    obtain ⟨hP, hD⟩ := va_join (wr := [(h0, .inr (10, [.ref x0, .int 0, .ref x1, .ref x2, .ref x3, .ref x4, .ref x5, .ref x6, .ref x7, .ref x8, .int 0, .int 3000])), (o0, .inl (kA 1, 1, .inr (.inl (vp_updL (fun _ => 0) 0 (n_cut (xs 2) (n_combine (xs 1) 1 (n_cut (xs 2) ((((xs 4).toInt64) <<< ((32 : Int32).toInt64 &&& 63)) ||| (((xs 5).toInt64) &&& 4294967295))) (n_cut (xs 3) ((((xs 6).toInt64) <<< ((32 : Int32).toInt64 &&& 63)) ||| (((xs 7).toInt64) &&& 4294967295)))))))))]) (w1 := [(m0, .inr (11, (y0.set 9 (.int 0))))]) hP hD [2] [0, 1] rfl rfl (by decide) (by decide) hk1 hFc hP1 hD1
    generalize H1 = H at hP hS ⊢
    have hP : va_P D vwCl [(h0, .inr (10, [.ref x0, .int 0, .ref x1, .ref x2, .ref x3, .ref x4, .ref x5, .ref x6, .ref x7, .ref x8, .int 0, .int 3000])), (o0, .inl (kA 1, 1, .inr (.inl (vp_updL (fun _ => 0) 0 (n_cut (xs 2) (n_combine (xs 1) 1 (n_cut (xs 2) ((((xs 4).toInt64) <<< ((32 : Int32).toInt64 &&& 63)) ||| (((xs 5).toInt64) &&& 4294967295))) (n_cut (xs 3) ((((xs 6).toInt64) <<< ((32 : Int32).toInt64 &&& 63)) ||| (((xs 7).toInt64) &&& 4294967295))))))))), (m0, .inr (11, (y0.set 9 (.int 0))))] H := hP
    have hD : va_D A [(h0, .inr (10, [.ref x0, .int 0, .ref x1, .ref x2, .ref x3, .ref x4, .ref x5, .ref x6, .ref x7, .ref x8, .int 0, .int 3000])), (o0, .inl (kA 1, 1, .inr (.inl (vp_updL (fun _ => 0) 0 (n_cut (xs 2) (n_combine (xs 1) 1 (n_cut (xs 2) ((((xs 4).toInt64) <<< ((32 : Int32).toInt64 &&& 63)) ||| (((xs 5).toInt64) &&& 4294967295))) (n_cut (xs 3) ((((xs 6).toInt64) <<< ((32 : Int32).toInt64 &&& 63)) ||| (((xs 7).toInt64) &&& 4294967295))))))))), (m0, .inr (11, (y0.set 9 (.int 0))))] := hD
    refine lv_iload hx hb dL_law_1607 (lv_at hl 1 rfl) ?_
    refine lv_icmp_eq (tgt := 1614) hx hb dL_law_1609 (by decide) (fun c_100778 => ?_) (fun c_100778 => ?_)
    · skip
      refine lv_iload hx hb dL_law_1614 (lv_at hl 1 rfl) ?_
      refine lv_if_ne (tgt := 1630) hx hb dL_law_1616 (by decide) (fun c_100779 => ?_) (fun c_100779 => ?_)
      · exact absurd (by decide) c_100779
      · skip
        refine lv_aload_n hx hb dL_law_1619 rfl (lv_at hl 5 rfl) ?_
        refine lv_iconst (v := 0) hx hb dL_law_1620 (by decide) ?_
        refine va_lald hx hb hK hP 1 1 rfl rfl (show vp_in 0 1 by unfold vp_in; decide) dL_law_1621 ?_
        refine W.eq (g2 := F0 m 1622 ls [.long (n_cut (xs 2) (n_combine (xs 1) 1 (n_cut (xs 2) ((((xs 4).toInt64) <<< ((32 : Int32).toInt64 &&& 63)) ||| (((xs 5).toInt64) &&& 4294967295))) (n_cut (xs 3) ((((xs 6).toInt64) <<< ((32 : Int32).toInt64 &&& 63)) ||| (((xs 7).toInt64) &&& 4294967295)))))]) rfl ?_
        refine lv_lload hx hb dL_law_1622 (lv_at hl 0 rfl) ?_
        refine W.lcmp hx hb dL_law_1624 ?_
        refine lv_if_eq (tgt := 1630) hx hb dL_law_1625 (by decide) (fun c_100780 => ?_) (fun c_100780 => ?_)
        · skip
          refine lv_goto (tgt := 1804) hx hb dL_law_1630 (by decide) ?_
          exact lk_tail hC hA2 (lv_sub hl [2, 6] rfl) hS (Nat.le_of_ble_eq_true rfl) (Nat.le_of_ble_eq_true rfl)
        · exact absurd ((lg_cmp_eq _ _).mpr (qx_w1 c_61 c_100093 (fun q => c_63 q.2) (by unfold q_sign; rw [if_neg c_100098, if_neg c_100099, if_neg c_100100, if_neg c_100101, if_neg c_100102, if_neg c_100103, if_neg c_100104, if_neg c_100105, if_neg c_100106, if_neg c_100107]))) c_100780
    · exact absurd (by decide) c_100778
  · exact absurd c_64 hz.2.2.2.2.2.2.2.2.2.2.2.2.2.2.2.2.2.2.1
  · exact absurd c_64 hz.2.2.2.2.2.2.2.2.2.2.2.2.2.2.2.2.2.2.1
  · exact absurd c_64 hz.2.2.2.2.2.2.2.2.2.2.2.2.2.2.2.2.2.2.1
  · obtain ⟨c_100181, c_100182, c_100183, c_100184, c_100185, c_100186, c_100187, c_100188, c_100189, c_100190, c_100191, c_100192, c_100193, c_100194, c_100195, c_100196, c_100197, c_100198, c_100199, w_100200, w_100201⟩ := hz
    subst w_100200
    subst w_100201
    obtain ⟨hP, hD⟩ := va_join (wr := [(h0, .inr (10, [.ref x0, .int 0, .ref x1, .ref x2, .ref x3, .ref x4, .ref x5, .ref x6, .ref x7, .ref x8, .int 0, .int 3000])), (o0, .inl (kA 1, 1, .inr (.inl (vp_updL (fun _ => 0) 0 (n_cut (xs 2) (n_combine (xs 1) 1 (n_cut (xs 2) ((((xs 4).toInt64) <<< ((32 : Int32).toInt64 &&& 63)) ||| (((xs 5).toInt64) &&& 4294967295))) (n_cut (xs 3) ((((xs 6).toInt64) <<< ((32 : Int32).toInt64 &&& 63)) ||| (((xs 7).toInt64) &&& 4294967295)))))))))]) (w1 := [(m0, .inr (11, y0.set 9 (.int 0)))]) hP hD [0] [1, 2] rfl rfl (by decide) (by decide) hk1 hFc hP1 hD1
    generalize H1 = H at hP hS ⊢
    have hP : va_P D vwCl [(h0, .inr (10, [.ref x0, .int 0, .ref x1, .ref x2, .ref x3, .ref x4, .ref x5, .ref x6, .ref x7, .ref x8, .int 0, .int 3000])), (o0, .inl (kA 1, 1, .inr (.inl (vp_updL (fun _ => 0) 0 (n_cut (xs 2) (n_combine (xs 1) 1 (n_cut (xs 2) ((((xs 4).toInt64) <<< ((32 : Int32).toInt64 &&& 63)) ||| (((xs 5).toInt64) &&& 4294967295))) (n_cut (xs 3) ((((xs 6).toInt64) <<< ((32 : Int32).toInt64 &&& 63)) ||| (((xs 7).toInt64) &&& 4294967295))))))))), (m0, .inr (11, y0.set 9 (.int 0)))] H := hP
    have hD : va_D A [(h0, .inr (10, [.ref x0, .int 0, .ref x1, .ref x2, .ref x3, .ref x4, .ref x5, .ref x6, .ref x7, .ref x8, .int 0, .int 3000])), (o0, .inl (kA 1, 1, .inr (.inl (vp_updL (fun _ => 0) 0 (n_cut (xs 2) (n_combine (xs 1) 1 (n_cut (xs 2) ((((xs 4).toInt64) <<< ((32 : Int32).toInt64 &&& 63)) ||| (((xs 5).toInt64) &&& 4294967295))) (n_cut (xs 3) ((((xs 6).toInt64) <<< ((32 : Int32).toInt64 &&& 63)) ||| (((xs 7).toInt64) &&& 4294967295))))))))), (m0, .inr (11, y0.set 9 (.int 0)))] := hD
    refine lv_lstore (lv' := [(6, .long (n_cut (xs 2) (r_two 222 1 (n_cut (xs 2) ((((xs 4).toInt64) <<< ((32 : Int32).toInt64 &&& 63)) ||| (((xs 5).toInt64) &&& 4294967295))) (n_cut (xs 3) ((((xs 6).toInt64) <<< ((32 : Int32).toInt64 &&& 63)) ||| (((xs 7).toInt64) &&& 4294967295)))))), (5, .int 0), (0, .ref b), (1, .ref h0), (2, .ref m0), (3, .ref o0), (4, .int 0)]) hx hb dL_law_1601 hl (by decide) rfl (fun ls hl => ?_)
    refine lv_aload_n hx hb dL_law_1603 rfl (lv_at hl 4 rfl) ?_
    have hPc := hP.sub (ws' := [(m0, .inr (11, y0.set 9 (.int 0)))]) [2] rfl
    have hDc := hD.sub (ws' := [(m0, .inr (11, y0.set 9 (.int 0)))]) [2] (by decide) rfl
    have hFc := va_free (wc := [(m0, .inr (11, y0.set 9 (.int 0)))]) hD hS hA [2] rfl
    refine va_calli (va_runV (As := []) (rest := []) ⟨hx, hb, hml, hown, hts⟩ (a94_X12_thrown l  D kA V H.size m0 (y0.set 9 (.int 0)) (fun k hk => (by rw [List.length_set]; exact (hq k hk))) (List.getElem?_set_self (hq 9 (by decide)))) (cwV 0 hts (gw_V gw_1879 gw_1880 gw_1881 gw_16 gw_1882) rfl rfl rfl (by decide +kernel) ⟨(Nat.le_of_ble_eq_true rfl), (Nat.le_of_ble_eq_true rfl)⟩) ⟨aP.blind, va_recv hK hP (ci := 11) (q0 := 2) rfl rfl, aP.pre hE hS hPc hK hDc hFc⟩ rfl rfl hl.1 rfl (lv_room (Nat.le_of_ble_eq_true rfl)) dL_law_1604 ⟨(Nat.le_of_ble_eq_true rfl), (Nat.le_of_ble_eq_true rfl)⟩) hS (fun q _ h => hFc q h) hFc (fun r_100781 u t H1 locs ht hvm hw hB hz1 hk1 hS => ?_)
    obtain ⟨hP1, hD1⟩ := hB
    rw [ht] at hP1
    try dsimp only at hw hP1 hD1
    have w_100782 := hw
    subst w_100782
    obtain ⟨hP, hD⟩ := va_join (wr := [(h0, .inr (10, [.ref x0, .int 0, .ref x1, .ref x2, .ref x3, .ref x4, .ref x5, .ref x6, .ref x7, .ref x8, .int 0, .int 3000])), (o0, .inl (kA 1, 1, .inr (.inl (vp_updL (fun _ => 0) 0 (n_cut (xs 2) (n_combine (xs 1) 1 (n_cut (xs 2) ((((xs 4).toInt64) <<< ((32 : Int32).toInt64 &&& 63)) ||| (((xs 5).toInt64) &&& 4294967295))) (n_cut (xs 3) ((((xs 6).toInt64) <<< ((32 : Int32).toInt64 &&& 63)) ||| (((xs 7).toInt64) &&& 4294967295)))))))))]) (w1 := [(m0, .inr (11, (y0.set 9 (.int 0))))]) hP hD [2] [0, 1] rfl rfl (by decide) (by decide) hk1 hFc hP1 hD1
    generalize H1 = H at hP hS ⊢
    have hP : va_P D vwCl [(h0, .inr (10, [.ref x0, .int 0, .ref x1, .ref x2, .ref x3, .ref x4, .ref x5, .ref x6, .ref x7, .ref x8, .int 0, .int 3000])), (o0, .inl (kA 1, 1, .inr (.inl (vp_updL (fun _ => 0) 0 (n_cut (xs 2) (n_combine (xs 1) 1 (n_cut (xs 2) ((((xs 4).toInt64) <<< ((32 : Int32).toInt64 &&& 63)) ||| (((xs 5).toInt64) &&& 4294967295))) (n_cut (xs 3) ((((xs 6).toInt64) <<< ((32 : Int32).toInt64 &&& 63)) ||| (((xs 7).toInt64) &&& 4294967295))))))))), (m0, .inr (11, (y0.set 9 (.int 0))))] H := hP
    have hD : va_D A [(h0, .inr (10, [.ref x0, .int 0, .ref x1, .ref x2, .ref x3, .ref x4, .ref x5, .ref x6, .ref x7, .ref x8, .int 0, .int 3000])), (o0, .inl (kA 1, 1, .inr (.inl (vp_updL (fun _ => 0) 0 (n_cut (xs 2) (n_combine (xs 1) 1 (n_cut (xs 2) ((((xs 4).toInt64) <<< ((32 : Int32).toInt64 &&& 63)) ||| (((xs 5).toInt64) &&& 4294967295))) (n_cut (xs 3) ((((xs 6).toInt64) <<< ((32 : Int32).toInt64 &&& 63)) ||| (((xs 7).toInt64) &&& 4294967295))))))))), (m0, .inr (11, (y0.set 9 (.int 0))))] := hD
    refine lv_iload hx hb dL_law_1607 (lv_at hl 1 rfl) ?_
    refine lv_icmp_eq (tgt := 1614) hx hb dL_law_1609 (by decide) (fun c_100783 => ?_) (fun c_100783 => ?_)
    · skip
      refine lv_iload hx hb dL_law_1614 (lv_at hl 1 rfl) ?_
      refine lv_if_ne (tgt := 1630) hx hb dL_law_1616 (by decide) (fun c_100784 => ?_) (fun c_100784 => ?_)
      · exact absurd (by decide) c_100784
      · skip
        refine lv_aload_n hx hb dL_law_1619 rfl (lv_at hl 5 rfl) ?_
        refine lv_iconst (v := 0) hx hb dL_law_1620 (by decide) ?_
        refine va_lald hx hb hK hP 1 1 rfl rfl (show vp_in 0 1 by unfold vp_in; decide) dL_law_1621 ?_
        refine W.eq (g2 := F0 m 1622 ls [.long (n_cut (xs 2) (n_combine (xs 1) 1 (n_cut (xs 2) ((((xs 4).toInt64) <<< ((32 : Int32).toInt64 &&& 63)) ||| (((xs 5).toInt64) &&& 4294967295))) (n_cut (xs 3) ((((xs 6).toInt64) <<< ((32 : Int32).toInt64 &&& 63)) ||| (((xs 7).toInt64) &&& 4294967295)))))]) rfl ?_
        refine lv_lload hx hb dL_law_1622 (lv_at hl 0 rfl) ?_
        refine W.lcmp hx hb dL_law_1624 ?_
        refine lv_if_eq (tgt := 1630) hx hb dL_law_1625 (by decide) (fun c_100785 => ?_) (fun c_100785 => ?_)
        · skip
          refine lv_goto (tgt := 1804) hx hb dL_law_1630 (by decide) ?_
          exact lk_tail hC hA2 (lv_sub hl [2, 6] rfl) hS (Nat.le_of_ble_eq_true rfl) (Nat.le_of_ble_eq_true rfl)
        · exact absurd ((lg_cmp_eq _ _).mpr (qx_w1 c_61 c_100182 (fun q => c_63 q.2) (by rw [c_100196]; decide))) c_100785
    · exact absurd (by decide) c_100783
  · exact absurd c_64 hz.2.2.2.2.2.2.2.2.2.2.2.2.2.2.2.2.2.2.1
  · obtain ⟨c_100224, c_100225, c_100226, c_100227, c_100228, c_100229, c_100230, c_100231, c_100232, c_100233, c_100234, c_100235, c_100236, c_100237, c_100238, c_100239, c_100240, c_100241, w_100242, w_100243⟩ := hz
    subst w_100242
    subst w_100243
    obtain ⟨hP, hD⟩ := va_join (wr := [(h0, .inr (10, [.ref x0, .int 0, .ref x1, .ref x2, .ref x3, .ref x4, .ref x5, .ref x6, .ref x7, .ref x8, .int 0, .int 3000])), (o0, .inl (kA 1, 1, .inr (.inl (vp_updL (fun _ => 0) 0 (n_cut (xs 2) (n_combine (xs 1) 1 (n_cut (xs 2) ((((xs 4).toInt64) <<< ((32 : Int32).toInt64 &&& 63)) ||| (((xs 5).toInt64) &&& 4294967295))) (n_cut (xs 3) ((((xs 6).toInt64) <<< ((32 : Int32).toInt64 &&& 63)) ||| (((xs 7).toInt64) &&& 4294967295)))))))))]) (w1 := [(m0, .inr (11, y0.set 9 (.int 0)))]) hP hD [0] [1, 2] rfl rfl (by decide) (by decide) hk1 hFc hP1 hD1
    generalize H1 = H at hP hS ⊢
    have hP : va_P D vwCl [(h0, .inr (10, [.ref x0, .int 0, .ref x1, .ref x2, .ref x3, .ref x4, .ref x5, .ref x6, .ref x7, .ref x8, .int 0, .int 3000])), (o0, .inl (kA 1, 1, .inr (.inl (vp_updL (fun _ => 0) 0 (n_cut (xs 2) (n_combine (xs 1) 1 (n_cut (xs 2) ((((xs 4).toInt64) <<< ((32 : Int32).toInt64 &&& 63)) ||| (((xs 5).toInt64) &&& 4294967295))) (n_cut (xs 3) ((((xs 6).toInt64) <<< ((32 : Int32).toInt64 &&& 63)) ||| (((xs 7).toInt64) &&& 4294967295))))))))), (m0, .inr (11, y0.set 9 (.int 0)))] H := hP
    have hD : va_D A [(h0, .inr (10, [.ref x0, .int 0, .ref x1, .ref x2, .ref x3, .ref x4, .ref x5, .ref x6, .ref x7, .ref x8, .int 0, .int 3000])), (o0, .inl (kA 1, 1, .inr (.inl (vp_updL (fun _ => 0) 0 (n_cut (xs 2) (n_combine (xs 1) 1 (n_cut (xs 2) ((((xs 4).toInt64) <<< ((32 : Int32).toInt64 &&& 63)) ||| (((xs 5).toInt64) &&& 4294967295))) (n_cut (xs 3) ((((xs 6).toInt64) <<< ((32 : Int32).toInt64 &&& 63)) ||| (((xs 7).toInt64) &&& 4294967295))))))))), (m0, .inr (11, y0.set 9 (.int 0)))] := hD
    refine lv_lstore (lv' := [(6, .long (n_cut (xs 2) (r_two 221 1 (n_cut (xs 2) ((((xs 4).toInt64) <<< ((32 : Int32).toInt64 &&& 63)) ||| (((xs 5).toInt64) &&& 4294967295))) (n_cut (xs 3) ((((xs 6).toInt64) <<< ((32 : Int32).toInt64 &&& 63)) ||| (((xs 7).toInt64) &&& 4294967295)))))), (5, .int 0), (0, .ref b), (1, .ref h0), (2, .ref m0), (3, .ref o0), (4, .int 0)]) hx hb dL_law_1601 hl (by decide) rfl (fun ls hl => ?_)
    refine lv_aload_n hx hb dL_law_1603 rfl (lv_at hl 4 rfl) ?_
    have hPc := hP.sub (ws' := [(m0, .inr (11, y0.set 9 (.int 0)))]) [2] rfl
    have hDc := hD.sub (ws' := [(m0, .inr (11, y0.set 9 (.int 0)))]) [2] (by decide) rfl
    have hFc := va_free (wc := [(m0, .inr (11, y0.set 9 (.int 0)))]) hD hS hA [2] rfl
    refine va_calli (va_runV (As := []) (rest := []) ⟨hx, hb, hml, hown, hts⟩ (a94_X12_thrown l  D kA V H.size m0 (y0.set 9 (.int 0)) (fun k hk => (by rw [List.length_set]; exact (hq k hk))) (List.getElem?_set_self (hq 9 (by decide)))) (cwV 0 hts (gw_V gw_1879 gw_1880 gw_1881 gw_16 gw_1882) rfl rfl rfl (by decide +kernel) ⟨(Nat.le_of_ble_eq_true rfl), (Nat.le_of_ble_eq_true rfl)⟩) ⟨aP.blind, va_recv hK hP (ci := 11) (q0 := 2) rfl rfl, aP.pre hE hS hPc hK hDc hFc⟩ rfl rfl hl.1 rfl (lv_room (Nat.le_of_ble_eq_true rfl)) dL_law_1604 ⟨(Nat.le_of_ble_eq_true rfl), (Nat.le_of_ble_eq_true rfl)⟩) hS (fun q _ h => hFc q h) hFc (fun r_100786 u t H1 locs ht hvm hw hB hz1 hk1 hS => ?_)
    obtain ⟨hP1, hD1⟩ := hB
    rw [ht] at hP1
    try dsimp only at hw hP1 hD1
    have w_100787 := hw
    subst w_100787
    obtain ⟨hP, hD⟩ := va_join (wr := [(h0, .inr (10, [.ref x0, .int 0, .ref x1, .ref x2, .ref x3, .ref x4, .ref x5, .ref x6, .ref x7, .ref x8, .int 0, .int 3000])), (o0, .inl (kA 1, 1, .inr (.inl (vp_updL (fun _ => 0) 0 (n_cut (xs 2) (n_combine (xs 1) 1 (n_cut (xs 2) ((((xs 4).toInt64) <<< ((32 : Int32).toInt64 &&& 63)) ||| (((xs 5).toInt64) &&& 4294967295))) (n_cut (xs 3) ((((xs 6).toInt64) <<< ((32 : Int32).toInt64 &&& 63)) ||| (((xs 7).toInt64) &&& 4294967295)))))))))]) (w1 := [(m0, .inr (11, (y0.set 9 (.int 0))))]) hP hD [2] [0, 1] rfl rfl (by decide) (by decide) hk1 hFc hP1 hD1
    generalize H1 = H at hP hS ⊢
    have hP : va_P D vwCl [(h0, .inr (10, [.ref x0, .int 0, .ref x1, .ref x2, .ref x3, .ref x4, .ref x5, .ref x6, .ref x7, .ref x8, .int 0, .int 3000])), (o0, .inl (kA 1, 1, .inr (.inl (vp_updL (fun _ => 0) 0 (n_cut (xs 2) (n_combine (xs 1) 1 (n_cut (xs 2) ((((xs 4).toInt64) <<< ((32 : Int32).toInt64 &&& 63)) ||| (((xs 5).toInt64) &&& 4294967295))) (n_cut (xs 3) ((((xs 6).toInt64) <<< ((32 : Int32).toInt64 &&& 63)) ||| (((xs 7).toInt64) &&& 4294967295))))))))), (m0, .inr (11, (y0.set 9 (.int 0))))] H := hP
    have hD : va_D A [(h0, .inr (10, [.ref x0, .int 0, .ref x1, .ref x2, .ref x3, .ref x4, .ref x5, .ref x6, .ref x7, .ref x8, .int 0, .int 3000])), (o0, .inl (kA 1, 1, .inr (.inl (vp_updL (fun _ => 0) 0 (n_cut (xs 2) (n_combine (xs 1) 1 (n_cut (xs 2) ((((xs 4).toInt64) <<< ((32 : Int32).toInt64 &&& 63)) ||| (((xs 5).toInt64) &&& 4294967295))) (n_cut (xs 3) ((((xs 6).toInt64) <<< ((32 : Int32).toInt64 &&& 63)) ||| (((xs 7).toInt64) &&& 4294967295))))))))), (m0, .inr (11, (y0.set 9 (.int 0))))] := hD
    refine lv_iload hx hb dL_law_1607 (lv_at hl 1 rfl) ?_
    refine lv_icmp_eq (tgt := 1614) hx hb dL_law_1609 (by decide) (fun c_100788 => ?_) (fun c_100788 => ?_)
    · skip
      refine lv_iload hx hb dL_law_1614 (lv_at hl 1 rfl) ?_
      refine lv_if_ne (tgt := 1630) hx hb dL_law_1616 (by decide) (fun c_100789 => ?_) (fun c_100789 => ?_)
      · exact absurd (by decide) c_100789
      · skip
        refine lv_aload_n hx hb dL_law_1619 rfl (lv_at hl 5 rfl) ?_
        refine lv_iconst (v := 0) hx hb dL_law_1620 (by decide) ?_
        refine va_lald hx hb hK hP 1 1 rfl rfl (show vp_in 0 1 by unfold vp_in; decide) dL_law_1621 ?_
        refine W.eq (g2 := F0 m 1622 ls [.long (n_cut (xs 2) (n_combine (xs 1) 1 (n_cut (xs 2) ((((xs 4).toInt64) <<< ((32 : Int32).toInt64 &&& 63)) ||| (((xs 5).toInt64) &&& 4294967295))) (n_cut (xs 3) ((((xs 6).toInt64) <<< ((32 : Int32).toInt64 &&& 63)) ||| (((xs 7).toInt64) &&& 4294967295)))))]) rfl ?_
        refine lv_lload hx hb dL_law_1622 (lv_at hl 0 rfl) ?_
        refine W.lcmp hx hb dL_law_1624 ?_
        refine lv_if_eq (tgt := 1630) hx hb dL_law_1625 (by decide) (fun c_100790 => ?_) (fun c_100790 => ?_)
        · skip
          refine lv_goto (tgt := 1804) hx hb dL_law_1630 (by decide) ?_
          exact lk_tail hC hA2 (lv_sub hl [2, 6] rfl) hS (Nat.le_of_ble_eq_true rfl) (Nat.le_of_ble_eq_true rfl)
        · exact absurd ((lg_cmp_eq _ _).mpr (qx_w1 c_61 c_100225 (fun q => c_63 q.2) (by rw [c_100238]; decide))) c_100790
    · exact absurd (by decide) c_100788
  · exact absurd c_64 hz.2.2.2.2.2.2.2.2.2.2.2.2.2.2.2.2.2.1
  · obtain ⟨c_100265, c_100266, c_100267, c_100268, c_100269, c_100270, c_100271, c_100272, c_100273, c_100274, c_100275, c_100276, c_100277, c_100278, c_100279, c_100280, c_100281, w_100282, w_100283⟩ := hz
    subst w_100282
    subst w_100283
    obtain ⟨hP, hD⟩ := va_join (wr := [(h0, .inr (10, [.ref x0, .int 0, .ref x1, .ref x2, .ref x3, .ref x4, .ref x5, .ref x6, .ref x7, .ref x8, .int 0, .int 3000])), (o0, .inl (kA 1, 1, .inr (.inl (vp_updL (fun _ => 0) 0 (n_cut (xs 2) (n_combine (xs 1) 1 (n_cut (xs 2) ((((xs 4).toInt64) <<< ((32 : Int32).toInt64 &&& 63)) ||| (((xs 5).toInt64) &&& 4294967295))) (n_cut (xs 3) ((((xs 6).toInt64) <<< ((32 : Int32).toInt64 &&& 63)) ||| (((xs 7).toInt64) &&& 4294967295)))))))))]) (w1 := [(m0, .inr (11, y0.set 9 (.int 0)))]) hP hD [0] [1, 2] rfl rfl (by decide) (by decide) hk1 hFc hP1 hD1
    generalize H1 = H at hP hS ⊢
    have hP : va_P D vwCl [(h0, .inr (10, [.ref x0, .int 0, .ref x1, .ref x2, .ref x3, .ref x4, .ref x5, .ref x6, .ref x7, .ref x8, .int 0, .int 3000])), (o0, .inl (kA 1, 1, .inr (.inl (vp_updL (fun _ => 0) 0 (n_cut (xs 2) (n_combine (xs 1) 1 (n_cut (xs 2) ((((xs 4).toInt64) <<< ((32 : Int32).toInt64 &&& 63)) ||| (((xs 5).toInt64) &&& 4294967295))) (n_cut (xs 3) ((((xs 6).toInt64) <<< ((32 : Int32).toInt64 &&& 63)) ||| (((xs 7).toInt64) &&& 4294967295))))))))), (m0, .inr (11, y0.set 9 (.int 0)))] H := hP
    have hD : va_D A [(h0, .inr (10, [.ref x0, .int 0, .ref x1, .ref x2, .ref x3, .ref x4, .ref x5, .ref x6, .ref x7, .ref x8, .int 0, .int 3000])), (o0, .inl (kA 1, 1, .inr (.inl (vp_updL (fun _ => 0) 0 (n_cut (xs 2) (n_combine (xs 1) 1 (n_cut (xs 2) ((((xs 4).toInt64) <<< ((32 : Int32).toInt64 &&& 63)) ||| (((xs 5).toInt64) &&& 4294967295))) (n_cut (xs 3) ((((xs 6).toInt64) <<< ((32 : Int32).toInt64 &&& 63)) ||| (((xs 7).toInt64) &&& 4294967295))))))))), (m0, .inr (11, y0.set 9 (.int 0)))] := hD
    refine lv_lstore (lv' := [(6, .long (n_cut (xs 2) (r_two 236 1 (n_cut (xs 2) ((((xs 4).toInt64) <<< ((32 : Int32).toInt64 &&& 63)) ||| (((xs 5).toInt64) &&& 4294967295))) (n_cut (xs 3) ((((xs 6).toInt64) <<< ((32 : Int32).toInt64 &&& 63)) ||| (((xs 7).toInt64) &&& 4294967295)))))), (5, .int 0), (0, .ref b), (1, .ref h0), (2, .ref m0), (3, .ref o0), (4, .int 0)]) hx hb dL_law_1601 hl (by decide) rfl (fun ls hl => ?_)
    refine lv_aload_n hx hb dL_law_1603 rfl (lv_at hl 4 rfl) ?_
    have hPc := hP.sub (ws' := [(m0, .inr (11, y0.set 9 (.int 0)))]) [2] rfl
    have hDc := hD.sub (ws' := [(m0, .inr (11, y0.set 9 (.int 0)))]) [2] (by decide) rfl
    have hFc := va_free (wc := [(m0, .inr (11, y0.set 9 (.int 0)))]) hD hS hA [2] rfl
    refine va_calli (va_runV (As := []) (rest := []) ⟨hx, hb, hml, hown, hts⟩ (a94_X12_thrown l  D kA V H.size m0 (y0.set 9 (.int 0)) (fun k hk => (by rw [List.length_set]; exact (hq k hk))) (List.getElem?_set_self (hq 9 (by decide)))) (cwV 0 hts (gw_V gw_1879 gw_1880 gw_1881 gw_16 gw_1882) rfl rfl rfl (by decide +kernel) ⟨(Nat.le_of_ble_eq_true rfl), (Nat.le_of_ble_eq_true rfl)⟩) ⟨aP.blind, va_recv hK hP (ci := 11) (q0 := 2) rfl rfl, aP.pre hE hS hPc hK hDc hFc⟩ rfl rfl hl.1 rfl (lv_room (Nat.le_of_ble_eq_true rfl)) dL_law_1604 ⟨(Nat.le_of_ble_eq_true rfl), (Nat.le_of_ble_eq_true rfl)⟩) hS (fun q _ h => hFc q h) hFc (fun r_100791 u t H1 locs ht hvm hw hB hz1 hk1 hS => ?_)
    obtain ⟨hP1, hD1⟩ := hB
    rw [ht] at hP1
    try dsimp only at hw hP1 hD1
    have w_100792 := hw
    subst w_100792
    obtain ⟨hP, hD⟩ := va_join (wr := [(h0, .inr (10, [.ref x0, .int 0, .ref x1, .ref x2, .ref x3, .ref x4, .ref x5, .ref x6, .ref x7, .ref x8, .int 0, .int 3000])), (o0, .inl (kA 1, 1, .inr (.inl (vp_updL (fun _ => 0) 0 (n_cut (xs 2) (n_combine (xs 1) 1 (n_cut (xs 2) ((((xs 4).toInt64) <<< ((32 : Int32).toInt64 &&& 63)) ||| (((xs 5).toInt64) &&& 4294967295))) (n_cut (xs 3) ((((xs 6).toInt64) <<< ((32 : Int32).toInt64 &&& 63)) ||| (((xs 7).toInt64) &&& 4294967295)))))))))]) (w1 := [(m0, .inr (11, (y0.set 9 (.int 0))))]) hP hD [2] [0, 1] rfl rfl (by decide) (by decide) hk1 hFc hP1 hD1
    generalize H1 = H at hP hS ⊢
    have hP : va_P D vwCl [(h0, .inr (10, [.ref x0, .int 0, .ref x1, .ref x2, .ref x3, .ref x4, .ref x5, .ref x6, .ref x7, .ref x8, .int 0, .int 3000])), (o0, .inl (kA 1, 1, .inr (.inl (vp_updL (fun _ => 0) 0 (n_cut (xs 2) (n_combine (xs 1) 1 (n_cut (xs 2) ((((xs 4).toInt64) <<< ((32 : Int32).toInt64 &&& 63)) ||| (((xs 5).toInt64) &&& 4294967295))) (n_cut (xs 3) ((((xs 6).toInt64) <<< ((32 : Int32).toInt64 &&& 63)) ||| (((xs 7).toInt64) &&& 4294967295))))))))), (m0, .inr (11, (y0.set 9 (.int 0))))] H := hP
    have hD : va_D A [(h0, .inr (10, [.ref x0, .int 0, .ref x1, .ref x2, .ref x3, .ref x4, .ref x5, .ref x6, .ref x7, .ref x8, .int 0, .int 3000])), (o0, .inl (kA 1, 1, .inr (.inl (vp_updL (fun _ => 0) 0 (n_cut (xs 2) (n_combine (xs 1) 1 (n_cut (xs 2) ((((xs 4).toInt64) <<< ((32 : Int32).toInt64 &&& 63)) ||| (((xs 5).toInt64) &&& 4294967295))) (n_cut (xs 3) ((((xs 6).toInt64) <<< ((32 : Int32).toInt64 &&& 63)) ||| (((xs 7).toInt64) &&& 4294967295))))))))), (m0, .inr (11, (y0.set 9 (.int 0))))] := hD
    refine lv_iload hx hb dL_law_1607 (lv_at hl 1 rfl) ?_
    refine lv_icmp_eq (tgt := 1614) hx hb dL_law_1609 (by decide) (fun c_100793 => ?_) (fun c_100793 => ?_)
    · skip
      refine lv_iload hx hb dL_law_1614 (lv_at hl 1 rfl) ?_
      refine lv_if_ne (tgt := 1630) hx hb dL_law_1616 (by decide) (fun c_100794 => ?_) (fun c_100794 => ?_)
      · exact absurd (by decide) c_100794
      · skip
        refine lv_aload_n hx hb dL_law_1619 rfl (lv_at hl 5 rfl) ?_
        refine lv_iconst (v := 0) hx hb dL_law_1620 (by decide) ?_
        refine va_lald hx hb hK hP 1 1 rfl rfl (show vp_in 0 1 by unfold vp_in; decide) dL_law_1621 ?_
        refine W.eq (g2 := F0 m 1622 ls [.long (n_cut (xs 2) (n_combine (xs 1) 1 (n_cut (xs 2) ((((xs 4).toInt64) <<< ((32 : Int32).toInt64 &&& 63)) ||| (((xs 5).toInt64) &&& 4294967295))) (n_cut (xs 3) ((((xs 6).toInt64) <<< ((32 : Int32).toInt64 &&& 63)) ||| (((xs 7).toInt64) &&& 4294967295)))))]) rfl ?_
        refine lv_lload hx hb dL_law_1622 (lv_at hl 0 rfl) ?_
        refine W.lcmp hx hb dL_law_1624 ?_
        refine lv_if_eq (tgt := 1630) hx hb dL_law_1625 (by decide) (fun c_100795 => ?_) (fun c_100795 => ?_)
        · skip
          refine lv_goto (tgt := 1804) hx hb dL_law_1630 (by decide) ?_
          exact lk_tail hC hA2 (lv_sub hl [2, 6] rfl) hS (Nat.le_of_ble_eq_true rfl) (Nat.le_of_ble_eq_true rfl)
        · exact absurd ((lg_cmp_eq _ _).mpr (qx_w1 c_61 c_100266 (fun q => c_63 q.2) (by rw [c_100278]; decide))) c_100795
    · exact absurd (by decide) c_100793
  · exact absurd c_64 hz.2.2.2.2.2.2.2.2.2.2.2.2.2.2.2.2.1
  · exact absurd c_64 hz.2.2.2.2.2.2.2.2.2.2.2.2.2.2.2.2.1
  · obtain ⟨c_100326, c_100327, c_100328, c_100329, c_100330, c_100331, c_100332, c_100333, c_100334, c_100335, c_100336, c_100337, c_100338, c_100339, c_100340, c_100341, w_100342, w_100343⟩ := hz
    subst w_100342
    subst w_100343
    obtain ⟨hP, hD⟩ := va_join (wr := [(h0, .inr (10, [.ref x0, .int 0, .ref x1, .ref x2, .ref x3, .ref x4, .ref x5, .ref x6, .ref x7, .ref x8, .int 0, .int 3000])), (o0, .inl (kA 1, 1, .inr (.inl (vp_updL (fun _ => 0) 0 (n_cut (xs 2) (n_combine (xs 1) 1 (n_cut (xs 2) ((((xs 4).toInt64) <<< ((32 : Int32).toInt64 &&& 63)) ||| (((xs 5).toInt64) &&& 4294967295))) (n_cut (xs 3) ((((xs 6).toInt64) <<< ((32 : Int32).toInt64 &&& 63)) ||| (((xs 7).toInt64) &&& 4294967295)))))))))]) (w1 := [(m0, .inr (11, y0.set 9 (.int 0)))]) hP hD [0] [1, 2] rfl rfl (by decide) (by decide) hk1 hFc hP1 hD1
    generalize H1 = H at hP hS ⊢
    have hP : va_P D vwCl [(h0, .inr (10, [.ref x0, .int 0, .ref x1, .ref x2, .ref x3, .ref x4, .ref x5, .ref x6, .ref x7, .ref x8, .int 0, .int 3000])), (o0, .inl (kA 1, 1, .inr (.inl (vp_updL (fun _ => 0) 0 (n_cut (xs 2) (n_combine (xs 1) 1 (n_cut (xs 2) ((((xs 4).toInt64) <<< ((32 : Int32).toInt64 &&& 63)) ||| (((xs 5).toInt64) &&& 4294967295))) (n_cut (xs 3) ((((xs 6).toInt64) <<< ((32 : Int32).toInt64 &&& 63)) ||| (((xs 7).toInt64) &&& 4294967295))))))))), (m0, .inr (11, y0.set 9 (.int 0)))] H := hP
    have hD : va_D A [(h0, .inr (10, [.ref x0, .int 0, .ref x1, .ref x2, .ref x3, .ref x4, .ref x5, .ref x6, .ref x7, .ref x8, .int 0, .int 3000])), (o0, .inl (kA 1, 1, .inr (.inl (vp_updL (fun _ => 0) 0 (n_cut (xs 2) (n_combine (xs 1) 1 (n_cut (xs 2) ((((xs 4).toInt64) <<< ((32 : Int32).toInt64 &&& 63)) ||| (((xs 5).toInt64) &&& 4294967295))) (n_cut (xs 3) ((((xs 6).toInt64) <<< ((32 : Int32).toInt64 &&& 63)) ||| (((xs 7).toInt64) &&& 4294967295))))))))), (m0, .inr (11, y0.set 9 (.int 0)))] := hD
    refine lv_lstore (lv' := [(6, .long (n_cut (xs 2) (r_two 235 1 (n_cut (xs 2) ((((xs 4).toInt64) <<< ((32 : Int32).toInt64 &&& 63)) ||| (((xs 5).toInt64) &&& 4294967295))) (n_cut (xs 3) ((((xs 6).toInt64) <<< ((32 : Int32).toInt64 &&& 63)) ||| (((xs 7).toInt64) &&& 4294967295)))))), (5, .int 0), (0, .ref b), (1, .ref h0), (2, .ref m0), (3, .ref o0), (4, .int 0)]) hx hb dL_law_1601 hl (by decide) rfl (fun ls hl => ?_)
    refine lv_aload_n hx hb dL_law_1603 rfl (lv_at hl 4 rfl) ?_
    have hPc := hP.sub (ws' := [(m0, .inr (11, y0.set 9 (.int 0)))]) [2] rfl
    have hDc := hD.sub (ws' := [(m0, .inr (11, y0.set 9 (.int 0)))]) [2] (by decide) rfl
    have hFc := va_free (wc := [(m0, .inr (11, y0.set 9 (.int 0)))]) hD hS hA [2] rfl
    refine va_calli (va_runV (As := []) (rest := []) ⟨hx, hb, hml, hown, hts⟩ (a94_X12_thrown l  D kA V H.size m0 (y0.set 9 (.int 0)) (fun k hk => (by rw [List.length_set]; exact (hq k hk))) (List.getElem?_set_self (hq 9 (by decide)))) (cwV 0 hts (gw_V gw_1879 gw_1880 gw_1881 gw_16 gw_1882) rfl rfl rfl (by decide +kernel) ⟨(Nat.le_of_ble_eq_true rfl), (Nat.le_of_ble_eq_true rfl)⟩) ⟨aP.blind, va_recv hK hP (ci := 11) (q0 := 2) rfl rfl, aP.pre hE hS hPc hK hDc hFc⟩ rfl rfl hl.1 rfl (lv_room (Nat.le_of_ble_eq_true rfl)) dL_law_1604 ⟨(Nat.le_of_ble_eq_true rfl), (Nat.le_of_ble_eq_true rfl)⟩) hS (fun q _ h => hFc q h) hFc (fun r_100796 u t H1 locs ht hvm hw hB hz1 hk1 hS => ?_)
    obtain ⟨hP1, hD1⟩ := hB
    rw [ht] at hP1
    try dsimp only at hw hP1 hD1
    have w_100797 := hw
    subst w_100797
    obtain ⟨hP, hD⟩ := va_join (wr := [(h0, .inr (10, [.ref x0, .int 0, .ref x1, .ref x2, .ref x3, .ref x4, .ref x5, .ref x6, .ref x7, .ref x8, .int 0, .int 3000])), (o0, .inl (kA 1, 1, .inr (.inl (vp_updL (fun _ => 0) 0 (n_cut (xs 2) (n_combine (xs 1) 1 (n_cut (xs 2) ((((xs 4).toInt64) <<< ((32 : Int32).toInt64 &&& 63)) ||| (((xs 5).toInt64) &&& 4294967295))) (n_cut (xs 3) ((((xs 6).toInt64) <<< ((32 : Int32).toInt64 &&& 63)) ||| (((xs 7).toInt64) &&& 4294967295)))))))))]) (w1 := [(m0, .inr (11, (y0.set 9 (.int 0))))]) hP hD [2] [0, 1] rfl rfl (by decide) (by decide) hk1 hFc hP1 hD1
    generalize H1 = H at hP hS ⊢
    have hP : va_P D vwCl [(h0, .inr (10, [.ref x0, .int 0, .ref x1, .ref x2, .ref x3, .ref x4, .ref x5, .ref x6, .ref x7, .ref x8, .int 0, .int 3000])), (o0, .inl (kA 1, 1, .inr (.inl (vp_updL (fun _ => 0) 0 (n_cut (xs 2) (n_combine (xs 1) 1 (n_cut (xs 2) ((((xs 4).toInt64) <<< ((32 : Int32).toInt64 &&& 63)) ||| (((xs 5).toInt64) &&& 4294967295))) (n_cut (xs 3) ((((xs 6).toInt64) <<< ((32 : Int32).toInt64 &&& 63)) ||| (((xs 7).toInt64) &&& 4294967295))))))))), (m0, .inr (11, (y0.set 9 (.int 0))))] H := hP
    have hD : va_D A [(h0, .inr (10, [.ref x0, .int 0, .ref x1, .ref x2, .ref x3, .ref x4, .ref x5, .ref x6, .ref x7, .ref x8, .int 0, .int 3000])), (o0, .inl (kA 1, 1, .inr (.inl (vp_updL (fun _ => 0) 0 (n_cut (xs 2) (n_combine (xs 1) 1 (n_cut (xs 2) ((((xs 4).toInt64) <<< ((32 : Int32).toInt64 &&& 63)) ||| (((xs 5).toInt64) &&& 4294967295))) (n_cut (xs 3) ((((xs 6).toInt64) <<< ((32 : Int32).toInt64 &&& 63)) ||| (((xs 7).toInt64) &&& 4294967295))))))))), (m0, .inr (11, (y0.set 9 (.int 0))))] := hD
    refine lv_iload hx hb dL_law_1607 (lv_at hl 1 rfl) ?_
    refine lv_icmp_eq (tgt := 1614) hx hb dL_law_1609 (by decide) (fun c_100798 => ?_) (fun c_100798 => ?_)
    · skip
      refine lv_iload hx hb dL_law_1614 (lv_at hl 1 rfl) ?_
      refine lv_if_ne (tgt := 1630) hx hb dL_law_1616 (by decide) (fun c_100799 => ?_) (fun c_100799 => ?_)
      · exact absurd (by decide) c_100799
      · skip
        refine lv_aload_n hx hb dL_law_1619 rfl (lv_at hl 5 rfl) ?_
        refine lv_iconst (v := 0) hx hb dL_law_1620 (by decide) ?_
        refine va_lald hx hb hK hP 1 1 rfl rfl (show vp_in 0 1 by unfold vp_in; decide) dL_law_1621 ?_
        refine W.eq (g2 := F0 m 1622 ls [.long (n_cut (xs 2) (n_combine (xs 1) 1 (n_cut (xs 2) ((((xs 4).toInt64) <<< ((32 : Int32).toInt64 &&& 63)) ||| (((xs 5).toInt64) &&& 4294967295))) (n_cut (xs 3) ((((xs 6).toInt64) <<< ((32 : Int32).toInt64 &&& 63)) ||| (((xs 7).toInt64) &&& 4294967295)))))]) rfl ?_
        refine lv_lload hx hb dL_law_1622 (lv_at hl 0 rfl) ?_
        refine W.lcmp hx hb dL_law_1624 ?_
        refine lv_if_eq (tgt := 1630) hx hb dL_law_1625 (by decide) (fun c_100800 => ?_) (fun c_100800 => ?_)
        · skip
          refine lv_goto (tgt := 1804) hx hb dL_law_1630 (by decide) ?_
          exact lk_tail hC hA2 (lv_sub hl [2, 6] rfl) hS (Nat.le_of_ble_eq_true rfl) (Nat.le_of_ble_eq_true rfl)
        · exact absurd ((lg_cmp_eq _ _).mpr (qx_w1 c_61 c_100327 (fun q => c_63 q.2) (by rw [c_100338]; decide))) c_100800
    · exact absurd (by decide) c_100798
  · exact absurd c_64 hz.2.2.2.2.2.2.2.2.2.2.2.2.2.2.2.1
  · exact absurd c_64 hz.2.2.2.2.2.2.2.2.2.2.2.2.2.2.2.1
  · obtain ⟨c_100384, c_100385, c_100386, c_100387, c_100388, c_100389, c_100390, c_100391, c_100392, c_100393, c_100394, c_100395, c_100396, c_100397, c_100398, w_100399, w_100400⟩ := hz
    subst w_100399
    subst w_100400
    obtain ⟨hP, hD⟩ := va_join (wr := [(h0, .inr (10, [.ref x0, .int 0, .ref x1, .ref x2, .ref x3, .ref x4, .ref x5, .ref x6, .ref x7, .ref x8, .int 0, .int 3000])), (o0, .inl (kA 1, 1, .inr (.inl (vp_updL (fun _ => 0) 0 (n_cut (xs 2) (n_combine (xs 1) 1 (n_cut (xs 2) ((((xs 4).toInt64) <<< ((32 : Int32).toInt64 &&& 63)) ||| (((xs 5).toInt64) &&& 4294967295))) (n_cut (xs 3) ((((xs 6).toInt64) <<< ((32 : Int32).toInt64 &&& 63)) ||| (((xs 7).toInt64) &&& 4294967295)))))))))]) (w1 := [(m0, .inr (11, y0.set 9 (.int 0)))]) hP hD [0] [1, 2] rfl rfl (by decide) (by decide) hk1 hFc hP1 hD1
    generalize H1 = H at hP hS ⊢
    have hP : va_P D vwCl [(h0, .inr (10, [.ref x0, .int 0, .ref x1, .ref x2, .ref x3, .ref x4, .ref x5, .ref x6, .ref x7, .ref x8, .int 0, .int 3000])), (o0, .inl (kA 1, 1, .inr (.inl (vp_updL (fun _ => 0) 0 (n_cut (xs 2) (n_combine (xs 1) 1 (n_cut (xs 2) ((((xs 4).toInt64) <<< ((32 : Int32).toInt64 &&& 63)) ||| (((xs 5).toInt64) &&& 4294967295))) (n_cut (xs 3) ((((xs 6).toInt64) <<< ((32 : Int32).toInt64 &&& 63)) ||| (((xs 7).toInt64) &&& 4294967295))))))))), (m0, .inr (11, y0.set 9 (.int 0)))] H := hP
    have hD : va_D A [(h0, .inr (10, [.ref x0, .int 0, .ref x1, .ref x2, .ref x3, .ref x4, .ref x5, .ref x6, .ref x7, .ref x8, .int 0, .int 3000])), (o0, .inl (kA 1, 1, .inr (.inl (vp_updL (fun _ => 0) 0 (n_cut (xs 2) (n_combine (xs 1) 1 (n_cut (xs 2) ((((xs 4).toInt64) <<< ((32 : Int32).toInt64 &&& 63)) ||| (((xs 5).toInt64) &&& 4294967295))) (n_cut (xs 3) ((((xs 6).toInt64) <<< ((32 : Int32).toInt64 &&& 63)) ||| (((xs 7).toInt64) &&& 4294967295))))))))), (m0, .inr (11, y0.set 9 (.int 0)))] := hD
    refine lv_lstore (lv' := [(6, .long (n_cut (xs 2) (r_two 237 1 (n_cut (xs 2) ((((xs 4).toInt64) <<< ((32 : Int32).toInt64 &&& 63)) ||| (((xs 5).toInt64) &&& 4294967295))) (n_cut (xs 3) ((((xs 6).toInt64) <<< ((32 : Int32).toInt64 &&& 63)) ||| (((xs 7).toInt64) &&& 4294967295)))))), (5, .int 0), (0, .ref b), (1, .ref h0), (2, .ref m0), (3, .ref o0), (4, .int 0)]) hx hb dL_law_1601 hl (by decide) rfl (fun ls hl => ?_)
    refine lv_aload_n hx hb dL_law_1603 rfl (lv_at hl 4 rfl) ?_
    have hPc := hP.sub (ws' := [(m0, .inr (11, y0.set 9 (.int 0)))]) [2] rfl
    have hDc := hD.sub (ws' := [(m0, .inr (11, y0.set 9 (.int 0)))]) [2] (by decide) rfl
    have hFc := va_free (wc := [(m0, .inr (11, y0.set 9 (.int 0)))]) hD hS hA [2] rfl
    refine va_calli (va_runV (As := []) (rest := []) ⟨hx, hb, hml, hown, hts⟩ (a94_X12_thrown l  D kA V H.size m0 (y0.set 9 (.int 0)) (fun k hk => (by rw [List.length_set]; exact (hq k hk))) (List.getElem?_set_self (hq 9 (by decide)))) (cwV 0 hts (gw_V gw_1879 gw_1880 gw_1881 gw_16 gw_1882) rfl rfl rfl (by decide +kernel) ⟨(Nat.le_of_ble_eq_true rfl), (Nat.le_of_ble_eq_true rfl)⟩) ⟨aP.blind, va_recv hK hP (ci := 11) (q0 := 2) rfl rfl, aP.pre hE hS hPc hK hDc hFc⟩ rfl rfl hl.1 rfl (lv_room (Nat.le_of_ble_eq_true rfl)) dL_law_1604 ⟨(Nat.le_of_ble_eq_true rfl), (Nat.le_of_ble_eq_true rfl)⟩) hS (fun q _ h => hFc q h) hFc (fun r_100801 u t H1 locs ht hvm hw hB hz1 hk1 hS => ?_)
    obtain ⟨hP1, hD1⟩ := hB
    rw [ht] at hP1
    try dsimp only at hw hP1 hD1
    have w_100802 := hw
    subst w_100802
    obtain ⟨hP, hD⟩ := va_join (wr := [(h0, .inr (10, [.ref x0, .int 0, .ref x1, .ref x2, .ref x3, .ref x4, .ref x5, .ref x6, .ref x7, .ref x8, .int 0, .int 3000])), (o0, .inl (kA 1, 1, .inr (.inl (vp_updL (fun _ => 0) 0 (n_cut (xs 2) (n_combine (xs 1) 1 (n_cut (xs 2) ((((xs 4).toInt64) <<< ((32 : Int32).toInt64 &&& 63)) ||| (((xs 5).toInt64) &&& 4294967295))) (n_cut (xs 3) ((((xs 6).toInt64) <<< ((32 : Int32).toInt64 &&& 63)) ||| (((xs 7).toInt64) &&& 4294967295)))))))))]) (w1 := [(m0, .inr (11, (y0.set 9 (.int 0))))]) hP hD [2] [0, 1] rfl rfl (by decide) (by decide) hk1 hFc hP1 hD1
    generalize H1 = H at hP hS ⊢
    have hP : va_P D vwCl [(h0, .inr (10, [.ref x0, .int 0, .ref x1, .ref x2, .ref x3, .ref x4, .ref x5, .ref x6, .ref x7, .ref x8, .int 0, .int 3000])), (o0, .inl (kA 1, 1, .inr (.inl (vp_updL (fun _ => 0) 0 (n_cut (xs 2) (n_combine (xs 1) 1 (n_cut (xs 2) ((((xs 4).toInt64) <<< ((32 : Int32).toInt64 &&& 63)) ||| (((xs 5).toInt64) &&& 4294967295))) (n_cut (xs 3) ((((xs 6).toInt64) <<< ((32 : Int32).toInt64 &&& 63)) ||| (((xs 7).toInt64) &&& 4294967295))))))))), (m0, .inr (11, (y0.set 9 (.int 0))))] H := hP
    have hD : va_D A [(h0, .inr (10, [.ref x0, .int 0, .ref x1, .ref x2, .ref x3, .ref x4, .ref x5, .ref x6, .ref x7, .ref x8, .int 0, .int 3000])), (o0, .inl (kA 1, 1, .inr (.inl (vp_updL (fun _ => 0) 0 (n_cut (xs 2) (n_combine (xs 1) 1 (n_cut (xs 2) ((((xs 4).toInt64) <<< ((32 : Int32).toInt64 &&& 63)) ||| (((xs 5).toInt64) &&& 4294967295))) (n_cut (xs 3) ((((xs 6).toInt64) <<< ((32 : Int32).toInt64 &&& 63)) ||| (((xs 7).toInt64) &&& 4294967295))))))))), (m0, .inr (11, (y0.set 9 (.int 0))))] := hD
    refine lv_iload hx hb dL_law_1607 (lv_at hl 1 rfl) ?_
    refine lv_icmp_eq (tgt := 1614) hx hb dL_law_1609 (by decide) (fun c_100803 => ?_) (fun c_100803 => ?_)
    · skip
      refine lv_iload hx hb dL_law_1614 (lv_at hl 1 rfl) ?_
      refine lv_if_ne (tgt := 1630) hx hb dL_law_1616 (by decide) (fun c_100804 => ?_) (fun c_100804 => ?_)
      · exact absurd (by decide) c_100804
      · skip
        refine lv_aload_n hx hb dL_law_1619 rfl (lv_at hl 5 rfl) ?_
        refine lv_iconst (v := 0) hx hb dL_law_1620 (by decide) ?_
        refine va_lald hx hb hK hP 1 1 rfl rfl (show vp_in 0 1 by unfold vp_in; decide) dL_law_1621 ?_
        refine W.eq (g2 := F0 m 1622 ls [.long (n_cut (xs 2) (n_combine (xs 1) 1 (n_cut (xs 2) ((((xs 4).toInt64) <<< ((32 : Int32).toInt64 &&& 63)) ||| (((xs 5).toInt64) &&& 4294967295))) (n_cut (xs 3) ((((xs 6).toInt64) <<< ((32 : Int32).toInt64 &&& 63)) ||| (((xs 7).toInt64) &&& 4294967295)))))]) rfl ?_
        refine lv_lload hx hb dL_law_1622 (lv_at hl 0 rfl) ?_
        refine W.lcmp hx hb dL_law_1624 ?_
        refine lv_if_eq (tgt := 1630) hx hb dL_law_1625 (by decide) (fun c_100805 => ?_) (fun c_100805 => ?_)
        · skip
          refine lv_goto (tgt := 1804) hx hb dL_law_1630 (by decide) ?_
          exact lk_tail hC hA2 (lv_sub hl [2, 6] rfl) hS (Nat.le_of_ble_eq_true rfl) (Nat.le_of_ble_eq_true rfl)
        · exact absurd ((lg_cmp_eq _ _).mpr (qx_w1 c_61 c_100385 (fun q => c_63 q.2) (by rw [c_100395]; decide))) c_100805
    · exact absurd (by decide) c_100803
  · exact absurd c_64 hz.2.2.2.2.2.2.2.2.2.2.2.2.2.2.1
  · exact absurd c_64 hz.2.2.2.2.2.2.2.2.2.2.2.2.2.2.1
  · obtain ⟨c_100439, c_100440, c_100441, c_100442, c_100443, c_100444, c_100445, c_100446, c_100447, c_100448, c_100449, c_100450, c_100451, c_100452, c_100453, w_100454, w_100455⟩ := hz
    subst w_100454
    subst w_100455
    obtain ⟨hP, hD⟩ := va_join (wr := [(h0, .inr (10, [.ref x0, .int 0, .ref x1, .ref x2, .ref x3, .ref x4, .ref x5, .ref x6, .ref x7, .ref x8, .int 0, .int 3000])), (o0, .inl (kA 1, 1, .inr (.inl (vp_updL (fun _ => 0) 0 (n_cut (xs 2) (n_combine (xs 1) 1 (n_cut (xs 2) ((((xs 4).toInt64) <<< ((32 : Int32).toInt64 &&& 63)) ||| (((xs 5).toInt64) &&& 4294967295))) (n_cut (xs 3) ((((xs 6).toInt64) <<< ((32 : Int32).toInt64 &&& 63)) ||| (((xs 7).toInt64) &&& 4294967295)))))))))]) (w1 := [(m0, .inr (11, y0.set 9 (.int 0)))]) hP hD [0] [1, 2] rfl rfl (by decide) (by decide) hk1 hFc hP1 hD1
    generalize H1 = H at hP hS ⊢
    have hP : va_P D vwCl [(h0, .inr (10, [.ref x0, .int 0, .ref x1, .ref x2, .ref x3, .ref x4, .ref x5, .ref x6, .ref x7, .ref x8, .int 0, .int 3000])), (o0, .inl (kA 1, 1, .inr (.inl (vp_updL (fun _ => 0) 0 (n_cut (xs 2) (n_combine (xs 1) 1 (n_cut (xs 2) ((((xs 4).toInt64) <<< ((32 : Int32).toInt64 &&& 63)) ||| (((xs 5).toInt64) &&& 4294967295))) (n_cut (xs 3) ((((xs 6).toInt64) <<< ((32 : Int32).toInt64 &&& 63)) ||| (((xs 7).toInt64) &&& 4294967295))))))))), (m0, .inr (11, y0.set 9 (.int 0)))] H := hP
    have hD : va_D A [(h0, .inr (10, [.ref x0, .int 0, .ref x1, .ref x2, .ref x3, .ref x4, .ref x5, .ref x6, .ref x7, .ref x8, .int 0, .int 3000])), (o0, .inl (kA 1, 1, .inr (.inl (vp_updL (fun _ => 0) 0 (n_cut (xs 2) (n_combine (xs 1) 1 (n_cut (xs 2) ((((xs 4).toInt64) <<< ((32 : Int32).toInt64 &&& 63)) ||| (((xs 5).toInt64) &&& 4294967295))) (n_cut (xs 3) ((((xs 6).toInt64) <<< ((32 : Int32).toInt64 &&& 63)) ||| (((xs 7).toInt64) &&& 4294967295))))))))), (m0, .inr (11, y0.set 9 (.int 0)))] := hD
    refine lv_lstore (lv' := [(6, .long (n_cut (xs 2) (r_two 244 1 (n_cut (xs 2) ((((xs 4).toInt64) <<< ((32 : Int32).toInt64 &&& 63)) ||| (((xs 5).toInt64) &&& 4294967295))) (n_cut (xs 3) ((((xs 6).toInt64) <<< ((32 : Int32).toInt64 &&& 63)) ||| (((xs 7).toInt64) &&& 4294967295)))))), (5, .int 0), (0, .ref b), (1, .ref h0), (2, .ref m0), (3, .ref o0), (4, .int 0)]) hx hb dL_law_1601 hl (by decide) rfl (fun ls hl => ?_)
    refine lv_aload_n hx hb dL_law_1603 rfl (lv_at hl 4 rfl) ?_
    have hPc := hP.sub (ws' := [(m0, .inr (11, y0.set 9 (.int 0)))]) [2] rfl
    have hDc := hD.sub (ws' := [(m0, .inr (11, y0.set 9 (.int 0)))]) [2] (by decide) rfl
    have hFc := va_free (wc := [(m0, .inr (11, y0.set 9 (.int 0)))]) hD hS hA [2] rfl
    refine va_calli (va_runV (As := []) (rest := []) ⟨hx, hb, hml, hown, hts⟩ (a94_X12_thrown l  D kA V H.size m0 (y0.set 9 (.int 0)) (fun k hk => (by rw [List.length_set]; exact (hq k hk))) (List.getElem?_set_self (hq 9 (by decide)))) (cwV 0 hts (gw_V gw_1879 gw_1880 gw_1881 gw_16 gw_1882) rfl rfl rfl (by decide +kernel) ⟨(Nat.le_of_ble_eq_true rfl), (Nat.le_of_ble_eq_true rfl)⟩) ⟨aP.blind, va_recv hK hP (ci := 11) (q0 := 2) rfl rfl, aP.pre hE hS hPc hK hDc hFc⟩ rfl rfl hl.1 rfl (lv_room (Nat.le_of_ble_eq_true rfl)) dL_law_1604 ⟨(Nat.le_of_ble_eq_true rfl), (Nat.le_of_ble_eq_true rfl)⟩) hS (fun q _ h => hFc q h) hFc (fun r_100806 u t H1 locs ht hvm hw hB hz1 hk1 hS => ?_)
    obtain ⟨hP1, hD1⟩ := hB
    rw [ht] at hP1
    try dsimp only at hw hP1 hD1
    have w_100807 := hw
    subst w_100807
    obtain ⟨hP, hD⟩ := va_join (wr := [(h0, .inr (10, [.ref x0, .int 0, .ref x1, .ref x2, .ref x3, .ref x4, .ref x5, .ref x6, .ref x7, .ref x8, .int 0, .int 3000])), (o0, .inl (kA 1, 1, .inr (.inl (vp_updL (fun _ => 0) 0 (n_cut (xs 2) (n_combine (xs 1) 1 (n_cut (xs 2) ((((xs 4).toInt64) <<< ((32 : Int32).toInt64 &&& 63)) ||| (((xs 5).toInt64) &&& 4294967295))) (n_cut (xs 3) ((((xs 6).toInt64) <<< ((32 : Int32).toInt64 &&& 63)) ||| (((xs 7).toInt64) &&& 4294967295)))))))))]) (w1 := [(m0, .inr (11, (y0.set 9 (.int 0))))]) hP hD [2] [0, 1] rfl rfl (by decide) (by decide) hk1 hFc hP1 hD1
    generalize H1 = H at hP hS ⊢
    have hP : va_P D vwCl [(h0, .inr (10, [.ref x0, .int 0, .ref x1, .ref x2, .ref x3, .ref x4, .ref x5, .ref x6, .ref x7, .ref x8, .int 0, .int 3000])), (o0, .inl (kA 1, 1, .inr (.inl (vp_updL (fun _ => 0) 0 (n_cut (xs 2) (n_combine (xs 1) 1 (n_cut (xs 2) ((((xs 4).toInt64) <<< ((32 : Int32).toInt64 &&& 63)) ||| (((xs 5).toInt64) &&& 4294967295))) (n_cut (xs 3) ((((xs 6).toInt64) <<< ((32 : Int32).toInt64 &&& 63)) ||| (((xs 7).toInt64) &&& 4294967295))))))))), (m0, .inr (11, (y0.set 9 (.int 0))))] H := hP
    have hD : va_D A [(h0, .inr (10, [.ref x0, .int 0, .ref x1, .ref x2, .ref x3, .ref x4, .ref x5, .ref x6, .ref x7, .ref x8, .int 0, .int 3000])), (o0, .inl (kA 1, 1, .inr (.inl (vp_updL (fun _ => 0) 0 (n_cut (xs 2) (n_combine (xs 1) 1 (n_cut (xs 2) ((((xs 4).toInt64) <<< ((32 : Int32).toInt64 &&& 63)) ||| (((xs 5).toInt64) &&& 4294967295))) (n_cut (xs 3) ((((xs 6).toInt64) <<< ((32 : Int32).toInt64 &&& 63)) ||| (((xs 7).toInt64) &&& 4294967295))))))))), (m0, .inr (11, (y0.set 9 (.int 0))))] := hD
    refine lv_iload hx hb dL_law_1607 (lv_at hl 1 rfl) ?_
    refine lv_icmp_eq (tgt := 1614) hx hb dL_law_1609 (by decide) (fun c_100808 => ?_) (fun c_100808 => ?_)
    · skip
      refine lv_iload hx hb dL_law_1614 (lv_at hl 1 rfl) ?_
      refine lv_if_ne (tgt := 1630) hx hb dL_law_1616 (by decide) (fun c_100809 => ?_) (fun c_100809 => ?_)
      · exact absurd (by decide) c_100809
      · skip
        refine lv_aload_n hx hb dL_law_1619 rfl (lv_at hl 5 rfl) ?_
        refine lv_iconst (v := 0) hx hb dL_law_1620 (by decide) ?_
        refine va_lald hx hb hK hP 1 1 rfl rfl (show vp_in 0 1 by unfold vp_in; decide) dL_law_1621 ?_
        refine W.eq (g2 := F0 m 1622 ls [.long (n_cut (xs 2) (n_combine (xs 1) 1 (n_cut (xs 2) ((((xs 4).toInt64) <<< ((32 : Int32).toInt64 &&& 63)) ||| (((xs 5).toInt64) &&& 4294967295))) (n_cut (xs 3) ((((xs 6).toInt64) <<< ((32 : Int32).toInt64 &&& 63)) ||| (((xs 7).toInt64) &&& 4294967295)))))]) rfl ?_
        refine lv_lload hx hb dL_law_1622 (lv_at hl 0 rfl) ?_
        refine W.lcmp hx hb dL_law_1624 ?_
        refine lv_if_eq (tgt := 1630) hx hb dL_law_1625 (by decide) (fun c_100810 => ?_) (fun c_100810 => ?_)
        · skip
          refine lv_goto (tgt := 1804) hx hb dL_law_1630 (by decide) ?_
          exact lk_tail hC hA2 (lv_sub hl [2, 6] rfl) hS (Nat.le_of_ble_eq_true rfl) (Nat.le_of_ble_eq_true rfl)
        · exact absurd ((lg_cmp_eq _ _).mpr (qx_w1 c_61 c_100440 (fun q => c_63 q.2) (by rw [c_100449]; decide))) c_100810
    · exact absurd (by decide) c_100808
  · exact absurd c_64 hz.2.2.2.2.2.2.2.2.2.2.2.2.2.2.1
  · exact absurd c_64 hz.2.2.2.2.2.2.2.2.2.2.2.2.2.2.1
  · exact absurd hz.2.2.2.2.2.2.2.2.2.2.2.2.2.1 c_63
  · exact absurd hz.2.2.2.2.2.2.2.2.2.2.2.2.2.1 c_63
  · exact absurd hz.2.2.2.2.2.2.2.2.2.2.2.2.2.1 c_63
  · obtain ⟨c_100549, c_100550, c_100551, c_100552, c_100553, c_100554, c_100555, c_100556, c_100557, c_100558, c_100559, c_100560, c_100561, w_100562, w_100563⟩ := hz
    subst w_100562
    subst w_100563
    obtain ⟨hP, hD⟩ := va_join (wr := [(h0, .inr (10, [.ref x0, .int 0, .ref x1, .ref x2, .ref x3, .ref x4, .ref x5, .ref x6, .ref x7, .ref x8, .int 0, .int 3000])), (o0, .inl (kA 1, 1, .inr (.inl (vp_updL (fun _ => 0) 0 (n_cut (xs 2) (n_combine (xs 1) 1 (n_cut (xs 2) ((((xs 4).toInt64) <<< ((32 : Int32).toInt64 &&& 63)) ||| (((xs 5).toInt64) &&& 4294967295))) (n_cut (xs 3) ((((xs 6).toInt64) <<< ((32 : Int32).toInt64 &&& 63)) ||| (((xs 7).toInt64) &&& 4294967295)))))))))]) (w1 := [(m0, .inr (11, y0.set 9 (.int 0)))]) hP hD [0] [1, 2] rfl rfl (by decide) (by decide) hk1 hFc hP1 hD1
    generalize H1 = H at hP hS ⊢
    have hP : va_P D vwCl [(h0, .inr (10, [.ref x0, .int 0, .ref x1, .ref x2, .ref x3, .ref x4, .ref x5, .ref x6, .ref x7, .ref x8, .int 0, .int 3000])), (o0, .inl (kA 1, 1, .inr (.inl (vp_updL (fun _ => 0) 0 (n_cut (xs 2) (n_combine (xs 1) 1 (n_cut (xs 2) ((((xs 4).toInt64) <<< ((32 : Int32).toInt64 &&& 63)) ||| (((xs 5).toInt64) &&& 4294967295))) (n_cut (xs 3) ((((xs 6).toInt64) <<< ((32 : Int32).toInt64 &&& 63)) ||| (((xs 7).toInt64) &&& 4294967295))))))))), (m0, .inr (11, y0.set 9 (.int 0)))] H := hP
    have hD : va_D A [(h0, .inr (10, [.ref x0, .int 0, .ref x1, .ref x2, .ref x3, .ref x4, .ref x5, .ref x6, .ref x7, .ref x8, .int 0, .int 3000])), (o0, .inl (kA 1, 1, .inr (.inl (vp_updL (fun _ => 0) 0 (n_cut (xs 2) (n_combine (xs 1) 1 (n_cut (xs 2) ((((xs 4).toInt64) <<< ((32 : Int32).toInt64 &&& 63)) ||| (((xs 5).toInt64) &&& 4294967295))) (n_cut (xs 3) ((((xs 6).toInt64) <<< ((32 : Int32).toInt64 &&& 63)) ||| (((xs 7).toInt64) &&& 4294967295))))))))), (m0, .inr (11, y0.set 9 (.int 0)))] := hD
    refine lv_lstore (lv' := [(6, .long (n_cut (xs 2) (r_two 243 1 (n_cut (xs 2) ((((xs 4).toInt64) <<< ((32 : Int32).toInt64 &&& 63)) ||| (((xs 5).toInt64) &&& 4294967295))) (n_cut (xs 3) ((((xs 6).toInt64) <<< ((32 : Int32).toInt64 &&& 63)) ||| (((xs 7).toInt64) &&& 4294967295)))))), (5, .int 0), (0, .ref b), (1, .ref h0), (2, .ref m0), (3, .ref o0), (4, .int 0)]) hx hb dL_law_1601 hl (by decide) rfl (fun ls hl => ?_)
    refine lv_aload_n hx hb dL_law_1603 rfl (lv_at hl 4 rfl) ?_
    have hPc := hP.sub (ws' := [(m0, .inr (11, y0.set 9 (.int 0)))]) [2] rfl
    have hDc := hD.sub (ws' := [(m0, .inr (11, y0.set 9 (.int 0)))]) [2] (by decide) rfl
    have hFc := va_free (wc := [(m0, .inr (11, y0.set 9 (.int 0)))]) hD hS hA [2] rfl
    refine va_calli (va_runV (As := []) (rest := []) ⟨hx, hb, hml, hown, hts⟩ (a94_X12_thrown l  D kA V H.size m0 (y0.set 9 (.int 0)) (fun k hk => (by rw [List.length_set]; exact (hq k hk))) (List.getElem?_set_self (hq 9 (by decide)))) (cwV 0 hts (gw_V gw_1879 gw_1880 gw_1881 gw_16 gw_1882) rfl rfl rfl (by decide +kernel) ⟨(Nat.le_of_ble_eq_true rfl), (Nat.le_of_ble_eq_true rfl)⟩) ⟨aP.blind, va_recv hK hP (ci := 11) (q0 := 2) rfl rfl, aP.pre hE hS hPc hK hDc hFc⟩ rfl rfl hl.1 rfl (lv_room (Nat.le_of_ble_eq_true rfl)) dL_law_1604 ⟨(Nat.le_of_ble_eq_true rfl), (Nat.le_of_ble_eq_true rfl)⟩) hS (fun q _ h => hFc q h) hFc (fun r_100811 u t H1 locs ht hvm hw hB hz1 hk1 hS => ?_)
    obtain ⟨hP1, hD1⟩ := hB
    rw [ht] at hP1
    try dsimp only at hw hP1 hD1
    have w_100812 := hw
    subst w_100812
    obtain ⟨hP, hD⟩ := va_join (wr := [(h0, .inr (10, [.ref x0, .int 0, .ref x1, .ref x2, .ref x3, .ref x4, .ref x5, .ref x6, .ref x7, .ref x8, .int 0, .int 3000])), (o0, .inl (kA 1, 1, .inr (.inl (vp_updL (fun _ => 0) 0 (n_cut (xs 2) (n_combine (xs 1) 1 (n_cut (xs 2) ((((xs 4).toInt64) <<< ((32 : Int32).toInt64 &&& 63)) ||| (((xs 5).toInt64) &&& 4294967295))) (n_cut (xs 3) ((((xs 6).toInt64) <<< ((32 : Int32).toInt64 &&& 63)) ||| (((xs 7).toInt64) &&& 4294967295)))))))))]) (w1 := [(m0, .inr (11, (y0.set 9 (.int 0))))]) hP hD [2] [0, 1] rfl rfl (by decide) (by decide) hk1 hFc hP1 hD1
    generalize H1 = H at hP hS ⊢
    have hP : va_P D vwCl [(h0, .inr (10, [.ref x0, .int 0, .ref x1, .ref x2, .ref x3, .ref x4, .ref x5, .ref x6, .ref x7, .ref x8, .int 0, .int 3000])), (o0, .inl (kA 1, 1, .inr (.inl (vp_updL (fun _ => 0) 0 (n_cut (xs 2) (n_combine (xs 1) 1 (n_cut (xs 2) ((((xs 4).toInt64) <<< ((32 : Int32).toInt64 &&& 63)) ||| (((xs 5).toInt64) &&& 4294967295))) (n_cut (xs 3) ((((xs 6).toInt64) <<< ((32 : Int32).toInt64 &&& 63)) ||| (((xs 7).toInt64) &&& 4294967295))))))))), (m0, .inr (11, (y0.set 9 (.int 0))))] H := hP
    have hD : va_D A [(h0, .inr (10, [.ref x0, .int 0, .ref x1, .ref x2, .ref x3, .ref x4, .ref x5, .ref x6, .ref x7, .ref x8, .int 0, .int 3000])), (o0, .inl (kA 1, 1, .inr (.inl (vp_updL (fun _ => 0) 0 (n_cut (xs 2) (n_combine (xs 1) 1 (n_cut (xs 2) ((((xs 4).toInt64) <<< ((32 : Int32).toInt64 &&& 63)) ||| (((xs 5).toInt64) &&& 4294967295))) (n_cut (xs 3) ((((xs 6).toInt64) <<< ((32 : Int32).toInt64 &&& 63)) ||| (((xs 7).toInt64) &&& 4294967295))))))))), (m0, .inr (11, (y0.set 9 (.int 0))))] := hD
    refine lv_iload hx hb dL_law_1607 (lv_at hl 1 rfl) ?_
    refine lv_icmp_eq (tgt := 1614) hx hb dL_law_1609 (by decide) (fun c_100813 => ?_) (fun c_100813 => ?_)
    · skip
      refine lv_iload hx hb dL_law_1614 (lv_at hl 1 rfl) ?_
      refine lv_if_ne (tgt := 1630) hx hb dL_law_1616 (by decide) (fun c_100814 => ?_) (fun c_100814 => ?_)
      · exact absurd (by decide) c_100814
      · skip
        refine lv_aload_n hx hb dL_law_1619 rfl (lv_at hl 5 rfl) ?_
        refine lv_iconst (v := 0) hx hb dL_law_1620 (by decide) ?_
        refine va_lald hx hb hK hP 1 1 rfl rfl (show vp_in 0 1 by unfold vp_in; decide) dL_law_1621 ?_
        refine W.eq (g2 := F0 m 1622 ls [.long (n_cut (xs 2) (n_combine (xs 1) 1 (n_cut (xs 2) ((((xs 4).toInt64) <<< ((32 : Int32).toInt64 &&& 63)) ||| (((xs 5).toInt64) &&& 4294967295))) (n_cut (xs 3) ((((xs 6).toInt64) <<< ((32 : Int32).toInt64 &&& 63)) ||| (((xs 7).toInt64) &&& 4294967295)))))]) rfl ?_
        refine lv_lload hx hb dL_law_1622 (lv_at hl 0 rfl) ?_
        refine W.lcmp hx hb dL_law_1624 ?_
        refine lv_if_eq (tgt := 1630) hx hb dL_law_1625 (by decide) (fun c_100815 => ?_) (fun c_100815 => ?_)
        · skip
          refine lv_goto (tgt := 1804) hx hb dL_law_1630 (by decide) ?_
          exact lk_tail hC hA2 (lv_sub hl [2, 6] rfl) hS (Nat.le_of_ble_eq_true rfl) (Nat.le_of_ble_eq_true rfl)
        · exact absurd ((lg_cmp_eq _ _).mpr (qx_w1 c_61 c_100550 (fun q => c_63 q.2) (by rw [c_100558]; decide))) c_100815
    · exact absurd (by decide) c_100813
  · exact absurd c_64 hz.2.2.2.2.2.2.2.2.2.2.2.2.1
  · exact absurd c_64 hz.2.2.2.2.2.2.2.2.2.2.2.2.1
  · exact absurd hz.2.2.2.2.2.2.2.2.2.2.2.1 c_63
  · exact absurd hz.2.2.2.2.2.2.2.2.2.2.2.1 c_63
  · exact absurd hz.2.2.2.2.2.2.2.2.2.2.2.1 c_63
  · obtain ⟨c_100647, c_100648, c_100649, c_100650, c_100651, c_100652, c_100653, c_100654, c_100655, c_100656, c_100657, c_100658, w_100659, w_100660⟩ := hz
    subst w_100659
    subst w_100660
    obtain ⟨hP, hD⟩ := va_join (wr := [(h0, .inr (10, [.ref x0, .int 0, .ref x1, .ref x2, .ref x3, .ref x4, .ref x5, .ref x6, .ref x7, .ref x8, .int 0, .int 3000])), (o0, .inl (kA 1, 1, .inr (.inl (vp_updL (fun _ => 0) 0 (n_cut (xs 2) (n_combine (xs 1) 1 (n_cut (xs 2) ((((xs 4).toInt64) <<< ((32 : Int32).toInt64 &&& 63)) ||| (((xs 5).toInt64) &&& 4294967295))) (n_cut (xs 3) ((((xs 6).toInt64) <<< ((32 : Int32).toInt64 &&& 63)) ||| (((xs 7).toInt64) &&& 4294967295)))))))))]) (w1 := [(m0, .inr (11, y0.set 9 (.int 0)))]) hP hD [0] [1, 2] rfl rfl (by decide) (by decide) hk1 hFc hP1 hD1
    generalize H1 = H at hP hS ⊢
    have hP : va_P D vwCl [(h0, .inr (10, [.ref x0, .int 0, .ref x1, .ref x2, .ref x3, .ref x4, .ref x5, .ref x6, .ref x7, .ref x8, .int 0, .int 3000])), (o0, .inl (kA 1, 1, .inr (.inl (vp_updL (fun _ => 0) 0 (n_cut (xs 2) (n_combine (xs 1) 1 (n_cut (xs 2) ((((xs 4).toInt64) <<< ((32 : Int32).toInt64 &&& 63)) ||| (((xs 5).toInt64) &&& 4294967295))) (n_cut (xs 3) ((((xs 6).toInt64) <<< ((32 : Int32).toInt64 &&& 63)) ||| (((xs 7).toInt64) &&& 4294967295))))))))), (m0, .inr (11, y0.set 9 (.int 0)))] H := hP
    have hD : va_D A [(h0, .inr (10, [.ref x0, .int 0, .ref x1, .ref x2, .ref x3, .ref x4, .ref x5, .ref x6, .ref x7, .ref x8, .int 0, .int 3000])), (o0, .inl (kA 1, 1, .inr (.inl (vp_updL (fun _ => 0) 0 (n_cut (xs 2) (n_combine (xs 1) 1 (n_cut (xs 2) ((((xs 4).toInt64) <<< ((32 : Int32).toInt64 &&& 63)) ||| (((xs 5).toInt64) &&& 4294967295))) (n_cut (xs 3) ((((xs 6).toInt64) <<< ((32 : Int32).toInt64 &&& 63)) ||| (((xs 7).toInt64) &&& 4294967295))))))))), (m0, .inr (11, y0.set 9 (.int 0)))] := hD
    refine lv_lstore (lv' := [(6, .long (n_cut (xs 2) (r_two 242 1 (n_cut (xs 2) ((((xs 4).toInt64) <<< ((32 : Int32).toInt64 &&& 63)) ||| (((xs 5).toInt64) &&& 4294967295))) (n_cut (xs 3) ((((xs 6).toInt64) <<< ((32 : Int32).toInt64 &&& 63)) ||| (((xs 7).toInt64) &&& 4294967295)))))), (5, .int 0), (0, .ref b), (1, .ref h0), (2, .ref m0), (3, .ref o0), (4, .int 0)]) hx hb dL_law_1601 hl (by decide) rfl (fun ls hl => ?_)
    refine lv_aload_n hx hb dL_law_1603 rfl (lv_at hl 4 rfl) ?_
    have hPc := hP.sub (ws' := [(m0, .inr (11, y0.set 9 (.int 0)))]) [2] rfl
    have hDc := hD.sub (ws' := [(m0, .inr (11, y0.set 9 (.int 0)))]) [2] (by decide) rfl
    have hFc := va_free (wc := [(m0, .inr (11, y0.set 9 (.int 0)))]) hD hS hA [2] rfl
    refine va_calli (va_runV (As := []) (rest := []) ⟨hx, hb, hml, hown, hts⟩ (a94_X12_thrown l  D kA V H.size m0 (y0.set 9 (.int 0)) (fun k hk => (by rw [List.length_set]; exact (hq k hk))) (List.getElem?_set_self (hq 9 (by decide)))) (cwV 0 hts (gw_V gw_1879 gw_1880 gw_1881 gw_16 gw_1882) rfl rfl rfl (by decide +kernel) ⟨(Nat.le_of_ble_eq_true rfl), (Nat.le_of_ble_eq_true rfl)⟩) ⟨aP.blind, va_recv hK hP (ci := 11) (q0 := 2) rfl rfl, aP.pre hE hS hPc hK hDc hFc⟩ rfl rfl hl.1 rfl (lv_room (Nat.le_of_ble_eq_true rfl)) dL_law_1604 ⟨(Nat.le_of_ble_eq_true rfl), (Nat.le_of_ble_eq_true rfl)⟩) hS (fun q _ h => hFc q h) hFc (fun r_100816 u t H1 locs ht hvm hw hB hz1 hk1 hS => ?_)
    obtain ⟨hP1, hD1⟩ := hB
    rw [ht] at hP1
    try dsimp only at hw hP1 hD1
    have w_100817 := hw
    subst w_100817
    obtain ⟨hP, hD⟩ := va_join (wr := [(h0, .inr (10, [.ref x0, .int 0, .ref x1, .ref x2, .ref x3, .ref x4, .ref x5, .ref x6, .ref x7, .ref x8, .int 0, .int 3000])), (o0, .inl (kA 1, 1, .inr (.inl (vp_updL (fun _ => 0) 0 (n_cut (xs 2) (n_combine (xs 1) 1 (n_cut (xs 2) ((((xs 4).toInt64) <<< ((32 : Int32).toInt64 &&& 63)) ||| (((xs 5).toInt64) &&& 4294967295))) (n_cut (xs 3) ((((xs 6).toInt64) <<< ((32 : Int32).toInt64 &&& 63)) ||| (((xs 7).toInt64) &&& 4294967295)))))))))]) (w1 := [(m0, .inr (11, (y0.set 9 (.int 0))))]) hP hD [2] [0, 1] rfl rfl (by decide) (by decide) hk1 hFc hP1 hD1
    generalize H1 = H at hP hS ⊢
    have hP : va_P D vwCl [(h0, .inr (10, [.ref x0, .int 0, .ref x1, .ref x2, .ref x3, .ref x4, .ref x5, .ref x6, .ref x7, .ref x8, .int 0, .int 3000])), (o0, .inl (kA 1, 1, .inr (.inl (vp_updL (fun _ => 0) 0 (n_cut (xs 2) (n_combine (xs 1) 1 (n_cut (xs 2) ((((xs 4).toInt64) <<< ((32 : Int32).toInt64 &&& 63)) ||| (((xs 5).toInt64) &&& 4294967295))) (n_cut (xs 3) ((((xs 6).toInt64) <<< ((32 : Int32).toInt64 &&& 63)) ||| (((xs 7).toInt64) &&& 4294967295))))))))), (m0, .inr (11, (y0.set 9 (.int 0))))] H := hP
    have hD : va_D A [(h0, .inr (10, [.ref x0, .int 0, .ref x1, .ref x2, .ref x3, .ref x4, .ref x5, .ref x6, .ref x7, .ref x8, .int 0, .int 3000])), (o0, .inl (kA 1, 1, .inr (.inl (vp_updL (fun _ => 0) 0 (n_cut (xs 2) (n_combine (xs 1) 1 (n_cut (xs 2) ((((xs 4).toInt64) <<< ((32 : Int32).toInt64 &&& 63)) ||| (((xs 5).toInt64) &&& 4294967295))) (n_cut (xs 3) ((((xs 6).toInt64) <<< ((32 : Int32).toInt64 &&& 63)) ||| (((xs 7).toInt64) &&& 4294967295))))))))), (m0, .inr (11, (y0.set 9 (.int 0))))] := hD
    refine lv_iload hx hb dL_law_1607 (lv_at hl 1 rfl) ?_
    refine lv_icmp_eq (tgt := 1614) hx hb dL_law_1609 (by decide) (fun c_100818 => ?_) (fun c_100818 => ?_)
    · skip
      refine lv_iload hx hb dL_law_1614 (lv_at hl 1 rfl) ?_
      refine lv_if_ne (tgt := 1630) hx hb dL_law_1616 (by decide) (fun c_100819 => ?_) (fun c_100819 => ?_)
      · exact absurd (by decide) c_100819
      · skip
        refine lv_aload_n hx hb dL_law_1619 rfl (lv_at hl 5 rfl) ?_
        refine lv_iconst (v := 0) hx hb dL_law_1620 (by decide) ?_
        refine va_lald hx hb hK hP 1 1 rfl rfl (show vp_in 0 1 by unfold vp_in; decide) dL_law_1621 ?_
        refine W.eq (g2 := F0 m 1622 ls [.long (n_cut (xs 2) (n_combine (xs 1) 1 (n_cut (xs 2) ((((xs 4).toInt64) <<< ((32 : Int32).toInt64 &&& 63)) ||| (((xs 5).toInt64) &&& 4294967295))) (n_cut (xs 3) ((((xs 6).toInt64) <<< ((32 : Int32).toInt64 &&& 63)) ||| (((xs 7).toInt64) &&& 4294967295)))))]) rfl ?_
        refine lv_lload hx hb dL_law_1622 (lv_at hl 0 rfl) ?_
        refine W.lcmp hx hb dL_law_1624 ?_
        refine lv_if_eq (tgt := 1630) hx hb dL_law_1625 (by decide) (fun c_100820 => ?_) (fun c_100820 => ?_)
        · skip
          refine lv_goto (tgt := 1804) hx hb dL_law_1630 (by decide) ?_
          exact lk_tail hC hA2 (lv_sub hl [2, 6] rfl) hS (Nat.le_of_ble_eq_true rfl) (Nat.le_of_ble_eq_true rfl)
        · exact absurd ((lg_cmp_eq _ _).mpr (qx_w1 c_61 c_100648 (fun q => c_63 q.2) (by rw [c_100655]; decide))) c_100820
    · exact absurd (by decide) c_100818
  · exact absurd c_64 hz.2.2.2.2.2.2.2.2.2.2.2.1
  · exact absurd c_64 hz.2.2.2.2.2.2.2.2.2.2.2.1
  · obtain ⟨c_100693, c_100694, c_100695, c_100696, c_100697, c_100698, c_100699, c_100700, c_100701, c_100702, c_100703, w_100704, w_100705⟩ := hz
    subst w_100704
    subst w_100705
    obtain ⟨hP, hD⟩ := va_join (wr := [(h0, .inr (10, [.ref x0, .int 0, .ref x1, .ref x2, .ref x3, .ref x4, .ref x5, .ref x6, .ref x7, .ref x8, .int 0, .int 3000])), (o0, .inl (kA 1, 1, .inr (.inl (vp_updL (fun _ => 0) 0 (n_cut (xs 2) (n_combine (xs 1) 1 (n_cut (xs 2) ((((xs 4).toInt64) <<< ((32 : Int32).toInt64 &&& 63)) ||| (((xs 5).toInt64) &&& 4294967295))) (n_cut (xs 3) ((((xs 6).toInt64) <<< ((32 : Int32).toInt64 &&& 63)) ||| (((xs 7).toInt64) &&& 4294967295)))))))))]) (w1 := [(m0, .inr (11, y0.set 9 (.int 0)))]) hP hD [0] [1, 2] rfl rfl (by decide) (by decide) hk1 hFc hP1 hD1
    generalize H1 = H at hP hS ⊢
    have hP : va_P D vwCl [(h0, .inr (10, [.ref x0, .int 0, .ref x1, .ref x2, .ref x3, .ref x4, .ref x5, .ref x6, .ref x7, .ref x8, .int 0, .int 3000])), (o0, .inl (kA 1, 1, .inr (.inl (vp_updL (fun _ => 0) 0 (n_cut (xs 2) (n_combine (xs 1) 1 (n_cut (xs 2) ((((xs 4).toInt64) <<< ((32 : Int32).toInt64 &&& 63)) ||| (((xs 5).toInt64) &&& 4294967295))) (n_cut (xs 3) ((((xs 6).toInt64) <<< ((32 : Int32).toInt64 &&& 63)) ||| (((xs 7).toInt64) &&& 4294967295))))))))), (m0, .inr (11, y0.set 9 (.int 0)))] H := hP
    have hD : va_D A [(h0, .inr (10, [.ref x0, .int 0, .ref x1, .ref x2, .ref x3, .ref x4, .ref x5, .ref x6, .ref x7, .ref x8, .int 0, .int 3000])), (o0, .inl (kA 1, 1, .inr (.inl (vp_updL (fun _ => 0) 0 (n_cut (xs 2) (n_combine (xs 1) 1 (n_cut (xs 2) ((((xs 4).toInt64) <<< ((32 : Int32).toInt64 &&& 63)) ||| (((xs 5).toInt64) &&& 4294967295))) (n_cut (xs 3) ((((xs 6).toInt64) <<< ((32 : Int32).toInt64 &&& 63)) ||| (((xs 7).toInt64) &&& 4294967295))))))))), (m0, .inr (11, y0.set 9 (.int 0)))] := hD
    refine lv_lstore (lv' := [(6, .long (n_cut (xs 2) (r_two 241 1 (n_cut (xs 2) ((((xs 4).toInt64) <<< ((32 : Int32).toInt64 &&& 63)) ||| (((xs 5).toInt64) &&& 4294967295))) (n_cut (xs 3) ((((xs 6).toInt64) <<< ((32 : Int32).toInt64 &&& 63)) ||| (((xs 7).toInt64) &&& 4294967295)))))), (5, .int 0), (0, .ref b), (1, .ref h0), (2, .ref m0), (3, .ref o0), (4, .int 0)]) hx hb dL_law_1601 hl (by decide) rfl (fun ls hl => ?_)
    refine lv_aload_n hx hb dL_law_1603 rfl (lv_at hl 4 rfl) ?_
    have hPc := hP.sub (ws' := [(m0, .inr (11, y0.set 9 (.int 0)))]) [2] rfl
    have hDc := hD.sub (ws' := [(m0, .inr (11, y0.set 9 (.int 0)))]) [2] (by decide) rfl
    have hFc := va_free (wc := [(m0, .inr (11, y0.set 9 (.int 0)))]) hD hS hA [2] rfl
    refine va_calli (va_runV (As := []) (rest := []) ⟨hx, hb, hml, hown, hts⟩ (a94_X12_thrown l  D kA V H.size m0 (y0.set 9 (.int 0)) (fun k hk => (by rw [List.length_set]; exact (hq k hk))) (List.getElem?_set_self (hq 9 (by decide)))) (cwV 0 hts (gw_V gw_1879 gw_1880 gw_1881 gw_16 gw_1882) rfl rfl rfl (by decide +kernel) ⟨(Nat.le_of_ble_eq_true rfl), (Nat.le_of_ble_eq_true rfl)⟩) ⟨aP.blind, va_recv hK hP (ci := 11) (q0 := 2) rfl rfl, aP.pre hE hS hPc hK hDc hFc⟩ rfl rfl hl.1 rfl (lv_room (Nat.le_of_ble_eq_true rfl)) dL_law_1604 ⟨(Nat.le_of_ble_eq_true rfl), (Nat.le_of_ble_eq_true rfl)⟩) hS (fun q _ h => hFc q h) hFc (fun r_100821 u t H1 locs ht hvm hw hB hz1 hk1 hS => ?_)
    obtain ⟨hP1, hD1⟩ := hB
    rw [ht] at hP1
    try dsimp only at hw hP1 hD1
    have w_100822 := hw
    subst w_100822
    obtain ⟨hP, hD⟩ := va_join (wr := [(h0, .inr (10, [.ref x0, .int 0, .ref x1, .ref x2, .ref x3, .ref x4, .ref x5, .ref x6, .ref x7, .ref x8, .int 0, .int 3000])), (o0, .inl (kA 1, 1, .inr (.inl (vp_updL (fun _ => 0) 0 (n_cut (xs 2) (n_combine (xs 1) 1 (n_cut (xs 2) ((((xs 4).toInt64) <<< ((32 : Int32).toInt64 &&& 63)) ||| (((xs 5).toInt64) &&& 4294967295))) (n_cut (xs 3) ((((xs 6).toInt64) <<< ((32 : Int32).toInt64 &&& 63)) ||| (((xs 7).toInt64) &&& 4294967295)))))))))]) (w1 := [(m0, .inr (11, (y0.set 9 (.int 0))))]) hP hD [2] [0, 1] rfl rfl (by decide) (by decide) hk1 hFc hP1 hD1
    generalize H1 = H at hP hS ⊢
    have hP : va_P D vwCl [(h0, .inr (10, [.ref x0, .int 0, .ref x1, .ref x2, .ref x3, .ref x4, .ref x5, .ref x6, .ref x7, .ref x8, .int 0, .int 3000])), (o0, .inl (kA 1, 1, .inr (.inl (vp_updL (fun _ => 0) 0 (n_cut (xs 2) (n_combine (xs 1) 1 (n_cut (xs 2) ((((xs 4).toInt64) <<< ((32 : Int32).toInt64 &&& 63)) ||| (((xs 5).toInt64) &&& 4294967295))) (n_cut (xs 3) ((((xs 6).toInt64) <<< ((32 : Int32).toInt64 &&& 63)) ||| (((xs 7).toInt64) &&& 4294967295))))))))), (m0, .inr (11, (y0.set 9 (.int 0))))] H := hP
    have hD : va_D A [(h0, .inr (10, [.ref x0, .int 0, .ref x1, .ref x2, .ref x3, .ref x4, .ref x5, .ref x6, .ref x7, .ref x8, .int 0, .int 3000])), (o0, .inl (kA 1, 1, .inr (.inl (vp_updL (fun _ => 0) 0 (n_cut (xs 2) (n_combine (xs 1) 1 (n_cut (xs 2) ((((xs 4).toInt64) <<< ((32 : Int32).toInt64 &&& 63)) ||| (((xs 5).toInt64) &&& 4294967295))) (n_cut (xs 3) ((((xs 6).toInt64) <<< ((32 : Int32).toInt64 &&& 63)) ||| (((xs 7).toInt64) &&& 4294967295))))))))), (m0, .inr (11, (y0.set 9 (.int 0))))] := hD
    refine lv_iload hx hb dL_law_1607 (lv_at hl 1 rfl) ?_
    refine lv_icmp_eq (tgt := 1614) hx hb dL_law_1609 (by decide) (fun c_100823 => ?_) (fun c_100823 => ?_)
    · skip
      refine lv_iload hx hb dL_law_1614 (lv_at hl 1 rfl) ?_
      refine lv_if_ne (tgt := 1630) hx hb dL_law_1616 (by decide) (fun c_100824 => ?_) (fun c_100824 => ?_)
      · exact absurd (by decide) c_100824
      · skip
        refine lv_aload_n hx hb dL_law_1619 rfl (lv_at hl 5 rfl) ?_
        refine lv_iconst (v := 0) hx hb dL_law_1620 (by decide) ?_
        refine va_lald hx hb hK hP 1 1 rfl rfl (show vp_in 0 1 by unfold vp_in; decide) dL_law_1621 ?_
        refine W.eq (g2 := F0 m 1622 ls [.long (n_cut (xs 2) (n_combine (xs 1) 1 (n_cut (xs 2) ((((xs 4).toInt64) <<< ((32 : Int32).toInt64 &&& 63)) ||| (((xs 5).toInt64) &&& 4294967295))) (n_cut (xs 3) ((((xs 6).toInt64) <<< ((32 : Int32).toInt64 &&& 63)) ||| (((xs 7).toInt64) &&& 4294967295)))))]) rfl ?_
        refine lv_lload hx hb dL_law_1622 (lv_at hl 0 rfl) ?_
        refine W.lcmp hx hb dL_law_1624 ?_
        refine lv_if_eq (tgt := 1630) hx hb dL_law_1625 (by decide) (fun c_100825 => ?_) (fun c_100825 => ?_)
        · skip
          refine lv_goto (tgt := 1804) hx hb dL_law_1630 (by decide) ?_
          exact lk_tail hC hA2 (lv_sub hl [2, 6] rfl) hS (Nat.le_of_ble_eq_true rfl) (Nat.le_of_ble_eq_true rfl)
        · exact absurd ((lg_cmp_eq _ _).mpr (qx_w1 c_61 c_100694 (fun q => c_63 q.2) (by rw [c_100700]; decide))) c_100825
    · exact absurd (by decide) c_100823
  · exact absurd c_64 hz.2.2.2.2.2.2.2.2.2.2.1
  · exact absurd c_64 hz.2.2.2.2.2.2.2.2.2.2.1
  · obtain ⟨c_100736, c_100737, c_100738, c_100739, c_100740, c_100741, c_100742, c_100743, c_100744, c_100745, w_100746, w_100747⟩ := hz
    subst w_100746
    subst w_100747
    obtain ⟨hP, hD⟩ := va_join (wr := [(h0, .inr (10, [.ref x0, .int 0, .ref x1, .ref x2, .ref x3, .ref x4, .ref x5, .ref x6, .ref x7, .ref x8, .int 0, .int 3000])), (o0, .inl (kA 1, 1, .inr (.inl (vp_updL (fun _ => 0) 0 (n_cut (xs 2) (n_combine (xs 1) 1 (n_cut (xs 2) ((((xs 4).toInt64) <<< ((32 : Int32).toInt64 &&& 63)) ||| (((xs 5).toInt64) &&& 4294967295))) (n_cut (xs 3) ((((xs 6).toInt64) <<< ((32 : Int32).toInt64 &&& 63)) ||| (((xs 7).toInt64) &&& 4294967295)))))))))]) (w1 := [(m0, .inr (11, y0.set 9 (.int 0)))]) hP hD [0] [1, 2] rfl rfl (by decide) (by decide) hk1 hFc hP1 hD1
    generalize H1 = H at hP hS ⊢
    have hP : va_P D vwCl [(h0, .inr (10, [.ref x0, .int 0, .ref x1, .ref x2, .ref x3, .ref x4, .ref x5, .ref x6, .ref x7, .ref x8, .int 0, .int 3000])), (o0, .inl (kA 1, 1, .inr (.inl (vp_updL (fun _ => 0) 0 (n_cut (xs 2) (n_combine (xs 1) 1 (n_cut (xs 2) ((((xs 4).toInt64) <<< ((32 : Int32).toInt64 &&& 63)) ||| (((xs 5).toInt64) &&& 4294967295))) (n_cut (xs 3) ((((xs 6).toInt64) <<< ((32 : Int32).toInt64 &&& 63)) ||| (((xs 7).toInt64) &&& 4294967295))))))))), (m0, .inr (11, y0.set 9 (.int 0)))] H := hP
    have hD : va_D A [(h0, .inr (10, [.ref x0, .int 0, .ref x1, .ref x2, .ref x3, .ref x4, .ref x5, .ref x6, .ref x7, .ref x8, .int 0, .int 3000])), (o0, .inl (kA 1, 1, .inr (.inl (vp_updL (fun _ => 0) 0 (n_cut (xs 2) (n_combine (xs 1) 1 (n_cut (xs 2) ((((xs 4).toInt64) <<< ((32 : Int32).toInt64 &&& 63)) ||| (((xs 5).toInt64) &&& 4294967295))) (n_cut (xs 3) ((((xs 6).toInt64) <<< ((32 : Int32).toInt64 &&& 63)) ||| (((xs 7).toInt64) &&& 4294967295))))))))), (m0, .inr (11, y0.set 9 (.int 0)))] := hD
    refine lv_lstore (lv' := [(6, .long (n_cut (xs 2) (r_two 240 1 (n_cut (xs 2) ((((xs 4).toInt64) <<< ((32 : Int32).toInt64 &&& 63)) ||| (((xs 5).toInt64) &&& 4294967295))) (n_cut (xs 3) ((((xs 6).toInt64) <<< ((32 : Int32).toInt64 &&& 63)) ||| (((xs 7).toInt64) &&& 4294967295)))))), (5, .int 0), (0, .ref b), (1, .ref h0), (2, .ref m0), (3, .ref o0), (4, .int 0)]) hx hb dL_law_1601 hl (by decide) rfl (fun ls hl => ?_)
    refine lv_aload_n hx hb dL_law_1603 rfl (lv_at hl 4 rfl) ?_
    have hPc := hP.sub (ws' := [(m0, .inr (11, y0.set 9 (.int 0)))]) [2] rfl
    have hDc := hD.sub (ws' := [(m0, .inr (11, y0.set 9 (.int 0)))]) [2] (by decide) rfl
    have hFc := va_free (wc := [(m0, .inr (11, y0.set 9 (.int 0)))]) hD hS hA [2] rfl
    refine va_calli (va_runV (As := []) (rest := []) ⟨hx, hb, hml, hown, hts⟩ (a94_X12_thrown l  D kA V H.size m0 (y0.set 9 (.int 0)) (fun k hk => (by rw [List.length_set]; exact (hq k hk))) (List.getElem?_set_self (hq 9 (by decide)))) (cwV 0 hts (gw_V gw_1879 gw_1880 gw_1881 gw_16 gw_1882) rfl rfl rfl (by decide +kernel) ⟨(Nat.le_of_ble_eq_true rfl), (Nat.le_of_ble_eq_true rfl)⟩) ⟨aP.blind, va_recv hK hP (ci := 11) (q0 := 2) rfl rfl, aP.pre hE hS hPc hK hDc hFc⟩ rfl rfl hl.1 rfl (lv_room (Nat.le_of_ble_eq_true rfl)) dL_law_1604 ⟨(Nat.le_of_ble_eq_true rfl), (Nat.le_of_ble_eq_true rfl)⟩) hS (fun q _ h => hFc q h) hFc (fun r_100826 u t H1 locs ht hvm hw hB hz1 hk1 hS => ?_)
    obtain ⟨hP1, hD1⟩ := hB
    rw [ht] at hP1
    try dsimp only at hw hP1 hD1
    have w_100827 := hw
    subst w_100827
    obtain ⟨hP, hD⟩ := va_join (wr := [(h0, .inr (10, [.ref x0, .int 0, .ref x1, .ref x2, .ref x3, .ref x4, .ref x5, .ref x6, .ref x7, .ref x8, .int 0, .int 3000])), (o0, .inl (kA 1, 1, .inr (.inl (vp_updL (fun _ => 0) 0 (n_cut (xs 2) (n_combine (xs 1) 1 (n_cut (xs 2) ((((xs 4).toInt64) <<< ((32 : Int32).toInt64 &&& 63)) ||| (((xs 5).toInt64) &&& 4294967295))) (n_cut (xs 3) ((((xs 6).toInt64) <<< ((32 : Int32).toInt64 &&& 63)) ||| (((xs 7).toInt64) &&& 4294967295)))))))))]) (w1 := [(m0, .inr (11, (y0.set 9 (.int 0))))]) hP hD [2] [0, 1] rfl rfl (by decide) (by decide) hk1 hFc hP1 hD1
    generalize H1 = H at hP hS ⊢
    have hP : va_P D vwCl [(h0, .inr (10, [.ref x0, .int 0, .ref x1, .ref x2, .ref x3, .ref x4, .ref x5, .ref x6, .ref x7, .ref x8, .int 0, .int 3000])), (o0, .inl (kA 1, 1, .inr (.inl (vp_updL (fun _ => 0) 0 (n_cut (xs 2) (n_combine (xs 1) 1 (n_cut (xs 2) ((((xs 4).toInt64) <<< ((32 : Int32).toInt64 &&& 63)) ||| (((xs 5).toInt64) &&& 4294967295))) (n_cut (xs 3) ((((xs 6).toInt64) <<< ((32 : Int32).toInt64 &&& 63)) ||| (((xs 7).toInt64) &&& 4294967295))))))))), (m0, .inr (11, (y0.set 9 (.int 0))))] H := hP
    have hD : va_D A [(h0, .inr (10, [.ref x0, .int 0, .ref x1, .ref x2, .ref x3, .ref x4, .ref x5, .ref x6, .ref x7, .ref x8, .int 0, .int 3000])), (o0, .inl (kA 1, 1, .inr (.inl (vp_updL (fun _ => 0) 0 (n_cut (xs 2) (n_combine (xs 1) 1 (n_cut (xs 2) ((((xs 4).toInt64) <<< ((32 : Int32).toInt64 &&& 63)) ||| (((xs 5).toInt64) &&& 4294967295))) (n_cut (xs 3) ((((xs 6).toInt64) <<< ((32 : Int32).toInt64 &&& 63)) ||| (((xs 7).toInt64) &&& 4294967295))))))))), (m0, .inr (11, (y0.set 9 (.int 0))))] := hD
    refine lv_iload hx hb dL_law_1607 (lv_at hl 1 rfl) ?_
    refine lv_icmp_eq (tgt := 1614) hx hb dL_law_1609 (by decide) (fun c_100828 => ?_) (fun c_100828 => ?_)
    · skip
      refine lv_iload hx hb dL_law_1614 (lv_at hl 1 rfl) ?_
      refine lv_if_ne (tgt := 1630) hx hb dL_law_1616 (by decide) (fun c_100829 => ?_) (fun c_100829 => ?_)
      · exact absurd (by decide) c_100829
      · skip
        refine lv_aload_n hx hb dL_law_1619 rfl (lv_at hl 5 rfl) ?_
        refine lv_iconst (v := 0) hx hb dL_law_1620 (by decide) ?_
        refine va_lald hx hb hK hP 1 1 rfl rfl (show vp_in 0 1 by unfold vp_in; decide) dL_law_1621 ?_
        refine W.eq (g2 := F0 m 1622 ls [.long (n_cut (xs 2) (n_combine (xs 1) 1 (n_cut (xs 2) ((((xs 4).toInt64) <<< ((32 : Int32).toInt64 &&& 63)) ||| (((xs 5).toInt64) &&& 4294967295))) (n_cut (xs 3) ((((xs 6).toInt64) <<< ((32 : Int32).toInt64 &&& 63)) ||| (((xs 7).toInt64) &&& 4294967295)))))]) rfl ?_
        refine lv_lload hx hb dL_law_1622 (lv_at hl 0 rfl) ?_
        refine W.lcmp hx hb dL_law_1624 ?_
        refine lv_if_eq (tgt := 1630) hx hb dL_law_1625 (by decide) (fun c_100830 => ?_) (fun c_100830 => ?_)
        · skip
          refine lv_goto (tgt := 1804) hx hb dL_law_1630 (by decide) ?_
          exact lk_tail hC hA2 (lv_sub hl [2, 6] rfl) hS (Nat.le_of_ble_eq_true rfl) (Nat.le_of_ble_eq_true rfl)
        · exact absurd ((lg_cmp_eq _ _).mpr (qx_w1 c_61 c_100737 (fun q => c_63 q.2) (by rw [c_100742]; decide))) c_100830
    · exact absurd (by decide) c_100828
  · exact absurd c_64 hz.2.2.2.2.2.2.2.2.2.1
  · exact absurd c_64 hz.2.2.2.2.2.2.2.2.2.1
set_option maxHeartbeats 4000000 in
set_option maxRecDepth 100000 in
theorem lk_22_9 {p : Program} {l : Launch} {e : Env} {s : State} {m : MethodId} {below : List Frame} {meth : Method} {c : Code} {D : va_G} {kA : Nat → ClassId} {V : Nat → Nat} {b : Nat} {xs : Nat → Int32} {A : Nat → Prop} (hC : lw_C p l s m meth c b 8 xs D kA V A) (hA2 : ∀ q, A q → s.heap.size ≤ q) (h0 : Nat) (m0 : Nat) (o0 : Nat) (x0 : Nat) (x1 : Nat) (x2 : Nat) (x3 : Nat) (x4 : Nat) (x5 : Nat) (x6 : Nat) (x7 : Nat) (x8 : Nat) (y0 : List Value) (hq : ∀ k, k < 121 → k < y0.length) (hq9 : y0[9]? = some (.int 0)) (c_67 : ¬ (xs 2) < 0) (c_68 : ¬ 4 < (xs 2)) (c_69 : ¬ (xs 3) < 0) (c_70 : ¬ 4 < (xs 3)) (c_71 : ¬ (xs 1) < 0) (c_72 : (xs 1) ≤ 10) (c_73 : ¬ (n_cut (xs 3) ((((xs 6).toInt64) <<< ((32 : Int32).toInt64 &&& 63)) ||| (((xs 7).toInt64) &&& 4294967295))) = 0) (c_74 : ¬ (xs 2) = 4) (c_75 : 8 ≤ (xs 1)) {H : Heap} {locs : List Loc} {ls : Array Slot} (hl : lv_has ls 8 [(0, .ref b), (1, .ref h0), (2, .ref m0), (3, .ref o0), (4, .int 0)]) (hS : va_S A s.heap H locs) (hP : va_P D vwCl [(m0, .inr (11, y0)), (h0, .inr (10, [.ref x0, .int 0, .ref x1, .ref x2, .ref x3, .ref x4, .ref x5, .ref x6, .ref x7, .ref x8, .int 0, .int 3000])), (o0, .inl (kA 1, 1, .inr (.inl (vp_updL (fun _ => 0) 0 (n_cut (xs 2) (n_combine (xs 1) 0 (n_cut (xs 2) ((((xs 4).toInt64) <<< ((32 : Int32).toInt64 &&& 63)) ||| (((xs 5).toInt64) &&& 4294967295))) (n_cut (xs 3) ((((xs 6).toInt64) <<< ((32 : Int32).toInt64 &&& 63)) ||| (((xs 7).toInt64) &&& 4294967295)))))))))] H) (hD : va_D A [(m0, .inr (11, y0)), (h0, .inr (10, [.ref x0, .int 0, .ref x1, .ref x2, .ref x3, .ref x4, .ref x5, .ref x6, .ref x7, .ref x8, .int 0, .int 3000])), (o0, .inl (kA 1, 1, .inr (.inl (vp_updL (fun _ => 0) 0 (n_cut (xs 2) (n_combine (xs 1) 0 (n_cut (xs 2) ((((xs 4).toInt64) <<< ((32 : Int32).toInt64 &&& 63)) ||| (((xs 5).toInt64) &&& 4294967295))) (n_cut (xs 3) ((((xs 6).toInt64) <<< ((32 : Int32).toInt64 &&& 63)) ||| (((xs 7).toInt64) &&& 4294967295)))))))))]) : W p l e room_1 s m #[Value.ref b] below meth c H locs 515 172799 (lw_Z below #[Value.ref b] s) (F0 m 1531 ls [.int 0]) := by
  have ⟨hst, hx, hb, hr, hml, hown, hts, hG, hX, hbl, hbA, hlocks, hE, hK, hA⟩ := hC
  refine lv_istore (lv' := [(5, .int 0), (0, .ref b), (1, .ref h0), (2, .ref m0), (3, .ref o0), (4, .int 0)]) hx hb dL_law_1531 hl (by decide) rfl (fun ls hl => ?_)
  refine lv_aload_n hx hb dL_law_1533 rfl (lv_at hl 3 rfl) ?_
  refine lv_aload_n hx hb dL_law_1534 rfl (lv_at hl 1 rfl) ?_
  refine lv_iload hx hb dL_law_1535 (lv_at hl 5 rfl) ?_
  refine lv_iconst (v := 1) hx hb dL_law_1537 (by decide) ?_
  refine lv_iadd hx hb dL_law_1538 ?_
  refine W.eq (g2 := F0 m 1539 ls [.int 1, .ref b, .ref m0]) rfl ?_
  refine va_sld hx hb hX hbl hbA hS (show vp_in 1 8 by unfold vp_in; decide) dL_law_1539 ?_
  refine W.eq (g2 := F0 m 1540 ls [.int (xs 1), .ref m0]) rfl ?_
  refine lv_aload_n hx hb dL_law_1540 rfl (lv_at hl 1 rfl) ?_
  refine lv_iload hx hb dL_law_1541 (lv_at hl 5 rfl) ?_
  refine lv_iconst (v := 2) hx hb dL_law_1543 (by decide) ?_
  refine lv_iadd hx hb dL_law_1544 ?_
  refine W.eq (g2 := F0 m 1545 ls [.int 2, .ref b, .int (xs 1), .ref m0]) rfl ?_
  refine va_sld hx hb hX hbl hbA hS (show vp_in 2 8 by unfold vp_in; decide) dL_law_1545 ?_
  refine W.eq (g2 := F0 m 1546 ls [.int (xs 2), .int (xs 1), .ref m0]) rfl ?_
  refine lv_aload_n hx hb dL_law_1546 rfl (lv_at hl 1 rfl) ?_
  refine lv_iload hx hb dL_law_1547 (lv_at hl 5 rfl) ?_
  refine lv_iconst (v := 3) hx hb dL_law_1549 (by decide) ?_
  refine lv_iadd hx hb dL_law_1550 ?_
  refine W.eq (g2 := F0 m 1551 ls [.int 3, .ref b, .int (xs 2), .int (xs 1), .ref m0]) rfl ?_
  refine va_sld hx hb hX hbl hbA hS (show vp_in 3 8 by unfold vp_in; decide) dL_law_1551 ?_
  refine W.eq (g2 := F0 m 1552 ls [.int (xs 3), .int (xs 2), .int (xs 1), .ref m0]) rfl ?_
  refine lv_aload_n hx hb dL_law_1552 rfl (lv_at hl 1 rfl) ?_
  refine lv_iload hx hb dL_law_1553 (lv_at hl 5 rfl) ?_
  refine lv_iconst (v := 4) hx hb dL_law_1555 (by decide) ?_
  refine lv_iadd hx hb dL_law_1556 ?_
  refine W.eq (g2 := F0 m 1557 ls [.int 4, .ref b, .int (xs 3), .int (xs 2), .int (xs 1), .ref m0]) rfl ?_
  refine va_sld hx hb hX hbl hbA hS (show vp_in 4 8 by unfold vp_in; decide) dL_law_1557 ?_
  refine W.eq (g2 := F0 m 1558 ls [.int (xs 4), .int (xs 3), .int (xs 2), .int (xs 1), .ref m0]) rfl ?_
  refine lv_i2l (v := (xs 4).toInt64) hx hb dL_law_1558 rfl ?_
  refine lv_bipush (v := 32) hx hb dL_law_1559 (by decide) ?_
  refine lv_lshl (v := ((xs 4).toInt64) <<< ((32 : Int32).toInt64 &&& 63)) hx hb dL_law_1561 rfl ?_
  refine lv_aload_n hx hb dL_law_1562 rfl (lv_at hl 1 rfl) ?_
  refine lv_iload hx hb dL_law_1563 (lv_at hl 5 rfl) ?_
  refine lv_iconst (v := 5) hx hb dL_law_1565 (by decide) ?_
  refine lv_iadd hx hb dL_law_1566 ?_
  refine W.eq (g2 := F0 m 1567 ls [.int 5, .ref b, .long (((xs 4).toInt64) <<< ((32 : Int32).toInt64 &&& 63)), .int (xs 3), .int (xs 2), .int (xs 1), .ref m0]) rfl ?_
  refine va_sld hx hb hX hbl hbA hS (show vp_in 5 8 by unfold vp_in; decide) dL_law_1567 ?_
  refine W.eq (g2 := F0 m 1568 ls [.int (xs 5), .long (((xs 4).toInt64) <<< ((32 : Int32).toInt64 &&& 63)), .int (xs 3), .int (xs 2), .int (xs 1), .ref m0]) rfl ?_
  refine lv_i2l (v := (xs 5).toInt64) hx hb dL_law_1568 rfl ?_
  refine lv_ldc2 (v := 4294967295) hx hb hown (hG _ gw_2764) dL_law_1569 ?_
  refine lv_land hx hb dL_law_1572 ?_
  refine lv_lor hx hb dL_law_1573 ?_
  refine lv_aload_n hx hb dL_law_1574 rfl (lv_at hl 1 rfl) ?_
  refine lv_iload hx hb dL_law_1575 (lv_at hl 5 rfl) ?_
  refine lv_bipush (v := 6) hx hb dL_law_1577 (by decide) ?_
  refine lv_iadd hx hb dL_law_1579 ?_
  refine W.eq (g2 := F0 m 1580 ls [.int 6, .ref b, .long ((((xs 4).toInt64) <<< ((32 : Int32).toInt64 &&& 63)) ||| (((xs 5).toInt64) &&& 4294967295)), .int (xs 3), .int (xs 2), .int (xs 1), .ref m0]) rfl ?_
  refine va_sld hx hb hX hbl hbA hS (show vp_in 6 8 by unfold vp_in; decide) dL_law_1580 ?_
  refine W.eq (g2 := F0 m 1581 ls [.int (xs 6), .long ((((xs 4).toInt64) <<< ((32 : Int32).toInt64 &&& 63)) ||| (((xs 5).toInt64) &&& 4294967295)), .int (xs 3), .int (xs 2), .int (xs 1), .ref m0]) rfl ?_
  refine lv_i2l (v := (xs 6).toInt64) hx hb dL_law_1581 rfl ?_
  refine lv_bipush (v := 32) hx hb dL_law_1582 (by decide) ?_
  refine lv_lshl (v := ((xs 6).toInt64) <<< ((32 : Int32).toInt64 &&& 63)) hx hb dL_law_1584 rfl ?_
  refine lv_aload_n hx hb dL_law_1585 rfl (lv_at hl 1 rfl) ?_
  refine lv_iload hx hb dL_law_1586 (lv_at hl 5 rfl) ?_
  refine lv_bipush (v := 7) hx hb dL_law_1588 (by decide) ?_
  refine lv_iadd hx hb dL_law_1590 ?_
  refine W.eq (g2 := F0 m 1591 ls [.int 7, .ref b, .long (((xs 6).toInt64) <<< ((32 : Int32).toInt64 &&& 63)), .long ((((xs 4).toInt64) <<< ((32 : Int32).toInt64 &&& 63)) ||| (((xs 5).toInt64) &&& 4294967295)), .int (xs 3), .int (xs 2), .int (xs 1), .ref m0]) rfl ?_
  refine va_sld hx hb hX hbl hbA hS (show vp_in 7 8 by unfold vp_in; decide) dL_law_1591 ?_
  refine W.eq (g2 := F0 m 1592 ls [.int (xs 7), .long (((xs 6).toInt64) <<< ((32 : Int32).toInt64 &&& 63)), .long ((((xs 4).toInt64) <<< ((32 : Int32).toInt64 &&& 63)) ||| (((xs 5).toInt64) &&& 4294967295)), .int (xs 3), .int (xs 2), .int (xs 1), .ref m0]) rfl ?_
  refine lv_i2l (v := (xs 7).toInt64) hx hb dL_law_1592 rfl ?_
  refine lv_ldc2 (v := 4294967295) hx hb hown (hG _ gw_2764) dL_law_1593 ?_
  refine lv_land hx hb dL_law_1596 ?_
  refine lv_lor hx hb dL_law_1597 ?_
  have hPc := hP.sub (ws' := [(m0, .inr (11, y0))]) [0] rfl
  have hDc := hD.sub (ws' := [(m0, .inr (11, y0))]) [0] (by decide) rfl
  have hFc := va_free (wc := [(m0, .inr (11, y0))]) hD hS hA [0] rfl
  refine va_calll (va_runV (As := [.int (xs 1), .int (xs 2), .int (xs 3), .long ((((xs 4).toInt64) <<< ((32 : Int32).toInt64 &&& 63)) ||| (((xs 5).toInt64) &&& 4294967295)), .long ((((xs 6).toInt64) <<< ((32 : Int32).toInt64 &&& 63)) ||| (((xs 7).toInt64) &&& 4294967295))]) (rest := []) ⟨hx, hb, hml, hown, hts⟩ (a153_X12_work l  D kA V H.size m0 (xs 1) (xs 2) (xs 3) ((((xs 4).toInt64) <<< ((32 : Int32).toInt64 &&& 63)) ||| (((xs 5).toInt64) &&& 4294967295)) ((((xs 6).toInt64) <<< ((32 : Int32).toInt64 &&& 63)) ||| (((xs 7).toInt64) &&& 4294967295)) y0 (fun k hk => (hq k hk)) hq9) (cwV 5 hts (gw_V gw_2756 gw_2757 gw_2758 gw_16 gw_2759) rfl rfl rfl (by decide +kernel) ⟨(Nat.le_of_ble_eq_true rfl), (Nat.le_of_ble_eq_true rfl)⟩) ⟨aP.blind, va_recv hK hP (ci := 11) (q0 := 0) rfl rfl, aP.pre hE hS hPc hK hDc hFc⟩ rfl rfl hl.1 rfl (lv_room (Nat.le_of_ble_eq_true rfl)) dL_law_1598 ⟨(Nat.le_of_ble_eq_true rfl), (Nat.le_of_ble_eq_true rfl)⟩) hS (fun q _ h => hFc q h) hFc (fun r_100001 u t H1 locs ht hvm hw hB hz1 hk1 hS => ?_)
  obtain ⟨u_100002, rfl⟩ : ∃ z, z = u := ⟨u, rfl⟩
  obtain ⟨hP1, hD1⟩ := hB
  rw [ht] at hP1
  try dsimp only at hw hP1 hD1
  rcases hw with hz | hz | hz | hz | hz | hz | hz | hz | hz | hz | hz | hz | hz | hz | hz | hz | hz | hz | hz | hz | hz | hz | hz | hz | hz | hz | hz | hz | hz | hz | hz | hz | hz | hz | hz | hz | hz | hz | hz | hz | hz | hz | hz | hz | hz | hz | hz | hz | hz | hz | hz | hz
  · exact absurd hz.1 c_71
  · exact absurd hz.1 c_71
  · exact absurd hz.1 c_71
  · exact absurd hz.1 c_71
  · exact absurd hz.1 c_71
  · exact absurd hz.2.1 (Int32.not_lt.mpr c_72)
  · exact absurd hz.2.1 (Int32.not_lt.mpr c_72)
  · exact absurd hz.2.1 (Int32.not_lt.mpr c_72)
  · exact absurd hz.2.1 (Int32.not_lt.mpr c_72)
  · exact absurd hz.2.1 (Int32.not_lt.mpr c_72)
  · exact absurd hz.2.2.1 c_67
  · exact absurd hz.2.2.2.1 c_68
  · exact absurd hz.2.2.2.2.1 c_69
  · exact absurd hz.2.2.2.2.2.1 c_70
  · exact absurd hz.2.2.2.2.2.2.2.2.2.2.2.2.2.2.2.2.2.2.1 c_74
  · obtain ⟨c_100113, c_100114, c_100115, c_100116, c_100117, c_100118, c_100119, c_100120, c_100121, c_100122, c_100123, c_100124, c_100125, c_100126, c_100127, c_100128, c_100129, c_100130, c_100131, c_100132, w_100133, w_100134⟩ := hz
    subst w_100133
    subst w_100134
    obtain ⟨hP, hD⟩ := va_join (wr := [(h0, .inr (10, [.ref x0, .int 0, .ref x1, .ref x2, .ref x3, .ref x4, .ref x5, .ref x6, .ref x7, .ref x8, .int 0, .int 3000])), (o0, .inl (kA 1, 1, .inr (.inl (vp_updL (fun _ => 0) 0 (n_cut (xs 2) (n_combine (xs 1) 0 (n_cut (xs 2) ((((xs 4).toInt64) <<< ((32 : Int32).toInt64 &&& 63)) ||| (((xs 5).toInt64) &&& 4294967295))) (n_cut (xs 3) ((((xs 6).toInt64) <<< ((32 : Int32).toInt64 &&& 63)) ||| (((xs 7).toInt64) &&& 4294967295)))))))))]) (w1 := [(m0, .inr (11, y0.set 9 (.int 0)))]) hP hD [0] [1, 2] rfl rfl (by decide) (by decide) hk1 hFc hP1 hD1
    generalize H1 = H at hP hS ⊢
    have hP : va_P D vwCl [(h0, .inr (10, [.ref x0, .int 0, .ref x1, .ref x2, .ref x3, .ref x4, .ref x5, .ref x6, .ref x7, .ref x8, .int 0, .int 3000])), (o0, .inl (kA 1, 1, .inr (.inl (vp_updL (fun _ => 0) 0 (n_cut (xs 2) (n_combine (xs 1) 0 (n_cut (xs 2) ((((xs 4).toInt64) <<< ((32 : Int32).toInt64 &&& 63)) ||| (((xs 5).toInt64) &&& 4294967295))) (n_cut (xs 3) ((((xs 6).toInt64) <<< ((32 : Int32).toInt64 &&& 63)) ||| (((xs 7).toInt64) &&& 4294967295))))))))), (m0, .inr (11, y0.set 9 (.int 0)))] H := hP
    have hD : va_D A [(h0, .inr (10, [.ref x0, .int 0, .ref x1, .ref x2, .ref x3, .ref x4, .ref x5, .ref x6, .ref x7, .ref x8, .int 0, .int 3000])), (o0, .inl (kA 1, 1, .inr (.inl (vp_updL (fun _ => 0) 0 (n_cut (xs 2) (n_combine (xs 1) 0 (n_cut (xs 2) ((((xs 4).toInt64) <<< ((32 : Int32).toInt64 &&& 63)) ||| (((xs 5).toInt64) &&& 4294967295))) (n_cut (xs 3) ((((xs 6).toInt64) <<< ((32 : Int32).toInt64 &&& 63)) ||| (((xs 7).toInt64) &&& 4294967295))))))))), (m0, .inr (11, y0.set 9 (.int 0)))] := hD
    refine lv_lstore (lv' := [(6, .long (n_cut (xs 2) (r_two 203 0 (n_cut (xs 2) ((((xs 4).toInt64) <<< ((32 : Int32).toInt64 &&& 63)) ||| (((xs 5).toInt64) &&& 4294967295))) (n_cut (xs 3) ((((xs 6).toInt64) <<< ((32 : Int32).toInt64 &&& 63)) ||| (((xs 7).toInt64) &&& 4294967295)))))), (5, .int 0), (0, .ref b), (1, .ref h0), (2, .ref m0), (3, .ref o0), (4, .int 0)]) hx hb dL_law_1601 hl (by decide) rfl (fun ls hl => ?_)
    refine lv_aload_n hx hb dL_law_1603 rfl (lv_at hl 4 rfl) ?_
    have hPc := hP.sub (ws' := [(m0, .inr (11, y0.set 9 (.int 0)))]) [2] rfl
    have hDc := hD.sub (ws' := [(m0, .inr (11, y0.set 9 (.int 0)))]) [2] (by decide) rfl
    have hFc := va_free (wc := [(m0, .inr (11, y0.set 9 (.int 0)))]) hD hS hA [2] rfl
    refine va_calli (va_runV (As := []) (rest := []) ⟨hx, hb, hml, hown, hts⟩ (a94_X12_thrown l  D kA V H.size m0 (y0.set 9 (.int 0)) (fun k hk => (by rw [List.length_set]; exact (hq k hk))) (List.getElem?_set_self (hq 9 (by decide)))) (cwV 0 hts (gw_V gw_1879 gw_1880 gw_1881 gw_16 gw_1882) rfl rfl rfl (by decide +kernel) ⟨(Nat.le_of_ble_eq_true rfl), (Nat.le_of_ble_eq_true rfl)⟩) ⟨aP.blind, va_recv hK hP (ci := 11) (q0 := 2) rfl rfl, aP.pre hE hS hPc hK hDc hFc⟩ rfl rfl hl.1 rfl (lv_room (Nat.le_of_ble_eq_true rfl)) dL_law_1604 ⟨(Nat.le_of_ble_eq_true rfl), (Nat.le_of_ble_eq_true rfl)⟩) hS (fun q _ h => hFc q h) hFc (fun r_100776 u t H1 locs ht hvm hw hB hz1 hk1 hS => ?_)
    obtain ⟨hP1, hD1⟩ := hB
    rw [ht] at hP1
    try dsimp only at hw hP1 hD1
    have w_100777 := hw
    subst w_100777
    obtain ⟨hP, hD⟩ := va_join (wr := [(h0, .inr (10, [.ref x0, .int 0, .ref x1, .ref x2, .ref x3, .ref x4, .ref x5, .ref x6, .ref x7, .ref x8, .int 0, .int 3000])), (o0, .inl (kA 1, 1, .inr (.inl (vp_updL (fun _ => 0) 0 (n_cut (xs 2) (n_combine (xs 1) 0 (n_cut (xs 2) ((((xs 4).toInt64) <<< ((32 : Int32).toInt64 &&& 63)) ||| (((xs 5).toInt64) &&& 4294967295))) (n_cut (xs 3) ((((xs 6).toInt64) <<< ((32 : Int32).toInt64 &&& 63)) ||| (((xs 7).toInt64) &&& 4294967295)))))))))]) (w1 := [(m0, .inr (11, (y0.set 9 (.int 0))))]) hP hD [2] [0, 1] rfl rfl (by decide) (by decide) hk1 hFc hP1 hD1
    generalize H1 = H at hP hS ⊢
    have hP : va_P D vwCl [(h0, .inr (10, [.ref x0, .int 0, .ref x1, .ref x2, .ref x3, .ref x4, .ref x5, .ref x6, .ref x7, .ref x8, .int 0, .int 3000])), (o0, .inl (kA 1, 1, .inr (.inl (vp_updL (fun _ => 0) 0 (n_cut (xs 2) (n_combine (xs 1) 0 (n_cut (xs 2) ((((xs 4).toInt64) <<< ((32 : Int32).toInt64 &&& 63)) ||| (((xs 5).toInt64) &&& 4294967295))) (n_cut (xs 3) ((((xs 6).toInt64) <<< ((32 : Int32).toInt64 &&& 63)) ||| (((xs 7).toInt64) &&& 4294967295))))))))), (m0, .inr (11, (y0.set 9 (.int 0))))] H := hP
    have hD : va_D A [(h0, .inr (10, [.ref x0, .int 0, .ref x1, .ref x2, .ref x3, .ref x4, .ref x5, .ref x6, .ref x7, .ref x8, .int 0, .int 3000])), (o0, .inl (kA 1, 1, .inr (.inl (vp_updL (fun _ => 0) 0 (n_cut (xs 2) (n_combine (xs 1) 0 (n_cut (xs 2) ((((xs 4).toInt64) <<< ((32 : Int32).toInt64 &&& 63)) ||| (((xs 5).toInt64) &&& 4294967295))) (n_cut (xs 3) ((((xs 6).toInt64) <<< ((32 : Int32).toInt64 &&& 63)) ||| (((xs 7).toInt64) &&& 4294967295))))))))), (m0, .inr (11, (y0.set 9 (.int 0))))] := hD
    refine lv_iload hx hb dL_law_1607 (lv_at hl 1 rfl) ?_
    refine lv_icmp_eq (tgt := 1614) hx hb dL_law_1609 (by decide) (fun c_100778 => ?_) (fun c_100778 => ?_)
    · skip
      refine lv_iload hx hb dL_law_1614 (lv_at hl 1 rfl) ?_
      refine lv_if_ne (tgt := 1630) hx hb dL_law_1616 (by decide) (fun c_100779 => ?_) (fun c_100779 => ?_)
      · exact absurd (by decide) c_100779
      · skip
        refine lv_aload_n hx hb dL_law_1619 rfl (lv_at hl 5 rfl) ?_
        refine lv_iconst (v := 0) hx hb dL_law_1620 (by decide) ?_
        refine va_lald hx hb hK hP 1 1 rfl rfl (show vp_in 0 1 by unfold vp_in; decide) dL_law_1621 ?_
        refine W.eq (g2 := F0 m 1622 ls [.long (n_cut (xs 2) (n_combine (xs 1) 0 (n_cut (xs 2) ((((xs 4).toInt64) <<< ((32 : Int32).toInt64 &&& 63)) ||| (((xs 5).toInt64) &&& 4294967295))) (n_cut (xs 3) ((((xs 6).toInt64) <<< ((32 : Int32).toInt64 &&& 63)) ||| (((xs 7).toInt64) &&& 4294967295)))))]) rfl ?_
        refine lv_lload hx hb dL_law_1622 (lv_at hl 0 rfl) ?_
        refine W.lcmp hx hb dL_law_1624 ?_
        refine lv_if_eq (tgt := 1630) hx hb dL_law_1625 (by decide) (fun c_100780 => ?_) (fun c_100780 => ?_)
        · skip
          refine lv_goto (tgt := 1804) hx hb dL_law_1630 (by decide) ?_
          exact lk_tail hC hA2 (lv_sub hl [2, 6] rfl) hS (Nat.le_of_ble_eq_true rfl) (Nat.le_of_ble_eq_true rfl)
        · exact absurd ((lg_cmp_eq _ _).mpr (qx_w0 c_71 c_100114 c_67 c_68 c_74 c_69 c_70 (fun q => absurd q (Int32.not_lt.mpr c_75)) (fun q => c_73 q.2) (by unfold q_sign; rw [if_neg c_100119, if_neg c_100120, if_neg c_100121, if_neg c_100122, if_neg c_100123, if_neg c_100124, if_neg c_100125, if_neg c_100126, if_neg c_100127, if_neg c_100128]))) c_100780
    · exact absurd (by decide) c_100778
  · exact absurd c_75 hz.2.2.2.2.2.2.2.2.2.2.2.2.2.2.2.2.2.2.2.1
  · exact absurd c_75 hz.2.2.2.2.2.2.2.2.2.2.2.2.2.2.2.2.2.2.2.1
  · exact absurd hz.2.2.2.2.2.2.2.2.2.2.2.2.2.2.2.2.2.2.1 c_74
  · obtain ⟨c_100202, c_100203, c_100204, c_100205, c_100206, c_100207, c_100208, c_100209, c_100210, c_100211, c_100212, c_100213, c_100214, c_100215, c_100216, c_100217, c_100218, c_100219, c_100220, c_100221, w_100222, w_100223⟩ := hz
    subst w_100222
    subst w_100223
    obtain ⟨hP, hD⟩ := va_join (wr := [(h0, .inr (10, [.ref x0, .int 0, .ref x1, .ref x2, .ref x3, .ref x4, .ref x5, .ref x6, .ref x7, .ref x8, .int 0, .int 3000])), (o0, .inl (kA 1, 1, .inr (.inl (vp_updL (fun _ => 0) 0 (n_cut (xs 2) (n_combine (xs 1) 0 (n_cut (xs 2) ((((xs 4).toInt64) <<< ((32 : Int32).toInt64 &&& 63)) ||| (((xs 5).toInt64) &&& 4294967295))) (n_cut (xs 3) ((((xs 6).toInt64) <<< ((32 : Int32).toInt64 &&& 63)) ||| (((xs 7).toInt64) &&& 4294967295)))))))))]) (w1 := [(m0, .inr (11, y0.set 9 (.int 0)))]) hP hD [0] [1, 2] rfl rfl (by decide) (by decide) hk1 hFc hP1 hD1
    generalize H1 = H at hP hS ⊢
    have hP : va_P D vwCl [(h0, .inr (10, [.ref x0, .int 0, .ref x1, .ref x2, .ref x3, .ref x4, .ref x5, .ref x6, .ref x7, .ref x8, .int 0, .int 3000])), (o0, .inl (kA 1, 1, .inr (.inl (vp_updL (fun _ => 0) 0 (n_cut (xs 2) (n_combine (xs 1) 0 (n_cut (xs 2) ((((xs 4).toInt64) <<< ((32 : Int32).toInt64 &&& 63)) ||| (((xs 5).toInt64) &&& 4294967295))) (n_cut (xs 3) ((((xs 6).toInt64) <<< ((32 : Int32).toInt64 &&& 63)) ||| (((xs 7).toInt64) &&& 4294967295))))))))), (m0, .inr (11, y0.set 9 (.int 0)))] H := hP
    have hD : va_D A [(h0, .inr (10, [.ref x0, .int 0, .ref x1, .ref x2, .ref x3, .ref x4, .ref x5, .ref x6, .ref x7, .ref x8, .int 0, .int 3000])), (o0, .inl (kA 1, 1, .inr (.inl (vp_updL (fun _ => 0) 0 (n_cut (xs 2) (n_combine (xs 1) 0 (n_cut (xs 2) ((((xs 4).toInt64) <<< ((32 : Int32).toInt64 &&& 63)) ||| (((xs 5).toInt64) &&& 4294967295))) (n_cut (xs 3) ((((xs 6).toInt64) <<< ((32 : Int32).toInt64 &&& 63)) ||| (((xs 7).toInt64) &&& 4294967295))))))))), (m0, .inr (11, y0.set 9 (.int 0)))] := hD
    refine lv_lstore (lv' := [(6, .long (n_cut (xs 2) (r_two 222 0 (n_cut (xs 2) ((((xs 4).toInt64) <<< ((32 : Int32).toInt64 &&& 63)) ||| (((xs 5).toInt64) &&& 4294967295))) (n_cut (xs 3) ((((xs 6).toInt64) <<< ((32 : Int32).toInt64 &&& 63)) ||| (((xs 7).toInt64) &&& 4294967295)))))), (5, .int 0), (0, .ref b), (1, .ref h0), (2, .ref m0), (3, .ref o0), (4, .int 0)]) hx hb dL_law_1601 hl (by decide) rfl (fun ls hl => ?_)
    refine lv_aload_n hx hb dL_law_1603 rfl (lv_at hl 4 rfl) ?_
    have hPc := hP.sub (ws' := [(m0, .inr (11, y0.set 9 (.int 0)))]) [2] rfl
    have hDc := hD.sub (ws' := [(m0, .inr (11, y0.set 9 (.int 0)))]) [2] (by decide) rfl
    have hFc := va_free (wc := [(m0, .inr (11, y0.set 9 (.int 0)))]) hD hS hA [2] rfl
    refine va_calli (va_runV (As := []) (rest := []) ⟨hx, hb, hml, hown, hts⟩ (a94_X12_thrown l  D kA V H.size m0 (y0.set 9 (.int 0)) (fun k hk => (by rw [List.length_set]; exact (hq k hk))) (List.getElem?_set_self (hq 9 (by decide)))) (cwV 0 hts (gw_V gw_1879 gw_1880 gw_1881 gw_16 gw_1882) rfl rfl rfl (by decide +kernel) ⟨(Nat.le_of_ble_eq_true rfl), (Nat.le_of_ble_eq_true rfl)⟩) ⟨aP.blind, va_recv hK hP (ci := 11) (q0 := 2) rfl rfl, aP.pre hE hS hPc hK hDc hFc⟩ rfl rfl hl.1 rfl (lv_room (Nat.le_of_ble_eq_true rfl)) dL_law_1604 ⟨(Nat.le_of_ble_eq_true rfl), (Nat.le_of_ble_eq_true rfl)⟩) hS (fun q _ h => hFc q h) hFc (fun r_100781 u t H1 locs ht hvm hw hB hz1 hk1 hS => ?_)
    obtain ⟨hP1, hD1⟩ := hB
    rw [ht] at hP1
    try dsimp only at hw hP1 hD1
    have w_100782 := hw
    subst w_100782
    obtain ⟨hP, hD⟩ := va_join (wr := [(h0, .inr (10, [.ref x0, .int 0, .ref x1, .ref x2, .ref x3, .ref x4, .ref x5, .ref x6, .ref x7, .ref x8, .int 0, .int 3000])), (o0, .inl (kA 1, 1, .inr (.inl (vp_updL (fun _ => 0) 0 (n_cut (xs 2) (n_combine (xs 1) 0 (n_cut (xs 2) ((((xs 4).toInt64) <<< ((32 : Int32).toInt64 &&& 63)) ||| (((xs 5).toInt64) &&& 4294967295))) (n_cut (xs 3) ((((xs 6).toInt64) <<< ((32 : Int32).toInt64 &&& 63)) ||| (((xs 7).toInt64) &&& 4294967295)))))))))]) (w1 := [(m0, .inr (11, (y0.set 9 (.int 0))))]) hP hD [2] [0, 1] rfl rfl (by decide) (by decide) hk1 hFc hP1 hD1
    generalize H1 = H at hP hS ⊢
    have hP : va_P D vwCl [(h0, .inr (10, [.ref x0, .int 0, .ref x1, .ref x2, .ref x3, .ref x4, .ref x5, .ref x6, .ref x7, .ref x8, .int 0, .int 3000])), (o0, .inl (kA 1, 1, .inr (.inl (vp_updL (fun _ => 0) 0 (n_cut (xs 2) (n_combine (xs 1) 0 (n_cut (xs 2) ((((xs 4).toInt64) <<< ((32 : Int32).toInt64 &&& 63)) ||| (((xs 5).toInt64) &&& 4294967295))) (n_cut (xs 3) ((((xs 6).toInt64) <<< ((32 : Int32).toInt64 &&& 63)) ||| (((xs 7).toInt64) &&& 4294967295))))))))), (m0, .inr (11, (y0.set 9 (.int 0))))] H := hP
    have hD : va_D A [(h0, .inr (10, [.ref x0, .int 0, .ref x1, .ref x2, .ref x3, .ref x4, .ref x5, .ref x6, .ref x7, .ref x8, .int 0, .int 3000])), (o0, .inl (kA 1, 1, .inr (.inl (vp_updL (fun _ => 0) 0 (n_cut (xs 2) (n_combine (xs 1) 0 (n_cut (xs 2) ((((xs 4).toInt64) <<< ((32 : Int32).toInt64 &&& 63)) ||| (((xs 5).toInt64) &&& 4294967295))) (n_cut (xs 3) ((((xs 6).toInt64) <<< ((32 : Int32).toInt64 &&& 63)) ||| (((xs 7).toInt64) &&& 4294967295))))))))), (m0, .inr (11, (y0.set 9 (.int 0))))] := hD
    refine lv_iload hx hb dL_law_1607 (lv_at hl 1 rfl) ?_
    refine lv_icmp_eq (tgt := 1614) hx hb dL_law_1609 (by decide) (fun c_100783 => ?_) (fun c_100783 => ?_)
    · skip
      refine lv_iload hx hb dL_law_1614 (lv_at hl 1 rfl) ?_
      refine lv_if_ne (tgt := 1630) hx hb dL_law_1616 (by decide) (fun c_100784 => ?_) (fun c_100784 => ?_)
      · exact absurd (by decide) c_100784
      · skip
        refine lv_aload_n hx hb dL_law_1619 rfl (lv_at hl 5 rfl) ?_
        refine lv_iconst (v := 0) hx hb dL_law_1620 (by decide) ?_
        refine va_lald hx hb hK hP 1 1 rfl rfl (show vp_in 0 1 by unfold vp_in; decide) dL_law_1621 ?_
        refine W.eq (g2 := F0 m 1622 ls [.long (n_cut (xs 2) (n_combine (xs 1) 0 (n_cut (xs 2) ((((xs 4).toInt64) <<< ((32 : Int32).toInt64 &&& 63)) ||| (((xs 5).toInt64) &&& 4294967295))) (n_cut (xs 3) ((((xs 6).toInt64) <<< ((32 : Int32).toInt64 &&& 63)) ||| (((xs 7).toInt64) &&& 4294967295)))))]) rfl ?_
        refine lv_lload hx hb dL_law_1622 (lv_at hl 0 rfl) ?_
        refine W.lcmp hx hb dL_law_1624 ?_
        refine lv_if_eq (tgt := 1630) hx hb dL_law_1625 (by decide) (fun c_100785 => ?_) (fun c_100785 => ?_)
        · skip
          refine lv_goto (tgt := 1804) hx hb dL_law_1630 (by decide) ?_
          exact lk_tail hC hA2 (lv_sub hl [2, 6] rfl) hS (Nat.le_of_ble_eq_true rfl) (Nat.le_of_ble_eq_true rfl)
        · exact absurd ((lg_cmp_eq _ _).mpr (qx_w0 c_71 c_100203 c_67 c_68 c_74 c_69 c_70 (fun q => absurd q (Int32.not_lt.mpr c_75)) (fun q => c_73 q.2) (by rw [c_100217]; decide))) c_100785
    · exact absurd (by decide) c_100783
  · exact absurd hz.2.2.2.2.2.2.2.2.2.2.2.2.2.2.2.2.2.1 c_74
  · obtain ⟨c_100244, c_100245, c_100246, c_100247, c_100248, c_100249, c_100250, c_100251, c_100252, c_100253, c_100254, c_100255, c_100256, c_100257, c_100258, c_100259, c_100260, c_100261, c_100262, w_100263, w_100264⟩ := hz
    subst w_100263
    subst w_100264
    obtain ⟨hP, hD⟩ := va_join (wr := [(h0, .inr (10, [.ref x0, .int 0, .ref x1, .ref x2, .ref x3, .ref x4, .ref x5, .ref x6, .ref x7, .ref x8, .int 0, .int 3000])), (o0, .inl (kA 1, 1, .inr (.inl (vp_updL (fun _ => 0) 0 (n_cut (xs 2) (n_combine (xs 1) 0 (n_cut (xs 2) ((((xs 4).toInt64) <<< ((32 : Int32).toInt64 &&& 63)) ||| (((xs 5).toInt64) &&& 4294967295))) (n_cut (xs 3) ((((xs 6).toInt64) <<< ((32 : Int32).toInt64 &&& 63)) ||| (((xs 7).toInt64) &&& 4294967295)))))))))]) (w1 := [(m0, .inr (11, y0.set 9 (.int 0)))]) hP hD [0] [1, 2] rfl rfl (by decide) (by decide) hk1 hFc hP1 hD1
    generalize H1 = H at hP hS ⊢
    have hP : va_P D vwCl [(h0, .inr (10, [.ref x0, .int 0, .ref x1, .ref x2, .ref x3, .ref x4, .ref x5, .ref x6, .ref x7, .ref x8, .int 0, .int 3000])), (o0, .inl (kA 1, 1, .inr (.inl (vp_updL (fun _ => 0) 0 (n_cut (xs 2) (n_combine (xs 1) 0 (n_cut (xs 2) ((((xs 4).toInt64) <<< ((32 : Int32).toInt64 &&& 63)) ||| (((xs 5).toInt64) &&& 4294967295))) (n_cut (xs 3) ((((xs 6).toInt64) <<< ((32 : Int32).toInt64 &&& 63)) ||| (((xs 7).toInt64) &&& 4294967295))))))))), (m0, .inr (11, y0.set 9 (.int 0)))] H := hP
    have hD : va_D A [(h0, .inr (10, [.ref x0, .int 0, .ref x1, .ref x2, .ref x3, .ref x4, .ref x5, .ref x6, .ref x7, .ref x8, .int 0, .int 3000])), (o0, .inl (kA 1, 1, .inr (.inl (vp_updL (fun _ => 0) 0 (n_cut (xs 2) (n_combine (xs 1) 0 (n_cut (xs 2) ((((xs 4).toInt64) <<< ((32 : Int32).toInt64 &&& 63)) ||| (((xs 5).toInt64) &&& 4294967295))) (n_cut (xs 3) ((((xs 6).toInt64) <<< ((32 : Int32).toInt64 &&& 63)) ||| (((xs 7).toInt64) &&& 4294967295))))))))), (m0, .inr (11, y0.set 9 (.int 0)))] := hD
    refine lv_lstore (lv' := [(6, .long (n_cut (xs 2) (r_two 221 0 (n_cut (xs 2) ((((xs 4).toInt64) <<< ((32 : Int32).toInt64 &&& 63)) ||| (((xs 5).toInt64) &&& 4294967295))) (n_cut (xs 3) ((((xs 6).toInt64) <<< ((32 : Int32).toInt64 &&& 63)) ||| (((xs 7).toInt64) &&& 4294967295)))))), (5, .int 0), (0, .ref b), (1, .ref h0), (2, .ref m0), (3, .ref o0), (4, .int 0)]) hx hb dL_law_1601 hl (by decide) rfl (fun ls hl => ?_)
    refine lv_aload_n hx hb dL_law_1603 rfl (lv_at hl 4 rfl) ?_
    have hPc := hP.sub (ws' := [(m0, .inr (11, y0.set 9 (.int 0)))]) [2] rfl
    have hDc := hD.sub (ws' := [(m0, .inr (11, y0.set 9 (.int 0)))]) [2] (by decide) rfl
    have hFc := va_free (wc := [(m0, .inr (11, y0.set 9 (.int 0)))]) hD hS hA [2] rfl
    refine va_calli (va_runV (As := []) (rest := []) ⟨hx, hb, hml, hown, hts⟩ (a94_X12_thrown l  D kA V H.size m0 (y0.set 9 (.int 0)) (fun k hk => (by rw [List.length_set]; exact (hq k hk))) (List.getElem?_set_self (hq 9 (by decide)))) (cwV 0 hts (gw_V gw_1879 gw_1880 gw_1881 gw_16 gw_1882) rfl rfl rfl (by decide +kernel) ⟨(Nat.le_of_ble_eq_true rfl), (Nat.le_of_ble_eq_true rfl)⟩) ⟨aP.blind, va_recv hK hP (ci := 11) (q0 := 2) rfl rfl, aP.pre hE hS hPc hK hDc hFc⟩ rfl rfl hl.1 rfl (lv_room (Nat.le_of_ble_eq_true rfl)) dL_law_1604 ⟨(Nat.le_of_ble_eq_true rfl), (Nat.le_of_ble_eq_true rfl)⟩) hS (fun q _ h => hFc q h) hFc (fun r_100786 u t H1 locs ht hvm hw hB hz1 hk1 hS => ?_)
    obtain ⟨hP1, hD1⟩ := hB
    rw [ht] at hP1
    try dsimp only at hw hP1 hD1
    have w_100787 := hw
    subst w_100787
    obtain ⟨hP, hD⟩ := va_join (wr := [(h0, .inr (10, [.ref x0, .int 0, .ref x1, .ref x2, .ref x3, .ref x4, .ref x5, .ref x6, .ref x7, .ref x8, .int 0, .int 3000])), (o0, .inl (kA 1, 1, .inr (.inl (vp_updL (fun _ => 0) 0 (n_cut (xs 2) (n_combine (xs 1) 0 (n_cut (xs 2) ((((xs 4).toInt64) <<< ((32 : Int32).toInt64 &&& 63)) ||| (((xs 5).toInt64) &&& 4294967295))) (n_cut (xs 3) ((((xs 6).toInt64) <<< ((32 : Int32).toInt64 &&& 63)) ||| (((xs 7).toInt64) &&& 4294967295)))))))))]) (w1 := [(m0, .inr (11, (y0.set 9 (.int 0))))]) hP hD [2] [0, 1] rfl rfl (by decide) (by decide) hk1 hFc hP1 hD1
    generalize H1 = H at hP hS ⊢
    have hP : va_P D vwCl [(h0, .inr (10, [.ref x0, .int 0, .ref x1, .ref x2, .ref x3, .ref x4, .ref x5, .ref x6, .ref x7, .ref x8, .int 0, .int 3000])), (o0, .inl (kA 1, 1, .inr (.inl (vp_updL (fun _ => 0) 0 (n_cut (xs 2) (n_combine (xs 1) 0 (n_cut (xs 2) ((((xs 4).toInt64) <<< ((32 : Int32).toInt64 &&& 63)) ||| (((xs 5).toInt64) &&& 4294967295))) (n_cut (xs 3) ((((xs 6).toInt64) <<< ((32 : Int32).toInt64 &&& 63)) ||| (((xs 7).toInt64) &&& 4294967295))))))))), (m0, .inr (11, (y0.set 9 (.int 0))))] H := hP
    have hD : va_D A [(h0, .inr (10, [.ref x0, .int 0, .ref x1, .ref x2, .ref x3, .ref x4, .ref x5, .ref x6, .ref x7, .ref x8, .int 0, .int 3000])), (o0, .inl (kA 1, 1, .inr (.inl (vp_updL (fun _ => 0) 0 (n_cut (xs 2) (n_combine (xs 1) 0 (n_cut (xs 2) ((((xs 4).toInt64) <<< ((32 : Int32).toInt64 &&& 63)) ||| (((xs 5).toInt64) &&& 4294967295))) (n_cut (xs 3) ((((xs 6).toInt64) <<< ((32 : Int32).toInt64 &&& 63)) ||| (((xs 7).toInt64) &&& 4294967295))))))))), (m0, .inr (11, (y0.set 9 (.int 0))))] := hD
    refine lv_iload hx hb dL_law_1607 (lv_at hl 1 rfl) ?_
    refine lv_icmp_eq (tgt := 1614) hx hb dL_law_1609 (by decide) (fun c_100788 => ?_) (fun c_100788 => ?_)
    · skip
      refine lv_iload hx hb dL_law_1614 (lv_at hl 1 rfl) ?_
      refine lv_if_ne (tgt := 1630) hx hb dL_law_1616 (by decide) (fun c_100789 => ?_) (fun c_100789 => ?_)
      · exact absurd (by decide) c_100789
      · skip
        refine lv_aload_n hx hb dL_law_1619 rfl (lv_at hl 5 rfl) ?_
        refine lv_iconst (v := 0) hx hb dL_law_1620 (by decide) ?_
        refine va_lald hx hb hK hP 1 1 rfl rfl (show vp_in 0 1 by unfold vp_in; decide) dL_law_1621 ?_
        refine W.eq (g2 := F0 m 1622 ls [.long (n_cut (xs 2) (n_combine (xs 1) 0 (n_cut (xs 2) ((((xs 4).toInt64) <<< ((32 : Int32).toInt64 &&& 63)) ||| (((xs 5).toInt64) &&& 4294967295))) (n_cut (xs 3) ((((xs 6).toInt64) <<< ((32 : Int32).toInt64 &&& 63)) ||| (((xs 7).toInt64) &&& 4294967295)))))]) rfl ?_
        refine lv_lload hx hb dL_law_1622 (lv_at hl 0 rfl) ?_
        refine W.lcmp hx hb dL_law_1624 ?_
        refine lv_if_eq (tgt := 1630) hx hb dL_law_1625 (by decide) (fun c_100790 => ?_) (fun c_100790 => ?_)
        · skip
          refine lv_goto (tgt := 1804) hx hb dL_law_1630 (by decide) ?_
          exact lk_tail hC hA2 (lv_sub hl [2, 6] rfl) hS (Nat.le_of_ble_eq_true rfl) (Nat.le_of_ble_eq_true rfl)
        · exact absurd ((lg_cmp_eq _ _).mpr (qx_w0 c_71 c_100245 c_67 c_68 c_74 c_69 c_70 (fun q => absurd q (Int32.not_lt.mpr c_75)) (fun q => c_73 q.2) (by rw [c_100258]; decide))) c_100790
    · exact absurd (by decide) c_100788
  · exact False.elim (by have a1 := (iyE (n := 7) hz.2.2.2.2.2.2.2.2.2.2.2.2.2.1 (by decide)); have a2 := (iyB (n := 8) c_75 (by decide)); omega)
  · exact False.elim (by have a1 := (iyE (n := 7) hz.2.2.2.2.2.2.2.2.2.2.2.2.2.1 (by decide)); have a2 := (iyB (n := 8) c_75 (by decide)); omega)
  · exact False.elim (by have a1 := (iyE (n := 7) hz.2.2.2.2.2.2.2.2.2.2.2.2.2.1 (by decide)); have a2 := (iyB (n := 8) c_75 (by decide)); omega)
  · exact False.elim (by have a1 := (iyE (n := 6) hz.2.2.2.2.2.2.2.2.2.2.2.2.1 (by decide)); have a2 := (iyB (n := 8) c_75 (by decide)); omega)
  · exact False.elim (by have a1 := (iyE (n := 6) hz.2.2.2.2.2.2.2.2.2.2.2.2.1 (by decide)); have a2 := (iyB (n := 8) c_75 (by decide)); omega)
  · exact False.elim (by have a1 := (iyE (n := 6) hz.2.2.2.2.2.2.2.2.2.2.2.2.1 (by decide)); have a2 := (iyB (n := 8) c_75 (by decide)); omega)
  · exact False.elim (by have a1 := (iyE (n := 5) hz.2.2.2.2.2.2.2.2.2.2.2.1 (by decide)); have a2 := (iyB (n := 8) c_75 (by decide)); omega)
  · exact False.elim (by have a1 := (iyE (n := 5) hz.2.2.2.2.2.2.2.2.2.2.2.1 (by decide)); have a2 := (iyB (n := 8) c_75 (by decide)); omega)
  · exact False.elim (by have a1 := (iyE (n := 5) hz.2.2.2.2.2.2.2.2.2.2.2.1 (by decide)); have a2 := (iyB (n := 8) c_75 (by decide)); omega)
  · exact False.elim (by have a1 := (iyE (n := 4) hz.2.2.2.2.2.2.2.2.2.2.1 (by decide)); have a2 := (iyB (n := 8) c_75 (by decide)); omega)
  · exact False.elim (by have a1 := (iyE (n := 4) hz.2.2.2.2.2.2.2.2.2.2.1 (by decide)); have a2 := (iyB (n := 8) c_75 (by decide)); omega)
  · exact False.elim (by have a1 := (iyE (n := 4) hz.2.2.2.2.2.2.2.2.2.2.1 (by decide)); have a2 := (iyB (n := 8) c_75 (by decide)); omega)
  · exact False.elim (by have a1 := (iyE (n := 4) hz.2.2.2.2.2.2.2.2.2.2.1 (by decide)); have a2 := (iyB (n := 8) c_75 (by decide)); omega)
  · exact False.elim (by have a1 := (iyE (n := 4) hz.2.2.2.2.2.2.2.2.2.2.1 (by decide)); have a2 := (iyB (n := 8) c_75 (by decide)); omega)
  · exact False.elim (by have a1 := (iyE (n := 4) hz.2.2.2.2.2.2.2.2.2.2.1 (by decide)); have a2 := (iyB (n := 8) c_75 (by decide)); omega)
  · exact False.elim (by have a1 := (iyE (n := 3) hz.2.2.2.2.2.2.2.2.2.1 (by decide)); have a2 := (iyB (n := 8) c_75 (by decide)); omega)
  · exact False.elim (by have a1 := (iyE (n := 3) hz.2.2.2.2.2.2.2.2.2.1 (by decide)); have a2 := (iyB (n := 8) c_75 (by decide)); omega)
  · exact False.elim (by have a1 := (iyE (n := 3) hz.2.2.2.2.2.2.2.2.2.1 (by decide)); have a2 := (iyB (n := 8) c_75 (by decide)); omega)
  · exact False.elim (by have a1 := (iyE (n := 3) hz.2.2.2.2.2.2.2.2.2.1 (by decide)); have a2 := (iyB (n := 8) c_75 (by decide)); omega)
  · exact False.elim (by have a1 := (iyE (n := 3) hz.2.2.2.2.2.2.2.2.2.1 (by decide)); have a2 := (iyB (n := 8) c_75 (by decide)); omega)
  · exact False.elim (by have a1 := (iyE (n := 3) hz.2.2.2.2.2.2.2.2.2.1 (by decide)); have a2 := (iyB (n := 8) c_75 (by decide)); omega)
  · exact False.elim (by have a1 := (iyE (n := 2) hz.2.2.2.2.2.2.2.2.1 (by decide)); have a2 := (iyB (n := 8) c_75 (by decide)); omega)
  · exact False.elim (by have a1 := (iyE (n := 2) hz.2.2.2.2.2.2.2.2.1 (by decide)); have a2 := (iyB (n := 8) c_75 (by decide)); omega)
  · exact False.elim (by have a1 := (iyE (n := 2) hz.2.2.2.2.2.2.2.2.1 (by decide)); have a2 := (iyB (n := 8) c_75 (by decide)); omega)
  · exact False.elim (by have a1 := (iyE (n := 1) hz.2.2.2.2.2.2.2.1 (by decide)); have a2 := (iyB (n := 8) c_75 (by decide)); omega)
  · exact False.elim (by have a1 := (iyE (n := 1) hz.2.2.2.2.2.2.2.1 (by decide)); have a2 := (iyB (n := 8) c_75 (by decide)); omega)
  · exact False.elim (by have a1 := (iyE (n := 1) hz.2.2.2.2.2.2.2.1 (by decide)); have a2 := (iyB (n := 8) c_75 (by decide)); omega)
  · exact False.elim (by have a1 := (iyE (n := 0) hz.2.2.2.2.2.2.1 (by decide)); have a2 := (iyB (n := 8) c_75 (by decide)); omega)
  · exact False.elim (by have a1 := (iyE (n := 0) hz.2.2.2.2.2.2.1 (by decide)); have a2 := (iyB (n := 8) c_75 (by decide)); omega)
  · exact False.elim (by have a1 := (iyE (n := 0) hz.2.2.2.2.2.2.1 (by decide)); have a2 := (iyB (n := 8) c_75 (by decide)); omega)
set_option maxHeartbeats 4000000 in
set_option maxRecDepth 100000 in
theorem lk_22_10 {p : Program} {l : Launch} {e : Env} {s : State} {m : MethodId} {below : List Frame} {meth : Method} {c : Code} {D : va_G} {kA : Nat → ClassId} {V : Nat → Nat} {b : Nat} {xs : Nat → Int32} {A : Nat → Prop} (hC : lw_C p l s m meth c b 8 xs D kA V A) (hA2 : ∀ q, A q → s.heap.size ≤ q) (h0 : Nat) (m0 : Nat) (o0 : Nat) (x0 : Nat) (x1 : Nat) (x2 : Nat) (x3 : Nat) (x4 : Nat) (x5 : Nat) (x6 : Nat) (x7 : Nat) (x8 : Nat) (y0 : List Value) (hq : ∀ k, k < 121 → k < y0.length) (hq9 : y0[9]? = some (.int 0)) (c_78 : ¬ (xs 2) < 0) (c_79 : ¬ 4 < (xs 2)) (c_80 : ¬ (xs 3) < 0) (c_81 : ¬ 4 < (xs 3)) (c_82 : ¬ (xs 1) < 0) (c_83 : (xs 1) ≤ 10) (c_84 : ¬ (n_cut (xs 3) ((((xs 6).toInt64) <<< ((32 : Int32).toInt64 &&& 63)) ||| (((xs 7).toInt64) &&& 4294967295))) = 0) (c_85 : ¬ (xs 2) = 4) (c_86 : ¬ 8 ≤ (xs 1)) (c_87 : ¬ (xs 3) = 4) {H : Heap} {locs : List Loc} {ls : Array Slot} (hl : lv_has ls 8 [(0, .ref b), (1, .ref h0), (2, .ref m0), (3, .ref o0), (4, .int 0)]) (hS : va_S A s.heap H locs) (hP : va_P D vwCl [(m0, .inr (11, y0)), (h0, .inr (10, [.ref x0, .int 0, .ref x1, .ref x2, .ref x3, .ref x4, .ref x5, .ref x6, .ref x7, .ref x8, .int 0, .int 3000])), (o0, .inl (kA 1, 1, .inr (.inl (vp_updL (fun _ => 0) 0 (n_cut (xs 2) (n_combine (xs 1) 0 (n_cut (xs 2) ((((xs 4).toInt64) <<< ((32 : Int32).toInt64 &&& 63)) ||| (((xs 5).toInt64) &&& 4294967295))) (n_cut (xs 3) ((((xs 6).toInt64) <<< ((32 : Int32).toInt64 &&& 63)) ||| (((xs 7).toInt64) &&& 4294967295)))))))))] H) (hD : va_D A [(m0, .inr (11, y0)), (h0, .inr (10, [.ref x0, .int 0, .ref x1, .ref x2, .ref x3, .ref x4, .ref x5, .ref x6, .ref x7, .ref x8, .int 0, .int 3000])), (o0, .inl (kA 1, 1, .inr (.inl (vp_updL (fun _ => 0) 0 (n_cut (xs 2) (n_combine (xs 1) 0 (n_cut (xs 2) ((((xs 4).toInt64) <<< ((32 : Int32).toInt64 &&& 63)) ||| (((xs 5).toInt64) &&& 4294967295))) (n_cut (xs 3) ((((xs 6).toInt64) <<< ((32 : Int32).toInt64 &&& 63)) ||| (((xs 7).toInt64) &&& 4294967295)))))))))]) : W p l e room_1 s m #[Value.ref b] below meth c H locs 515 172799 (lw_Z below #[Value.ref b] s) (F0 m 1531 ls [.int 0]) := by
  have ⟨hst, hx, hb, hr, hml, hown, hts, hG, hX, hbl, hbA, hlocks, hE, hK, hA⟩ := hC
  refine lv_istore (lv' := [(5, .int 0), (0, .ref b), (1, .ref h0), (2, .ref m0), (3, .ref o0), (4, .int 0)]) hx hb dL_law_1531 hl (by decide) rfl (fun ls hl => ?_)
  refine lv_aload_n hx hb dL_law_1533 rfl (lv_at hl 3 rfl) ?_
  refine lv_aload_n hx hb dL_law_1534 rfl (lv_at hl 1 rfl) ?_
  refine lv_iload hx hb dL_law_1535 (lv_at hl 5 rfl) ?_
  refine lv_iconst (v := 1) hx hb dL_law_1537 (by decide) ?_
  refine lv_iadd hx hb dL_law_1538 ?_
  refine W.eq (g2 := F0 m 1539 ls [.int 1, .ref b, .ref m0]) rfl ?_
  refine va_sld hx hb hX hbl hbA hS (show vp_in 1 8 by unfold vp_in; decide) dL_law_1539 ?_
  refine W.eq (g2 := F0 m 1540 ls [.int (xs 1), .ref m0]) rfl ?_
  refine lv_aload_n hx hb dL_law_1540 rfl (lv_at hl 1 rfl) ?_
  refine lv_iload hx hb dL_law_1541 (lv_at hl 5 rfl) ?_
  refine lv_iconst (v := 2) hx hb dL_law_1543 (by decide) ?_
  refine lv_iadd hx hb dL_law_1544 ?_
  refine W.eq (g2 := F0 m 1545 ls [.int 2, .ref b, .int (xs 1), .ref m0]) rfl ?_
  refine va_sld hx hb hX hbl hbA hS (show vp_in 2 8 by unfold vp_in; decide) dL_law_1545 ?_
  refine W.eq (g2 := F0 m 1546 ls [.int (xs 2), .int (xs 1), .ref m0]) rfl ?_
  refine lv_aload_n hx hb dL_law_1546 rfl (lv_at hl 1 rfl) ?_
  refine lv_iload hx hb dL_law_1547 (lv_at hl 5 rfl) ?_
  refine lv_iconst (v := 3) hx hb dL_law_1549 (by decide) ?_
  refine lv_iadd hx hb dL_law_1550 ?_
  refine W.eq (g2 := F0 m 1551 ls [.int 3, .ref b, .int (xs 2), .int (xs 1), .ref m0]) rfl ?_
  refine va_sld hx hb hX hbl hbA hS (show vp_in 3 8 by unfold vp_in; decide) dL_law_1551 ?_
  refine W.eq (g2 := F0 m 1552 ls [.int (xs 3), .int (xs 2), .int (xs 1), .ref m0]) rfl ?_
  refine lv_aload_n hx hb dL_law_1552 rfl (lv_at hl 1 rfl) ?_
  refine lv_iload hx hb dL_law_1553 (lv_at hl 5 rfl) ?_
  refine lv_iconst (v := 4) hx hb dL_law_1555 (by decide) ?_
  refine lv_iadd hx hb dL_law_1556 ?_
  refine W.eq (g2 := F0 m 1557 ls [.int 4, .ref b, .int (xs 3), .int (xs 2), .int (xs 1), .ref m0]) rfl ?_
  refine va_sld hx hb hX hbl hbA hS (show vp_in 4 8 by unfold vp_in; decide) dL_law_1557 ?_
  refine W.eq (g2 := F0 m 1558 ls [.int (xs 4), .int (xs 3), .int (xs 2), .int (xs 1), .ref m0]) rfl ?_
  refine lv_i2l (v := (xs 4).toInt64) hx hb dL_law_1558 rfl ?_
  refine lv_bipush (v := 32) hx hb dL_law_1559 (by decide) ?_
  refine lv_lshl (v := ((xs 4).toInt64) <<< ((32 : Int32).toInt64 &&& 63)) hx hb dL_law_1561 rfl ?_
  refine lv_aload_n hx hb dL_law_1562 rfl (lv_at hl 1 rfl) ?_
  refine lv_iload hx hb dL_law_1563 (lv_at hl 5 rfl) ?_
  refine lv_iconst (v := 5) hx hb dL_law_1565 (by decide) ?_
  refine lv_iadd hx hb dL_law_1566 ?_
  refine W.eq (g2 := F0 m 1567 ls [.int 5, .ref b, .long (((xs 4).toInt64) <<< ((32 : Int32).toInt64 &&& 63)), .int (xs 3), .int (xs 2), .int (xs 1), .ref m0]) rfl ?_
  refine va_sld hx hb hX hbl hbA hS (show vp_in 5 8 by unfold vp_in; decide) dL_law_1567 ?_
  refine W.eq (g2 := F0 m 1568 ls [.int (xs 5), .long (((xs 4).toInt64) <<< ((32 : Int32).toInt64 &&& 63)), .int (xs 3), .int (xs 2), .int (xs 1), .ref m0]) rfl ?_
  refine lv_i2l (v := (xs 5).toInt64) hx hb dL_law_1568 rfl ?_
  refine lv_ldc2 (v := 4294967295) hx hb hown (hG _ gw_2764) dL_law_1569 ?_
  refine lv_land hx hb dL_law_1572 ?_
  refine lv_lor hx hb dL_law_1573 ?_
  refine lv_aload_n hx hb dL_law_1574 rfl (lv_at hl 1 rfl) ?_
  refine lv_iload hx hb dL_law_1575 (lv_at hl 5 rfl) ?_
  refine lv_bipush (v := 6) hx hb dL_law_1577 (by decide) ?_
  refine lv_iadd hx hb dL_law_1579 ?_
  refine W.eq (g2 := F0 m 1580 ls [.int 6, .ref b, .long ((((xs 4).toInt64) <<< ((32 : Int32).toInt64 &&& 63)) ||| (((xs 5).toInt64) &&& 4294967295)), .int (xs 3), .int (xs 2), .int (xs 1), .ref m0]) rfl ?_
  refine va_sld hx hb hX hbl hbA hS (show vp_in 6 8 by unfold vp_in; decide) dL_law_1580 ?_
  refine W.eq (g2 := F0 m 1581 ls [.int (xs 6), .long ((((xs 4).toInt64) <<< ((32 : Int32).toInt64 &&& 63)) ||| (((xs 5).toInt64) &&& 4294967295)), .int (xs 3), .int (xs 2), .int (xs 1), .ref m0]) rfl ?_
  refine lv_i2l (v := (xs 6).toInt64) hx hb dL_law_1581 rfl ?_
  refine lv_bipush (v := 32) hx hb dL_law_1582 (by decide) ?_
  refine lv_lshl (v := ((xs 6).toInt64) <<< ((32 : Int32).toInt64 &&& 63)) hx hb dL_law_1584 rfl ?_
  refine lv_aload_n hx hb dL_law_1585 rfl (lv_at hl 1 rfl) ?_
  refine lv_iload hx hb dL_law_1586 (lv_at hl 5 rfl) ?_
  refine lv_bipush (v := 7) hx hb dL_law_1588 (by decide) ?_
  refine lv_iadd hx hb dL_law_1590 ?_
  refine W.eq (g2 := F0 m 1591 ls [.int 7, .ref b, .long (((xs 6).toInt64) <<< ((32 : Int32).toInt64 &&& 63)), .long ((((xs 4).toInt64) <<< ((32 : Int32).toInt64 &&& 63)) ||| (((xs 5).toInt64) &&& 4294967295)), .int (xs 3), .int (xs 2), .int (xs 1), .ref m0]) rfl ?_
  refine va_sld hx hb hX hbl hbA hS (show vp_in 7 8 by unfold vp_in; decide) dL_law_1591 ?_
  refine W.eq (g2 := F0 m 1592 ls [.int (xs 7), .long (((xs 6).toInt64) <<< ((32 : Int32).toInt64 &&& 63)), .long ((((xs 4).toInt64) <<< ((32 : Int32).toInt64 &&& 63)) ||| (((xs 5).toInt64) &&& 4294967295)), .int (xs 3), .int (xs 2), .int (xs 1), .ref m0]) rfl ?_
  refine lv_i2l (v := (xs 7).toInt64) hx hb dL_law_1592 rfl ?_
  refine lv_ldc2 (v := 4294967295) hx hb hown (hG _ gw_2764) dL_law_1593 ?_
  refine lv_land hx hb dL_law_1596 ?_
  refine lv_lor hx hb dL_law_1597 ?_
  have hPc := hP.sub (ws' := [(m0, .inr (11, y0))]) [0] rfl
  have hDc := hD.sub (ws' := [(m0, .inr (11, y0))]) [0] (by decide) rfl
  have hFc := va_free (wc := [(m0, .inr (11, y0))]) hD hS hA [0] rfl
  refine va_calll (va_runV (As := [.int (xs 1), .int (xs 2), .int (xs 3), .long ((((xs 4).toInt64) <<< ((32 : Int32).toInt64 &&& 63)) ||| (((xs 5).toInt64) &&& 4294967295)), .long ((((xs 6).toInt64) <<< ((32 : Int32).toInt64 &&& 63)) ||| (((xs 7).toInt64) &&& 4294967295))]) (rest := []) ⟨hx, hb, hml, hown, hts⟩ (a153_X12_work l  D kA V H.size m0 (xs 1) (xs 2) (xs 3) ((((xs 4).toInt64) <<< ((32 : Int32).toInt64 &&& 63)) ||| (((xs 5).toInt64) &&& 4294967295)) ((((xs 6).toInt64) <<< ((32 : Int32).toInt64 &&& 63)) ||| (((xs 7).toInt64) &&& 4294967295)) y0 (fun k hk => (hq k hk)) hq9) (cwV 5 hts (gw_V gw_2756 gw_2757 gw_2758 gw_16 gw_2759) rfl rfl rfl (by decide +kernel) ⟨(Nat.le_of_ble_eq_true rfl), (Nat.le_of_ble_eq_true rfl)⟩) ⟨aP.blind, va_recv hK hP (ci := 11) (q0 := 0) rfl rfl, aP.pre hE hS hPc hK hDc hFc⟩ rfl rfl hl.1 rfl (lv_room (Nat.le_of_ble_eq_true rfl)) dL_law_1598 ⟨(Nat.le_of_ble_eq_true rfl), (Nat.le_of_ble_eq_true rfl)⟩) hS (fun q _ h => hFc q h) hFc (fun r_100001 u t H1 locs ht hvm hw hB hz1 hk1 hS => ?_)
  obtain ⟨u_100002, rfl⟩ : ∃ z, z = u := ⟨u, rfl⟩
  obtain ⟨hP1, hD1⟩ := hB
  rw [ht] at hP1
  try dsimp only at hw hP1 hD1
  rcases hw with hz | hz | hz | hz | hz | hz | hz | hz | hz | hz | hz | hz | hz | hz | hz | hz | hz | hz | hz | hz | hz | hz | hz | hz | hz | hz | hz | hz | hz | hz | hz | hz | hz | hz | hz | hz | hz | hz | hz | hz | hz | hz | hz | hz | hz | hz | hz | hz | hz | hz | hz | hz
  · exact absurd hz.1 c_82
  · exact absurd hz.1 c_82
  · exact absurd hz.1 c_82
  · exact absurd hz.1 c_82
  · exact absurd hz.1 c_82
  · exact absurd hz.2.1 (Int32.not_lt.mpr c_83)
  · exact absurd hz.2.1 (Int32.not_lt.mpr c_83)
  · exact absurd hz.2.1 (Int32.not_lt.mpr c_83)
  · exact absurd hz.2.1 (Int32.not_lt.mpr c_83)
  · exact absurd hz.2.1 (Int32.not_lt.mpr c_83)
  · exact absurd hz.2.2.1 c_78
  · exact absurd hz.2.2.2.1 c_79
  · exact absurd hz.2.2.2.2.1 c_80
  · exact absurd hz.2.2.2.2.2.1 c_81
  · exact absurd hz.2.2.2.2.2.2.2.2.2.2.2.2.2.2.2.2.2.2.1 c_85
  · exact absurd hz.2.2.2.2.2.2.2.2.2.2.2.2.2.2.2.2.2.2.2.1 c_86
  · obtain ⟨c_100135, c_100136, c_100137, c_100138, c_100139, c_100140, c_100141, c_100142, c_100143, c_100144, c_100145, c_100146, c_100147, c_100148, c_100149, c_100150, c_100151, c_100152, c_100153, c_100154, c_100155, w_100156, w_100157⟩ := hz
    subst w_100156
    subst w_100157
    obtain ⟨hP, hD⟩ := va_join (wr := [(h0, .inr (10, [.ref x0, .int 0, .ref x1, .ref x2, .ref x3, .ref x4, .ref x5, .ref x6, .ref x7, .ref x8, .int 0, .int 3000])), (o0, .inl (kA 1, 1, .inr (.inl (vp_updL (fun _ => 0) 0 (n_cut (xs 2) (n_combine (xs 1) 0 (n_cut (xs 2) ((((xs 4).toInt64) <<< ((32 : Int32).toInt64 &&& 63)) ||| (((xs 5).toInt64) &&& 4294967295))) (n_cut (xs 3) ((((xs 6).toInt64) <<< ((32 : Int32).toInt64 &&& 63)) ||| (((xs 7).toInt64) &&& 4294967295)))))))))]) (w1 := [(m0, .inr (11, y0.set 9 (.int 0)))]) hP hD [0] [1, 2] rfl rfl (by decide) (by decide) hk1 hFc hP1 hD1
    generalize H1 = H at hP hS ⊢
    have hP : va_P D vwCl [(h0, .inr (10, [.ref x0, .int 0, .ref x1, .ref x2, .ref x3, .ref x4, .ref x5, .ref x6, .ref x7, .ref x8, .int 0, .int 3000])), (o0, .inl (kA 1, 1, .inr (.inl (vp_updL (fun _ => 0) 0 (n_cut (xs 2) (n_combine (xs 1) 0 (n_cut (xs 2) ((((xs 4).toInt64) <<< ((32 : Int32).toInt64 &&& 63)) ||| (((xs 5).toInt64) &&& 4294967295))) (n_cut (xs 3) ((((xs 6).toInt64) <<< ((32 : Int32).toInt64 &&& 63)) ||| (((xs 7).toInt64) &&& 4294967295))))))))), (m0, .inr (11, y0.set 9 (.int 0)))] H := hP
    have hD : va_D A [(h0, .inr (10, [.ref x0, .int 0, .ref x1, .ref x2, .ref x3, .ref x4, .ref x5, .ref x6, .ref x7, .ref x8, .int 0, .int 3000])), (o0, .inl (kA 1, 1, .inr (.inl (vp_updL (fun _ => 0) 0 (n_cut (xs 2) (n_combine (xs 1) 0 (n_cut (xs 2) ((((xs 4).toInt64) <<< ((32 : Int32).toInt64 &&& 63)) ||| (((xs 5).toInt64) &&& 4294967295))) (n_cut (xs 3) ((((xs 6).toInt64) <<< ((32 : Int32).toInt64 &&& 63)) ||| (((xs 7).toInt64) &&& 4294967295))))))))), (m0, .inr (11, y0.set 9 (.int 0)))] := hD
    refine lv_lstore (lv' := [(6, .long (n_cut (xs 2) (r_two 203 0 (n_cut (xs 2) ((((xs 4).toInt64) <<< ((32 : Int32).toInt64 &&& 63)) ||| (((xs 5).toInt64) &&& 4294967295))) (n_cut (xs 3) ((((xs 6).toInt64) <<< ((32 : Int32).toInt64 &&& 63)) ||| (((xs 7).toInt64) &&& 4294967295)))))), (5, .int 0), (0, .ref b), (1, .ref h0), (2, .ref m0), (3, .ref o0), (4, .int 0)]) hx hb dL_law_1601 hl (by decide) rfl (fun ls hl => ?_)
    refine lv_aload_n hx hb dL_law_1603 rfl (lv_at hl 4 rfl) ?_
    have hPc := hP.sub (ws' := [(m0, .inr (11, y0.set 9 (.int 0)))]) [2] rfl
    have hDc := hD.sub (ws' := [(m0, .inr (11, y0.set 9 (.int 0)))]) [2] (by decide) rfl
    have hFc := va_free (wc := [(m0, .inr (11, y0.set 9 (.int 0)))]) hD hS hA [2] rfl
    refine va_calli (va_runV (As := []) (rest := []) ⟨hx, hb, hml, hown, hts⟩ (a94_X12_thrown l  D kA V H.size m0 (y0.set 9 (.int 0)) (fun k hk => (by rw [List.length_set]; exact (hq k hk))) (List.getElem?_set_self (hq 9 (by decide)))) (cwV 0 hts (gw_V gw_1879 gw_1880 gw_1881 gw_16 gw_1882) rfl rfl rfl (by decide +kernel) ⟨(Nat.le_of_ble_eq_true rfl), (Nat.le_of_ble_eq_true rfl)⟩) ⟨aP.blind, va_recv hK hP (ci := 11) (q0 := 2) rfl rfl, aP.pre hE hS hPc hK hDc hFc⟩ rfl rfl hl.1 rfl (lv_room (Nat.le_of_ble_eq_true rfl)) dL_law_1604 ⟨(Nat.le_of_ble_eq_true rfl), (Nat.le_of_ble_eq_true rfl)⟩) hS (fun q _ h => hFc q h) hFc (fun r_100776 u t H1 locs ht hvm hw hB hz1 hk1 hS => ?_)
    obtain ⟨hP1, hD1⟩ := hB
    rw [ht] at hP1
    try dsimp only at hw hP1 hD1
    have w_100777 := hw
    subst w_100777
    obtain ⟨hP, hD⟩ := va_join (wr := [(h0, .inr (10, [.ref x0, .int 0, .ref x1, .ref x2, .ref x3, .ref x4, .ref x5, .ref x6, .ref x7, .ref x8, .int 0, .int 3000])), (o0, .inl (kA 1, 1, .inr (.inl (vp_updL (fun _ => 0) 0 (n_cut (xs 2) (n_combine (xs 1) 0 (n_cut (xs 2) ((((xs 4).toInt64) <<< ((32 : Int32).toInt64 &&& 63)) ||| (((xs 5).toInt64) &&& 4294967295))) (n_cut (xs 3) ((((xs 6).toInt64) <<< ((32 : Int32).toInt64 &&& 63)) ||| (((xs 7).toInt64) &&& 4294967295)))))))))]) (w1 := [(m0, .inr (11, (y0.set 9 (.int 0))))]) hP hD [2] [0, 1] rfl rfl (by decide) (by decide) hk1 hFc hP1 hD1
    generalize H1 = H at hP hS ⊢
    have hP : va_P D vwCl [(h0, .inr (10, [.ref x0, .int 0, .ref x1, .ref x2, .ref x3, .ref x4, .ref x5, .ref x6, .ref x7, .ref x8, .int 0, .int 3000])), (o0, .inl (kA 1, 1, .inr (.inl (vp_updL (fun _ => 0) 0 (n_cut (xs 2) (n_combine (xs 1) 0 (n_cut (xs 2) ((((xs 4).toInt64) <<< ((32 : Int32).toInt64 &&& 63)) ||| (((xs 5).toInt64) &&& 4294967295))) (n_cut (xs 3) ((((xs 6).toInt64) <<< ((32 : Int32).toInt64 &&& 63)) ||| (((xs 7).toInt64) &&& 4294967295))))))))), (m0, .inr (11, (y0.set 9 (.int 0))))] H := hP
    have hD : va_D A [(h0, .inr (10, [.ref x0, .int 0, .ref x1, .ref x2, .ref x3, .ref x4, .ref x5, .ref x6, .ref x7, .ref x8, .int 0, .int 3000])), (o0, .inl (kA 1, 1, .inr (.inl (vp_updL (fun _ => 0) 0 (n_cut (xs 2) (n_combine (xs 1) 0 (n_cut (xs 2) ((((xs 4).toInt64) <<< ((32 : Int32).toInt64 &&& 63)) ||| (((xs 5).toInt64) &&& 4294967295))) (n_cut (xs 3) ((((xs 6).toInt64) <<< ((32 : Int32).toInt64 &&& 63)) ||| (((xs 7).toInt64) &&& 4294967295))))))))), (m0, .inr (11, (y0.set 9 (.int 0))))] := hD
    refine lv_iload hx hb dL_law_1607 (lv_at hl 1 rfl) ?_
    refine lv_icmp_eq (tgt := 1614) hx hb dL_law_1609 (by decide) (fun c_100778 => ?_) (fun c_100778 => ?_)
    · skip
      refine lv_iload hx hb dL_law_1614 (lv_at hl 1 rfl) ?_
      refine lv_if_ne (tgt := 1630) hx hb dL_law_1616 (by decide) (fun c_100779 => ?_) (fun c_100779 => ?_)
      · exact absurd (by decide) c_100779
      · skip
        refine lv_aload_n hx hb dL_law_1619 rfl (lv_at hl 5 rfl) ?_
        refine lv_iconst (v := 0) hx hb dL_law_1620 (by decide) ?_
        refine va_lald hx hb hK hP 1 1 rfl rfl (show vp_in 0 1 by unfold vp_in; decide) dL_law_1621 ?_
        refine W.eq (g2 := F0 m 1622 ls [.long (n_cut (xs 2) (n_combine (xs 1) 0 (n_cut (xs 2) ((((xs 4).toInt64) <<< ((32 : Int32).toInt64 &&& 63)) ||| (((xs 5).toInt64) &&& 4294967295))) (n_cut (xs 3) ((((xs 6).toInt64) <<< ((32 : Int32).toInt64 &&& 63)) ||| (((xs 7).toInt64) &&& 4294967295)))))]) rfl ?_
        refine lv_lload hx hb dL_law_1622 (lv_at hl 0 rfl) ?_
        refine W.lcmp hx hb dL_law_1624 ?_
        refine lv_if_eq (tgt := 1630) hx hb dL_law_1625 (by decide) (fun c_100780 => ?_) (fun c_100780 => ?_)
        · skip
          refine lv_goto (tgt := 1804) hx hb dL_law_1630 (by decide) ?_
          exact lk_tail hC hA2 (lv_sub hl [2, 6] rfl) hS (Nat.le_of_ble_eq_true rfl) (Nat.le_of_ble_eq_true rfl)
        · exact absurd ((lg_cmp_eq _ _).mpr (qx_w0 c_82 c_100136 c_78 c_79 c_85 c_80 c_81 (fun _ => c_87) (fun q => c_84 q.2) (by unfold q_sign; rw [if_neg c_100141, if_neg c_100142, if_neg c_100143, if_neg c_100144, if_neg c_100145, if_neg c_100146, if_neg c_100147, if_neg c_100148, if_neg c_100149, if_neg c_100150]))) c_100780
    · exact absurd (by decide) c_100778
  · exact absurd hz.2.2.2.2.2.2.2.2.2.2.2.2.2.2.2.2.2.2.2.2.1 c_87
  · exact False.elim (by have a1 := (iyE (n := 9) hz.2.2.2.2.2.2.2.2.2.2.2.2.2.2.2.1 (by decide)); have a2 := (ixA (n := 8) (Int32.not_le.mp c_86) (by decide)); omega)
  · exact False.elim (by have a1 := (iyE (n := 9) hz.2.2.2.2.2.2.2.2.2.2.2.2.2.2.2.1 (by decide)); have a2 := (ixA (n := 8) (Int32.not_le.mp c_86) (by decide)); omega)
  · exact False.elim (by have a1 := (iyE (n := 8) hz.2.2.2.2.2.2.2.2.2.2.2.2.2.2.1 (by decide)); have a2 := (ixA (n := 8) (Int32.not_le.mp c_86) (by decide)); omega)
  · exact False.elim (by have a1 := (iyE (n := 8) hz.2.2.2.2.2.2.2.2.2.2.2.2.2.2.1 (by decide)); have a2 := (ixA (n := 8) (Int32.not_le.mp c_86) (by decide)); omega)
  · exact absurd hz.2.2.2.2.2.2.2.2.2.2.2.2.2.2.2.2.1 c_85
  · obtain ⟨c_100284, c_100285, c_100286, c_100287, c_100288, c_100289, c_100290, c_100291, c_100292, c_100293, c_100294, c_100295, c_100296, c_100297, c_100298, c_100299, c_100300, c_100301, c_100302, w_100303, w_100304⟩ := hz
    subst w_100303
    subst w_100304
    obtain ⟨hP, hD⟩ := va_join (wr := [(h0, .inr (10, [.ref x0, .int 0, .ref x1, .ref x2, .ref x3, .ref x4, .ref x5, .ref x6, .ref x7, .ref x8, .int 0, .int 3000])), (o0, .inl (kA 1, 1, .inr (.inl (vp_updL (fun _ => 0) 0 (n_cut (xs 2) (n_combine (xs 1) 0 (n_cut (xs 2) ((((xs 4).toInt64) <<< ((32 : Int32).toInt64 &&& 63)) ||| (((xs 5).toInt64) &&& 4294967295))) (n_cut (xs 3) ((((xs 6).toInt64) <<< ((32 : Int32).toInt64 &&& 63)) ||| (((xs 7).toInt64) &&& 4294967295)))))))))]) (w1 := [(m0, .inr (11, y0.set 9 (.int 0)))]) hP hD [0] [1, 2] rfl rfl (by decide) (by decide) hk1 hFc hP1 hD1
    generalize H1 = H at hP hS ⊢
    have hP : va_P D vwCl [(h0, .inr (10, [.ref x0, .int 0, .ref x1, .ref x2, .ref x3, .ref x4, .ref x5, .ref x6, .ref x7, .ref x8, .int 0, .int 3000])), (o0, .inl (kA 1, 1, .inr (.inl (vp_updL (fun _ => 0) 0 (n_cut (xs 2) (n_combine (xs 1) 0 (n_cut (xs 2) ((((xs 4).toInt64) <<< ((32 : Int32).toInt64 &&& 63)) ||| (((xs 5).toInt64) &&& 4294967295))) (n_cut (xs 3) ((((xs 6).toInt64) <<< ((32 : Int32).toInt64 &&& 63)) ||| (((xs 7).toInt64) &&& 4294967295))))))))), (m0, .inr (11, y0.set 9 (.int 0)))] H := hP
    have hD : va_D A [(h0, .inr (10, [.ref x0, .int 0, .ref x1, .ref x2, .ref x3, .ref x4, .ref x5, .ref x6, .ref x7, .ref x8, .int 0, .int 3000])), (o0, .inl (kA 1, 1, .inr (.inl (vp_updL (fun _ => 0) 0 (n_cut (xs 2) (n_combine (xs 1) 0 (n_cut (xs 2) ((((xs 4).toInt64) <<< ((32 : Int32).toInt64 &&& 63)) ||| (((xs 5).toInt64) &&& 4294967295))) (n_cut (xs 3) ((((xs 6).toInt64) <<< ((32 : Int32).toInt64 &&& 63)) ||| (((xs 7).toInt64) &&& 4294967295))))))))), (m0, .inr (11, y0.set 9 (.int 0)))] := hD
    refine lv_lstore (lv' := [(6, .long (n_cut (xs 2) (r_two 236 0 (n_cut (xs 2) ((((xs 4).toInt64) <<< ((32 : Int32).toInt64 &&& 63)) ||| (((xs 5).toInt64) &&& 4294967295))) (n_cut (xs 3) ((((xs 6).toInt64) <<< ((32 : Int32).toInt64 &&& 63)) ||| (((xs 7).toInt64) &&& 4294967295)))))), (5, .int 0), (0, .ref b), (1, .ref h0), (2, .ref m0), (3, .ref o0), (4, .int 0)]) hx hb dL_law_1601 hl (by decide) rfl (fun ls hl => ?_)
    refine lv_aload_n hx hb dL_law_1603 rfl (lv_at hl 4 rfl) ?_
    have hPc := hP.sub (ws' := [(m0, .inr (11, y0.set 9 (.int 0)))]) [2] rfl
    have hDc := hD.sub (ws' := [(m0, .inr (11, y0.set 9 (.int 0)))]) [2] (by decide) rfl
    have hFc := va_free (wc := [(m0, .inr (11, y0.set 9 (.int 0)))]) hD hS hA [2] rfl
    refine va_calli (va_runV (As := []) (rest := []) ⟨hx, hb, hml, hown, hts⟩ (a94_X12_thrown l  D kA V H.size m0 (y0.set 9 (.int 0)) (fun k hk => (by rw [List.length_set]; exact (hq k hk))) (List.getElem?_set_self (hq 9 (by decide)))) (cwV 0 hts (gw_V gw_1879 gw_1880 gw_1881 gw_16 gw_1882) rfl rfl rfl (by decide +kernel) ⟨(Nat.le_of_ble_eq_true rfl), (Nat.le_of_ble_eq_true rfl)⟩) ⟨aP.blind, va_recv hK hP (ci := 11) (q0 := 2) rfl rfl, aP.pre hE hS hPc hK hDc hFc⟩ rfl rfl hl.1 rfl (lv_room (Nat.le_of_ble_eq_true rfl)) dL_law_1604 ⟨(Nat.le_of_ble_eq_true rfl), (Nat.le_of_ble_eq_true rfl)⟩) hS (fun q _ h => hFc q h) hFc (fun r_100781 u t H1 locs ht hvm hw hB hz1 hk1 hS => ?_)
    obtain ⟨hP1, hD1⟩ := hB
    rw [ht] at hP1
    try dsimp only at hw hP1 hD1
    have w_100782 := hw
    subst w_100782
    obtain ⟨hP, hD⟩ := va_join (wr := [(h0, .inr (10, [.ref x0, .int 0, .ref x1, .ref x2, .ref x3, .ref x4, .ref x5, .ref x6, .ref x7, .ref x8, .int 0, .int 3000])), (o0, .inl (kA 1, 1, .inr (.inl (vp_updL (fun _ => 0) 0 (n_cut (xs 2) (n_combine (xs 1) 0 (n_cut (xs 2) ((((xs 4).toInt64) <<< ((32 : Int32).toInt64 &&& 63)) ||| (((xs 5).toInt64) &&& 4294967295))) (n_cut (xs 3) ((((xs 6).toInt64) <<< ((32 : Int32).toInt64 &&& 63)) ||| (((xs 7).toInt64) &&& 4294967295)))))))))]) (w1 := [(m0, .inr (11, (y0.set 9 (.int 0))))]) hP hD [2] [0, 1] rfl rfl (by decide) (by decide) hk1 hFc hP1 hD1
    generalize H1 = H at hP hS ⊢
    have hP : va_P D vwCl [(h0, .inr (10, [.ref x0, .int 0, .ref x1, .ref x2, .ref x3, .ref x4, .ref x5, .ref x6, .ref x7, .ref x8, .int 0, .int 3000])), (o0, .inl (kA 1, 1, .inr (.inl (vp_updL (fun _ => 0) 0 (n_cut (xs 2) (n_combine (xs 1) 0 (n_cut (xs 2) ((((xs 4).toInt64) <<< ((32 : Int32).toInt64 &&& 63)) ||| (((xs 5).toInt64) &&& 4294967295))) (n_cut (xs 3) ((((xs 6).toInt64) <<< ((32 : Int32).toInt64 &&& 63)) ||| (((xs 7).toInt64) &&& 4294967295))))))))), (m0, .inr (11, (y0.set 9 (.int 0))))] H := hP
    have hD : va_D A [(h0, .inr (10, [.ref x0, .int 0, .ref x1, .ref x2, .ref x3, .ref x4, .ref x5, .ref x6, .ref x7, .ref x8, .int 0, .int 3000])), (o0, .inl (kA 1, 1, .inr (.inl (vp_updL (fun _ => 0) 0 (n_cut (xs 2) (n_combine (xs 1) 0 (n_cut (xs 2) ((((xs 4).toInt64) <<< ((32 : Int32).toInt64 &&& 63)) ||| (((xs 5).toInt64) &&& 4294967295))) (n_cut (xs 3) ((((xs 6).toInt64) <<< ((32 : Int32).toInt64 &&& 63)) ||| (((xs 7).toInt64) &&& 4294967295))))))))), (m0, .inr (11, (y0.set 9 (.int 0))))] := hD
    refine lv_iload hx hb dL_law_1607 (lv_at hl 1 rfl) ?_
    refine lv_icmp_eq (tgt := 1614) hx hb dL_law_1609 (by decide) (fun c_100783 => ?_) (fun c_100783 => ?_)
    · skip
      refine lv_iload hx hb dL_law_1614 (lv_at hl 1 rfl) ?_
      refine lv_if_ne (tgt := 1630) hx hb dL_law_1616 (by decide) (fun c_100784 => ?_) (fun c_100784 => ?_)
      · exact absurd (by decide) c_100784
      · skip
        refine lv_aload_n hx hb dL_law_1619 rfl (lv_at hl 5 rfl) ?_
        refine lv_iconst (v := 0) hx hb dL_law_1620 (by decide) ?_
        refine va_lald hx hb hK hP 1 1 rfl rfl (show vp_in 0 1 by unfold vp_in; decide) dL_law_1621 ?_
        refine W.eq (g2 := F0 m 1622 ls [.long (n_cut (xs 2) (n_combine (xs 1) 0 (n_cut (xs 2) ((((xs 4).toInt64) <<< ((32 : Int32).toInt64 &&& 63)) ||| (((xs 5).toInt64) &&& 4294967295))) (n_cut (xs 3) ((((xs 6).toInt64) <<< ((32 : Int32).toInt64 &&& 63)) ||| (((xs 7).toInt64) &&& 4294967295)))))]) rfl ?_
        refine lv_lload hx hb dL_law_1622 (lv_at hl 0 rfl) ?_
        refine W.lcmp hx hb dL_law_1624 ?_
        refine lv_if_eq (tgt := 1630) hx hb dL_law_1625 (by decide) (fun c_100785 => ?_) (fun c_100785 => ?_)
        · skip
          refine lv_goto (tgt := 1804) hx hb dL_law_1630 (by decide) ?_
          exact lk_tail hC hA2 (lv_sub hl [2, 6] rfl) hS (Nat.le_of_ble_eq_true rfl) (Nat.le_of_ble_eq_true rfl)
        · exact absurd ((lg_cmp_eq _ _).mpr (qx_w0 c_82 c_100285 c_78 c_79 c_85 c_80 c_81 (fun _ => c_87) (fun q => c_84 q.2) (by rw [c_100297]; decide))) c_100785
    · exact absurd (by decide) c_100783
  · exact absurd hz.2.2.2.2.2.2.2.2.2.2.2.2.2.2.2.2.2.2.1 c_87
  · exact absurd hz.2.2.2.2.2.2.2.2.2.2.2.2.2.2.2.1 c_85
  · obtain ⟨c_100344, c_100345, c_100346, c_100347, c_100348, c_100349, c_100350, c_100351, c_100352, c_100353, c_100354, c_100355, c_100356, c_100357, c_100358, c_100359, c_100360, c_100361, w_100362, w_100363⟩ := hz
    subst w_100362
    subst w_100363
    obtain ⟨hP, hD⟩ := va_join (wr := [(h0, .inr (10, [.ref x0, .int 0, .ref x1, .ref x2, .ref x3, .ref x4, .ref x5, .ref x6, .ref x7, .ref x8, .int 0, .int 3000])), (o0, .inl (kA 1, 1, .inr (.inl (vp_updL (fun _ => 0) 0 (n_cut (xs 2) (n_combine (xs 1) 0 (n_cut (xs 2) ((((xs 4).toInt64) <<< ((32 : Int32).toInt64 &&& 63)) ||| (((xs 5).toInt64) &&& 4294967295))) (n_cut (xs 3) ((((xs 6).toInt64) <<< ((32 : Int32).toInt64 &&& 63)) ||| (((xs 7).toInt64) &&& 4294967295)))))))))]) (w1 := [(m0, .inr (11, y0.set 9 (.int 0)))]) hP hD [0] [1, 2] rfl rfl (by decide) (by decide) hk1 hFc hP1 hD1
    generalize H1 = H at hP hS ⊢
    have hP : va_P D vwCl [(h0, .inr (10, [.ref x0, .int 0, .ref x1, .ref x2, .ref x3, .ref x4, .ref x5, .ref x6, .ref x7, .ref x8, .int 0, .int 3000])), (o0, .inl (kA 1, 1, .inr (.inl (vp_updL (fun _ => 0) 0 (n_cut (xs 2) (n_combine (xs 1) 0 (n_cut (xs 2) ((((xs 4).toInt64) <<< ((32 : Int32).toInt64 &&& 63)) ||| (((xs 5).toInt64) &&& 4294967295))) (n_cut (xs 3) ((((xs 6).toInt64) <<< ((32 : Int32).toInt64 &&& 63)) ||| (((xs 7).toInt64) &&& 4294967295))))))))), (m0, .inr (11, y0.set 9 (.int 0)))] H := hP
    have hD : va_D A [(h0, .inr (10, [.ref x0, .int 0, .ref x1, .ref x2, .ref x3, .ref x4, .ref x5, .ref x6, .ref x7, .ref x8, .int 0, .int 3000])), (o0, .inl (kA 1, 1, .inr (.inl (vp_updL (fun _ => 0) 0 (n_cut (xs 2) (n_combine (xs 1) 0 (n_cut (xs 2) ((((xs 4).toInt64) <<< ((32 : Int32).toInt64 &&& 63)) ||| (((xs 5).toInt64) &&& 4294967295))) (n_cut (xs 3) ((((xs 6).toInt64) <<< ((32 : Int32).toInt64 &&& 63)) ||| (((xs 7).toInt64) &&& 4294967295))))))))), (m0, .inr (11, y0.set 9 (.int 0)))] := hD
    refine lv_lstore (lv' := [(6, .long (n_cut (xs 2) (r_two 235 0 (n_cut (xs 2) ((((xs 4).toInt64) <<< ((32 : Int32).toInt64 &&& 63)) ||| (((xs 5).toInt64) &&& 4294967295))) (n_cut (xs 3) ((((xs 6).toInt64) <<< ((32 : Int32).toInt64 &&& 63)) ||| (((xs 7).toInt64) &&& 4294967295)))))), (5, .int 0), (0, .ref b), (1, .ref h0), (2, .ref m0), (3, .ref o0), (4, .int 0)]) hx hb dL_law_1601 hl (by decide) rfl (fun ls hl => ?_)
    refine lv_aload_n hx hb dL_law_1603 rfl (lv_at hl 4 rfl) ?_
    have hPc := hP.sub (ws' := [(m0, .inr (11, y0.set 9 (.int 0)))]) [2] rfl
    have hDc := hD.sub (ws' := [(m0, .inr (11, y0.set 9 (.int 0)))]) [2] (by decide) rfl
    have hFc := va_free (wc := [(m0, .inr (11, y0.set 9 (.int 0)))]) hD hS hA [2] rfl
    refine va_calli (va_runV (As := []) (rest := []) ⟨hx, hb, hml, hown, hts⟩ (a94_X12_thrown l  D kA V H.size m0 (y0.set 9 (.int 0)) (fun k hk => (by rw [List.length_set]; exact (hq k hk))) (List.getElem?_set_self (hq 9 (by decide)))) (cwV 0 hts (gw_V gw_1879 gw_1880 gw_1881 gw_16 gw_1882) rfl rfl rfl (by decide +kernel) ⟨(Nat.le_of_ble_eq_true rfl), (Nat.le_of_ble_eq_true rfl)⟩) ⟨aP.blind, va_recv hK hP (ci := 11) (q0 := 2) rfl rfl, aP.pre hE hS hPc hK hDc hFc⟩ rfl rfl hl.1 rfl (lv_room (Nat.le_of_ble_eq_true rfl)) dL_law_1604 ⟨(Nat.le_of_ble_eq_true rfl), (Nat.le_of_ble_eq_true rfl)⟩) hS (fun q _ h => hFc q h) hFc (fun r_100786 u t H1 locs ht hvm hw hB hz1 hk1 hS => ?_)
    obtain ⟨hP1, hD1⟩ := hB
    rw [ht] at hP1
    try dsimp only at hw hP1 hD1
    have w_100787 := hw
    subst w_100787
    obtain ⟨hP, hD⟩ := va_join (wr := [(h0, .inr (10, [.ref x0, .int 0, .ref x1, .ref x2, .ref x3, .ref x4, .ref x5, .ref x6, .ref x7, .ref x8, .int 0, .int 3000])), (o0, .inl (kA 1, 1, .inr (.inl (vp_updL (fun _ => 0) 0 (n_cut (xs 2) (n_combine (xs 1) 0 (n_cut (xs 2) ((((xs 4).toInt64) <<< ((32 : Int32).toInt64 &&& 63)) ||| (((xs 5).toInt64) &&& 4294967295))) (n_cut (xs 3) ((((xs 6).toInt64) <<< ((32 : Int32).toInt64 &&& 63)) ||| (((xs 7).toInt64) &&& 4294967295)))))))))]) (w1 := [(m0, .inr (11, (y0.set 9 (.int 0))))]) hP hD [2] [0, 1] rfl rfl (by decide) (by decide) hk1 hFc hP1 hD1
    generalize H1 = H at hP hS ⊢
    have hP : va_P D vwCl [(h0, .inr (10, [.ref x0, .int 0, .ref x1, .ref x2, .ref x3, .ref x4, .ref x5, .ref x6, .ref x7, .ref x8, .int 0, .int 3000])), (o0, .inl (kA 1, 1, .inr (.inl (vp_updL (fun _ => 0) 0 (n_cut (xs 2) (n_combine (xs 1) 0 (n_cut (xs 2) ((((xs 4).toInt64) <<< ((32 : Int32).toInt64 &&& 63)) ||| (((xs 5).toInt64) &&& 4294967295))) (n_cut (xs 3) ((((xs 6).toInt64) <<< ((32 : Int32).toInt64 &&& 63)) ||| (((xs 7).toInt64) &&& 4294967295))))))))), (m0, .inr (11, (y0.set 9 (.int 0))))] H := hP
    have hD : va_D A [(h0, .inr (10, [.ref x0, .int 0, .ref x1, .ref x2, .ref x3, .ref x4, .ref x5, .ref x6, .ref x7, .ref x8, .int 0, .int 3000])), (o0, .inl (kA 1, 1, .inr (.inl (vp_updL (fun _ => 0) 0 (n_cut (xs 2) (n_combine (xs 1) 0 (n_cut (xs 2) ((((xs 4).toInt64) <<< ((32 : Int32).toInt64 &&& 63)) ||| (((xs 5).toInt64) &&& 4294967295))) (n_cut (xs 3) ((((xs 6).toInt64) <<< ((32 : Int32).toInt64 &&& 63)) ||| (((xs 7).toInt64) &&& 4294967295))))))))), (m0, .inr (11, (y0.set 9 (.int 0))))] := hD
    refine lv_iload hx hb dL_law_1607 (lv_at hl 1 rfl) ?_
    refine lv_icmp_eq (tgt := 1614) hx hb dL_law_1609 (by decide) (fun c_100788 => ?_) (fun c_100788 => ?_)
    · skip
      refine lv_iload hx hb dL_law_1614 (lv_at hl 1 rfl) ?_
      refine lv_if_ne (tgt := 1630) hx hb dL_law_1616 (by decide) (fun c_100789 => ?_) (fun c_100789 => ?_)
      · exact absurd (by decide) c_100789
      · skip
        refine lv_aload_n hx hb dL_law_1619 rfl (lv_at hl 5 rfl) ?_
        refine lv_iconst (v := 0) hx hb dL_law_1620 (by decide) ?_
        refine va_lald hx hb hK hP 1 1 rfl rfl (show vp_in 0 1 by unfold vp_in; decide) dL_law_1621 ?_
        refine W.eq (g2 := F0 m 1622 ls [.long (n_cut (xs 2) (n_combine (xs 1) 0 (n_cut (xs 2) ((((xs 4).toInt64) <<< ((32 : Int32).toInt64 &&& 63)) ||| (((xs 5).toInt64) &&& 4294967295))) (n_cut (xs 3) ((((xs 6).toInt64) <<< ((32 : Int32).toInt64 &&& 63)) ||| (((xs 7).toInt64) &&& 4294967295)))))]) rfl ?_
        refine lv_lload hx hb dL_law_1622 (lv_at hl 0 rfl) ?_
        refine W.lcmp hx hb dL_law_1624 ?_
        refine lv_if_eq (tgt := 1630) hx hb dL_law_1625 (by decide) (fun c_100790 => ?_) (fun c_100790 => ?_)
        · skip
          refine lv_goto (tgt := 1804) hx hb dL_law_1630 (by decide) ?_
          exact lk_tail hC hA2 (lv_sub hl [2, 6] rfl) hS (Nat.le_of_ble_eq_true rfl) (Nat.le_of_ble_eq_true rfl)
        · exact absurd ((lg_cmp_eq _ _).mpr (qx_w0 c_82 c_100345 c_78 c_79 c_85 c_80 c_81 (fun _ => c_87) (fun q => c_84 q.2) (by rw [c_100356]; decide))) c_100790
    · exact absurd (by decide) c_100788
  · exact absurd hz.2.2.2.2.2.2.2.2.2.2.2.2.2.2.2.2.2.1 c_87
  · exact absurd hz.2.2.2.2.2.2.2.2.2.2.2.2.2.2.1 c_85
  · obtain ⟨c_100401, c_100402, c_100403, c_100404, c_100405, c_100406, c_100407, c_100408, c_100409, c_100410, c_100411, c_100412, c_100413, c_100414, c_100415, c_100416, c_100417, w_100418, w_100419⟩ := hz
    subst w_100418
    subst w_100419
    obtain ⟨hP, hD⟩ := va_join (wr := [(h0, .inr (10, [.ref x0, .int 0, .ref x1, .ref x2, .ref x3, .ref x4, .ref x5, .ref x6, .ref x7, .ref x8, .int 0, .int 3000])), (o0, .inl (kA 1, 1, .inr (.inl (vp_updL (fun _ => 0) 0 (n_cut (xs 2) (n_combine (xs 1) 0 (n_cut (xs 2) ((((xs 4).toInt64) <<< ((32 : Int32).toInt64 &&& 63)) ||| (((xs 5).toInt64) &&& 4294967295))) (n_cut (xs 3) ((((xs 6).toInt64) <<< ((32 : Int32).toInt64 &&& 63)) ||| (((xs 7).toInt64) &&& 4294967295)))))))))]) (w1 := [(m0, .inr (11, y0.set 9 (.int 0)))]) hP hD [0] [1, 2] rfl rfl (by decide) (by decide) hk1 hFc hP1 hD1
    generalize H1 = H at hP hS ⊢
    have hP : va_P D vwCl [(h0, .inr (10, [.ref x0, .int 0, .ref x1, .ref x2, .ref x3, .ref x4, .ref x5, .ref x6, .ref x7, .ref x8, .int 0, .int 3000])), (o0, .inl (kA 1, 1, .inr (.inl (vp_updL (fun _ => 0) 0 (n_cut (xs 2) (n_combine (xs 1) 0 (n_cut (xs 2) ((((xs 4).toInt64) <<< ((32 : Int32).toInt64 &&& 63)) ||| (((xs 5).toInt64) &&& 4294967295))) (n_cut (xs 3) ((((xs 6).toInt64) <<< ((32 : Int32).toInt64 &&& 63)) ||| (((xs 7).toInt64) &&& 4294967295))))))))), (m0, .inr (11, y0.set 9 (.int 0)))] H := hP
    have hD : va_D A [(h0, .inr (10, [.ref x0, .int 0, .ref x1, .ref x2, .ref x3, .ref x4, .ref x5, .ref x6, .ref x7, .ref x8, .int 0, .int 3000])), (o0, .inl (kA 1, 1, .inr (.inl (vp_updL (fun _ => 0) 0 (n_cut (xs 2) (n_combine (xs 1) 0 (n_cut (xs 2) ((((xs 4).toInt64) <<< ((32 : Int32).toInt64 &&& 63)) ||| (((xs 5).toInt64) &&& 4294967295))) (n_cut (xs 3) ((((xs 6).toInt64) <<< ((32 : Int32).toInt64 &&& 63)) ||| (((xs 7).toInt64) &&& 4294967295))))))))), (m0, .inr (11, y0.set 9 (.int 0)))] := hD
    refine lv_lstore (lv' := [(6, .long (n_cut (xs 2) (r_two 237 0 (n_cut (xs 2) ((((xs 4).toInt64) <<< ((32 : Int32).toInt64 &&& 63)) ||| (((xs 5).toInt64) &&& 4294967295))) (n_cut (xs 3) ((((xs 6).toInt64) <<< ((32 : Int32).toInt64 &&& 63)) ||| (((xs 7).toInt64) &&& 4294967295)))))), (5, .int 0), (0, .ref b), (1, .ref h0), (2, .ref m0), (3, .ref o0), (4, .int 0)]) hx hb dL_law_1601 hl (by decide) rfl (fun ls hl => ?_)
    refine lv_aload_n hx hb dL_law_1603 rfl (lv_at hl 4 rfl) ?_
    have hPc := hP.sub (ws' := [(m0, .inr (11, y0.set 9 (.int 0)))]) [2] rfl
    have hDc := hD.sub (ws' := [(m0, .inr (11, y0.set 9 (.int 0)))]) [2] (by decide) rfl
    have hFc := va_free (wc := [(m0, .inr (11, y0.set 9 (.int 0)))]) hD hS hA [2] rfl
    refine va_calli (va_runV (As := []) (rest := []) ⟨hx, hb, hml, hown, hts⟩ (a94_X12_thrown l  D kA V H.size m0 (y0.set 9 (.int 0)) (fun k hk => (by rw [List.length_set]; exact (hq k hk))) (List.getElem?_set_self (hq 9 (by decide)))) (cwV 0 hts (gw_V gw_1879 gw_1880 gw_1881 gw_16 gw_1882) rfl rfl rfl (by decide +kernel) ⟨(Nat.le_of_ble_eq_true rfl), (Nat.le_of_ble_eq_true rfl)⟩) ⟨aP.blind, va_recv hK hP (ci := 11) (q0 := 2) rfl rfl, aP.pre hE hS hPc hK hDc hFc⟩ rfl rfl hl.1 rfl (lv_room (Nat.le_of_ble_eq_true rfl)) dL_law_1604 ⟨(Nat.le_of_ble_eq_true rfl), (Nat.le_of_ble_eq_true rfl)⟩) hS (fun q _ h => hFc q h) hFc (fun r_100791 u t H1 locs ht hvm hw hB hz1 hk1 hS => ?_)
    obtain ⟨hP1, hD1⟩ := hB
    rw [ht] at hP1
    try dsimp only at hw hP1 hD1
    have w_100792 := hw
    subst w_100792
    obtain ⟨hP, hD⟩ := va_join (wr := [(h0, .inr (10, [.ref x0, .int 0, .ref x1, .ref x2, .ref x3, .ref x4, .ref x5, .ref x6, .ref x7, .ref x8, .int 0, .int 3000])), (o0, .inl (kA 1, 1, .inr (.inl (vp_updL (fun _ => 0) 0 (n_cut (xs 2) (n_combine (xs 1) 0 (n_cut (xs 2) ((((xs 4).toInt64) <<< ((32 : Int32).toInt64 &&& 63)) ||| (((xs 5).toInt64) &&& 4294967295))) (n_cut (xs 3) ((((xs 6).toInt64) <<< ((32 : Int32).toInt64 &&& 63)) ||| (((xs 7).toInt64) &&& 4294967295)))))))))]) (w1 := [(m0, .inr (11, (y0.set 9 (.int 0))))]) hP hD [2] [0, 1] rfl rfl (by decide) (by decide) hk1 hFc hP1 hD1
    generalize H1 = H at hP hS ⊢
    have hP : va_P D vwCl [(h0, .inr (10, [.ref x0, .int 0, .ref x1, .ref x2, .ref x3, .ref x4, .ref x5, .ref x6, .ref x7, .ref x8, .int 0, .int 3000])), (o0, .inl (kA 1, 1, .inr (.inl (vp_updL (fun _ => 0) 0 (n_cut (xs 2) (n_combine (xs 1) 0 (n_cut (xs 2) ((((xs 4).toInt64) <<< ((32 : Int32).toInt64 &&& 63)) ||| (((xs 5).toInt64) &&& 4294967295))) (n_cut (xs 3) ((((xs 6).toInt64) <<< ((32 : Int32).toInt64 &&& 63)) ||| (((xs 7).toInt64) &&& 4294967295))))))))), (m0, .inr (11, (y0.set 9 (.int 0))))] H := hP
    have hD : va_D A [(h0, .inr (10, [.ref x0, .int 0, .ref x1, .ref x2, .ref x3, .ref x4, .ref x5, .ref x6, .ref x7, .ref x8, .int 0, .int 3000])), (o0, .inl (kA 1, 1, .inr (.inl (vp_updL (fun _ => 0) 0 (n_cut (xs 2) (n_combine (xs 1) 0 (n_cut (xs 2) ((((xs 4).toInt64) <<< ((32 : Int32).toInt64 &&& 63)) ||| (((xs 5).toInt64) &&& 4294967295))) (n_cut (xs 3) ((((xs 6).toInt64) <<< ((32 : Int32).toInt64 &&& 63)) ||| (((xs 7).toInt64) &&& 4294967295))))))))), (m0, .inr (11, (y0.set 9 (.int 0))))] := hD
    refine lv_iload hx hb dL_law_1607 (lv_at hl 1 rfl) ?_
    refine lv_icmp_eq (tgt := 1614) hx hb dL_law_1609 (by decide) (fun c_100793 => ?_) (fun c_100793 => ?_)
    · skip
      refine lv_iload hx hb dL_law_1614 (lv_at hl 1 rfl) ?_
      refine lv_if_ne (tgt := 1630) hx hb dL_law_1616 (by decide) (fun c_100794 => ?_) (fun c_100794 => ?_)
      · exact absurd (by decide) c_100794
      · skip
        refine lv_aload_n hx hb dL_law_1619 rfl (lv_at hl 5 rfl) ?_
        refine lv_iconst (v := 0) hx hb dL_law_1620 (by decide) ?_
        refine va_lald hx hb hK hP 1 1 rfl rfl (show vp_in 0 1 by unfold vp_in; decide) dL_law_1621 ?_
        refine W.eq (g2 := F0 m 1622 ls [.long (n_cut (xs 2) (n_combine (xs 1) 0 (n_cut (xs 2) ((((xs 4).toInt64) <<< ((32 : Int32).toInt64 &&& 63)) ||| (((xs 5).toInt64) &&& 4294967295))) (n_cut (xs 3) ((((xs 6).toInt64) <<< ((32 : Int32).toInt64 &&& 63)) ||| (((xs 7).toInt64) &&& 4294967295)))))]) rfl ?_
        refine lv_lload hx hb dL_law_1622 (lv_at hl 0 rfl) ?_
        refine W.lcmp hx hb dL_law_1624 ?_
        refine lv_if_eq (tgt := 1630) hx hb dL_law_1625 (by decide) (fun c_100795 => ?_) (fun c_100795 => ?_)
        · skip
          refine lv_goto (tgt := 1804) hx hb dL_law_1630 (by decide) ?_
          exact lk_tail hC hA2 (lv_sub hl [2, 6] rfl) hS (Nat.le_of_ble_eq_true rfl) (Nat.le_of_ble_eq_true rfl)
        · exact absurd ((lg_cmp_eq _ _).mpr (qx_w0 c_82 c_100402 c_78 c_79 c_85 c_80 c_81 (fun _ => c_87) (fun q => c_84 q.2) (by rw [c_100412]; decide))) c_100795
    · exact absurd (by decide) c_100793
  · exact absurd hz.2.2.2.2.2.2.2.2.2.2.2.2.2.2.2.2.1 c_87
  · exact absurd hz.2.2.2.2.2.2.2.2.2.2.2.2.2.2.1 c_85
  · obtain ⟨c_100456, c_100457, c_100458, c_100459, c_100460, c_100461, c_100462, c_100463, c_100464, c_100465, c_100466, c_100467, c_100468, c_100469, c_100470, c_100471, c_100472, w_100473, w_100474⟩ := hz
    subst w_100473
    subst w_100474
    obtain ⟨hP, hD⟩ := va_join (wr := [(h0, .inr (10, [.ref x0, .int 0, .ref x1, .ref x2, .ref x3, .ref x4, .ref x5, .ref x6, .ref x7, .ref x8, .int 0, .int 3000])), (o0, .inl (kA 1, 1, .inr (.inl (vp_updL (fun _ => 0) 0 (n_cut (xs 2) (n_combine (xs 1) 0 (n_cut (xs 2) ((((xs 4).toInt64) <<< ((32 : Int32).toInt64 &&& 63)) ||| (((xs 5).toInt64) &&& 4294967295))) (n_cut (xs 3) ((((xs 6).toInt64) <<< ((32 : Int32).toInt64 &&& 63)) ||| (((xs 7).toInt64) &&& 4294967295)))))))))]) (w1 := [(m0, .inr (11, y0.set 9 (.int 0)))]) hP hD [0] [1, 2] rfl rfl (by decide) (by decide) hk1 hFc hP1 hD1
    generalize H1 = H at hP hS ⊢
    have hP : va_P D vwCl [(h0, .inr (10, [.ref x0, .int 0, .ref x1, .ref x2, .ref x3, .ref x4, .ref x5, .ref x6, .ref x7, .ref x8, .int 0, .int 3000])), (o0, .inl (kA 1, 1, .inr (.inl (vp_updL (fun _ => 0) 0 (n_cut (xs 2) (n_combine (xs 1) 0 (n_cut (xs 2) ((((xs 4).toInt64) <<< ((32 : Int32).toInt64 &&& 63)) ||| (((xs 5).toInt64) &&& 4294967295))) (n_cut (xs 3) ((((xs 6).toInt64) <<< ((32 : Int32).toInt64 &&& 63)) ||| (((xs 7).toInt64) &&& 4294967295))))))))), (m0, .inr (11, y0.set 9 (.int 0)))] H := hP
    have hD : va_D A [(h0, .inr (10, [.ref x0, .int 0, .ref x1, .ref x2, .ref x3, .ref x4, .ref x5, .ref x6, .ref x7, .ref x8, .int 0, .int 3000])), (o0, .inl (kA 1, 1, .inr (.inl (vp_updL (fun _ => 0) 0 (n_cut (xs 2) (n_combine (xs 1) 0 (n_cut (xs 2) ((((xs 4).toInt64) <<< ((32 : Int32).toInt64 &&& 63)) ||| (((xs 5).toInt64) &&& 4294967295))) (n_cut (xs 3) ((((xs 6).toInt64) <<< ((32 : Int32).toInt64 &&& 63)) ||| (((xs 7).toInt64) &&& 4294967295))))))))), (m0, .inr (11, y0.set 9 (.int 0)))] := hD
    refine lv_lstore (lv' := [(6, .long (n_cut (xs 2) (r_two 244 0 (n_cut (xs 2) ((((xs 4).toInt64) <<< ((32 : Int32).toInt64 &&& 63)) ||| (((xs 5).toInt64) &&& 4294967295))) (n_cut (xs 3) ((((xs 6).toInt64) <<< ((32 : Int32).toInt64 &&& 63)) ||| (((xs 7).toInt64) &&& 4294967295)))))), (5, .int 0), (0, .ref b), (1, .ref h0), (2, .ref m0), (3, .ref o0), (4, .int 0)]) hx hb dL_law_1601 hl (by decide) rfl (fun ls hl => ?_)
    refine lv_aload_n hx hb dL_law_1603 rfl (lv_at hl 4 rfl) ?_
    have hPc := hP.sub (ws' := [(m0, .inr (11, y0.set 9 (.int 0)))]) [2] rfl
    have hDc := hD.sub (ws' := [(m0, .inr (11, y0.set 9 (.int 0)))]) [2] (by decide) rfl
    have hFc := va_free (wc := [(m0, .inr (11, y0.set 9 (.int 0)))]) hD hS hA [2] rfl
    refine va_calli (va_runV (As := []) (rest := []) ⟨hx, hb, hml, hown, hts⟩ (a94_X12_thrown l  D kA V H.size m0 (y0.set 9 (.int 0)) (fun k hk => (by rw [List.length_set]; exact (hq k hk))) (List.getElem?_set_self (hq 9 (by decide)))) (cwV 0 hts (gw_V gw_1879 gw_1880 gw_1881 gw_16 gw_1882) rfl rfl rfl (by decide +kernel) ⟨(Nat.le_of_ble_eq_true rfl), (Nat.le_of_ble_eq_true rfl)⟩) ⟨aP.blind, va_recv hK hP (ci := 11) (q0 := 2) rfl rfl, aP.pre hE hS hPc hK hDc hFc⟩ rfl rfl hl.1 rfl (lv_room (Nat.le_of_ble_eq_true rfl)) dL_law_1604 ⟨(Nat.le_of_ble_eq_true rfl), (Nat.le_of_ble_eq_true rfl)⟩) hS (fun q _ h => hFc q h) hFc (fun r_100796 u t H1 locs ht hvm hw hB hz1 hk1 hS => ?_)
    obtain ⟨hP1, hD1⟩ := hB
    rw [ht] at hP1
    try dsimp only at hw hP1 hD1
    have w_100797 := hw
    subst w_100797
    obtain ⟨hP, hD⟩ := va_join (wr := [(h0, .inr (10, [.ref x0, .int 0, .ref x1, .ref x2, .ref x3, .ref x4, .ref x5, .ref x6, .ref x7, .ref x8, .int 0, .int 3000])), (o0, .inl (kA 1, 1, .inr (.inl (vp_updL (fun _ => 0) 0 (n_cut (xs 2) (n_combine (xs 1) 0 (n_cut (xs 2) ((((xs 4).toInt64) <<< ((32 : Int32).toInt64 &&& 63)) ||| (((xs 5).toInt64) &&& 4294967295))) (n_cut (xs 3) ((((xs 6).toInt64) <<< ((32 : Int32).toInt64 &&& 63)) ||| (((xs 7).toInt64) &&& 4294967295)))))))))]) (w1 := [(m0, .inr (11, (y0.set 9 (.int 0))))]) hP hD [2] [0, 1] rfl rfl (by decide) (by decide) hk1 hFc hP1 hD1
    generalize H1 = H at hP hS ⊢
    have hP : va_P D vwCl [(h0, .inr (10, [.ref x0, .int 0, .ref x1, .ref x2, .ref x3, .ref x4, .ref x5, .ref x6, .ref x7, .ref x8, .int 0, .int 3000])), (o0, .inl (kA 1, 1, .inr (.inl (vp_updL (fun _ => 0) 0 (n_cut (xs 2) (n_combine (xs 1) 0 (n_cut (xs 2) ((((xs 4).toInt64) <<< ((32 : Int32).toInt64 &&& 63)) ||| (((xs 5).toInt64) &&& 4294967295))) (n_cut (xs 3) ((((xs 6).toInt64) <<< ((32 : Int32).toInt64 &&& 63)) ||| (((xs 7).toInt64) &&& 4294967295))))))))), (m0, .inr (11, (y0.set 9 (.int 0))))] H := hP
    have hD : va_D A [(h0, .inr (10, [.ref x0, .int 0, .ref x1, .ref x2, .ref x3, .ref x4, .ref x5, .ref x6, .ref x7, .ref x8, .int 0, .int 3000])), (o0, .inl (kA 1, 1, .inr (.inl (vp_updL (fun _ => 0) 0 (n_cut (xs 2) (n_combine (xs 1) 0 (n_cut (xs 2) ((((xs 4).toInt64) <<< ((32 : Int32).toInt64 &&& 63)) ||| (((xs 5).toInt64) &&& 4294967295))) (n_cut (xs 3) ((((xs 6).toInt64) <<< ((32 : Int32).toInt64 &&& 63)) ||| (((xs 7).toInt64) &&& 4294967295))))))))), (m0, .inr (11, (y0.set 9 (.int 0))))] := hD
    refine lv_iload hx hb dL_law_1607 (lv_at hl 1 rfl) ?_
    refine lv_icmp_eq (tgt := 1614) hx hb dL_law_1609 (by decide) (fun c_100798 => ?_) (fun c_100798 => ?_)
    · skip
      refine lv_iload hx hb dL_law_1614 (lv_at hl 1 rfl) ?_
      refine lv_if_ne (tgt := 1630) hx hb dL_law_1616 (by decide) (fun c_100799 => ?_) (fun c_100799 => ?_)
      · exact absurd (by decide) c_100799
      · skip
        refine lv_aload_n hx hb dL_law_1619 rfl (lv_at hl 5 rfl) ?_
        refine lv_iconst (v := 0) hx hb dL_law_1620 (by decide) ?_
        refine va_lald hx hb hK hP 1 1 rfl rfl (show vp_in 0 1 by unfold vp_in; decide) dL_law_1621 ?_
        refine W.eq (g2 := F0 m 1622 ls [.long (n_cut (xs 2) (n_combine (xs 1) 0 (n_cut (xs 2) ((((xs 4).toInt64) <<< ((32 : Int32).toInt64 &&& 63)) ||| (((xs 5).toInt64) &&& 4294967295))) (n_cut (xs 3) ((((xs 6).toInt64) <<< ((32 : Int32).toInt64 &&& 63)) ||| (((xs 7).toInt64) &&& 4294967295)))))]) rfl ?_
        refine lv_lload hx hb dL_law_1622 (lv_at hl 0 rfl) ?_
        refine W.lcmp hx hb dL_law_1624 ?_
        refine lv_if_eq (tgt := 1630) hx hb dL_law_1625 (by decide) (fun c_100800 => ?_) (fun c_100800 => ?_)
        · skip
          refine lv_goto (tgt := 1804) hx hb dL_law_1630 (by decide) ?_
          exact lk_tail hC hA2 (lv_sub hl [2, 6] rfl) hS (Nat.le_of_ble_eq_true rfl) (Nat.le_of_ble_eq_true rfl)
        · exact absurd ((lg_cmp_eq _ _).mpr (qx_w0 c_82 c_100457 c_78 c_79 c_85 c_80 c_81 (fun _ => c_87) (fun q => c_84 q.2) (by rw [c_100466]; decide))) c_100800
    · exact absurd (by decide) c_100798
  · exact absurd hz.2.2.2.2.2.2.2.2.2.2.2.2.2.2.2.2.1 c_87
  · exact absurd hz.2.2.2.2.2.2.2.2.2.2.2.2.2.1 c_84
  · exact absurd hz.2.2.2.2.2.2.2.2.2.2.2.2.2.1 c_84
  · exact absurd hz.2.2.2.2.2.2.2.2.2.2.2.2.2.1 c_84
  · exact absurd hz.2.2.2.2.2.2.2.2.2.2.2.2.1 c_85
  · obtain ⟨c_100564, c_100565, c_100566, c_100567, c_100568, c_100569, c_100570, c_100571, c_100572, c_100573, c_100574, c_100575, c_100576, c_100577, c_100578, w_100579, w_100580⟩ := hz
    subst w_100579
    subst w_100580
    obtain ⟨hP, hD⟩ := va_join (wr := [(h0, .inr (10, [.ref x0, .int 0, .ref x1, .ref x2, .ref x3, .ref x4, .ref x5, .ref x6, .ref x7, .ref x8, .int 0, .int 3000])), (o0, .inl (kA 1, 1, .inr (.inl (vp_updL (fun _ => 0) 0 (n_cut (xs 2) (n_combine (xs 1) 0 (n_cut (xs 2) ((((xs 4).toInt64) <<< ((32 : Int32).toInt64 &&& 63)) ||| (((xs 5).toInt64) &&& 4294967295))) (n_cut (xs 3) ((((xs 6).toInt64) <<< ((32 : Int32).toInt64 &&& 63)) ||| (((xs 7).toInt64) &&& 4294967295)))))))))]) (w1 := [(m0, .inr (11, y0.set 9 (.int 0)))]) hP hD [0] [1, 2] rfl rfl (by decide) (by decide) hk1 hFc hP1 hD1
    generalize H1 = H at hP hS ⊢
    have hP : va_P D vwCl [(h0, .inr (10, [.ref x0, .int 0, .ref x1, .ref x2, .ref x3, .ref x4, .ref x5, .ref x6, .ref x7, .ref x8, .int 0, .int 3000])), (o0, .inl (kA 1, 1, .inr (.inl (vp_updL (fun _ => 0) 0 (n_cut (xs 2) (n_combine (xs 1) 0 (n_cut (xs 2) ((((xs 4).toInt64) <<< ((32 : Int32).toInt64 &&& 63)) ||| (((xs 5).toInt64) &&& 4294967295))) (n_cut (xs 3) ((((xs 6).toInt64) <<< ((32 : Int32).toInt64 &&& 63)) ||| (((xs 7).toInt64) &&& 4294967295))))))))), (m0, .inr (11, y0.set 9 (.int 0)))] H := hP
    have hD : va_D A [(h0, .inr (10, [.ref x0, .int 0, .ref x1, .ref x2, .ref x3, .ref x4, .ref x5, .ref x6, .ref x7, .ref x8, .int 0, .int 3000])), (o0, .inl (kA 1, 1, .inr (.inl (vp_updL (fun _ => 0) 0 (n_cut (xs 2) (n_combine (xs 1) 0 (n_cut (xs 2) ((((xs 4).toInt64) <<< ((32 : Int32).toInt64 &&& 63)) ||| (((xs 5).toInt64) &&& 4294967295))) (n_cut (xs 3) ((((xs 6).toInt64) <<< ((32 : Int32).toInt64 &&& 63)) ||| (((xs 7).toInt64) &&& 4294967295))))))))), (m0, .inr (11, y0.set 9 (.int 0)))] := hD
    refine lv_lstore (lv' := [(6, .long (n_cut (xs 2) (r_two 243 0 (n_cut (xs 2) ((((xs 4).toInt64) <<< ((32 : Int32).toInt64 &&& 63)) ||| (((xs 5).toInt64) &&& 4294967295))) (n_cut (xs 3) ((((xs 6).toInt64) <<< ((32 : Int32).toInt64 &&& 63)) ||| (((xs 7).toInt64) &&& 4294967295)))))), (5, .int 0), (0, .ref b), (1, .ref h0), (2, .ref m0), (3, .ref o0), (4, .int 0)]) hx hb dL_law_1601 hl (by decide) rfl (fun ls hl => ?_)
    refine lv_aload_n hx hb dL_law_1603 rfl (lv_at hl 4 rfl) ?_
    have hPc := hP.sub (ws' := [(m0, .inr (11, y0.set 9 (.int 0)))]) [2] rfl
    have hDc := hD.sub (ws' := [(m0, .inr (11, y0.set 9 (.int 0)))]) [2] (by decide) rfl
    have hFc := va_free (wc := [(m0, .inr (11, y0.set 9 (.int 0)))]) hD hS hA [2] rfl
    refine va_calli (va_runV (As := []) (rest := []) ⟨hx, hb, hml, hown, hts⟩ (a94_X12_thrown l  D kA V H.size m0 (y0.set 9 (.int 0)) (fun k hk => (by rw [List.length_set]; exact (hq k hk))) (List.getElem?_set_self (hq 9 (by decide)))) (cwV 0 hts (gw_V gw_1879 gw_1880 gw_1881 gw_16 gw_1882) rfl rfl rfl (by decide +kernel) ⟨(Nat.le_of_ble_eq_true rfl), (Nat.le_of_ble_eq_true rfl)⟩) ⟨aP.blind, va_recv hK hP (ci := 11) (q0 := 2) rfl rfl, aP.pre hE hS hPc hK hDc hFc⟩ rfl rfl hl.1 rfl (lv_room (Nat.le_of_ble_eq_true rfl)) dL_law_1604 ⟨(Nat.le_of_ble_eq_true rfl), (Nat.le_of_ble_eq_true rfl)⟩) hS (fun q _ h => hFc q h) hFc (fun r_100801 u t H1 locs ht hvm hw hB hz1 hk1 hS => ?_)
    obtain ⟨hP1, hD1⟩ := hB
    rw [ht] at hP1
    try dsimp only at hw hP1 hD1
    have w_100802 := hw
    subst w_100802
    obtain ⟨hP, hD⟩ := va_join (wr := [(h0, .inr (10, [.ref x0, .int 0, .ref x1, .ref x2, .ref x3, .ref x4, .ref x5, .ref x6, .ref x7, .ref x8, .int 0, .int 3000])), (o0, .inl (kA 1, 1, .inr (.inl (vp_updL (fun _ => 0) 0 (n_cut (xs 2) (n_combine (xs 1) 0 (n_cut (xs 2) ((((xs 4).toInt64) <<< ((32 : Int32).toInt64 &&& 63)) ||| (((xs 5).toInt64) &&& 4294967295))) (n_cut (xs 3) ((((xs 6).toInt64) <<< ((32 : Int32).toInt64 &&& 63)) ||| (((xs 7).toInt64) &&& 4294967295)))))))))]) (w1 := [(m0, .inr (11, (y0.set 9 (.int 0))))]) hP hD [2] [0, 1] rfl rfl (by decide) (by decide) hk1 hFc hP1 hD1
    generalize H1 = H at hP hS ⊢
    have hP : va_P D vwCl [(h0, .inr (10, [.ref x0, .int 0, .ref x1, .ref x2, .ref x3, .ref x4, .ref x5, .ref x6, .ref x7, .ref x8, .int 0, .int 3000])), (o0, .inl (kA 1, 1, .inr (.inl (vp_updL (fun _ => 0) 0 (n_cut (xs 2) (n_combine (xs 1) 0 (n_cut (xs 2) ((((xs 4).toInt64) <<< ((32 : Int32).toInt64 &&& 63)) ||| (((xs 5).toInt64) &&& 4294967295))) (n_cut (xs 3) ((((xs 6).toInt64) <<< ((32 : Int32).toInt64 &&& 63)) ||| (((xs 7).toInt64) &&& 4294967295))))))))), (m0, .inr (11, (y0.set 9 (.int 0))))] H := hP
    have hD : va_D A [(h0, .inr (10, [.ref x0, .int 0, .ref x1, .ref x2, .ref x3, .ref x4, .ref x5, .ref x6, .ref x7, .ref x8, .int 0, .int 3000])), (o0, .inl (kA 1, 1, .inr (.inl (vp_updL (fun _ => 0) 0 (n_cut (xs 2) (n_combine (xs 1) 0 (n_cut (xs 2) ((((xs 4).toInt64) <<< ((32 : Int32).toInt64 &&& 63)) ||| (((xs 5).toInt64) &&& 4294967295))) (n_cut (xs 3) ((((xs 6).toInt64) <<< ((32 : Int32).toInt64 &&& 63)) ||| (((xs 7).toInt64) &&& 4294967295))))))))), (m0, .inr (11, (y0.set 9 (.int 0))))] := hD
    refine lv_iload hx hb dL_law_1607 (lv_at hl 1 rfl) ?_
    refine lv_icmp_eq (tgt := 1614) hx hb dL_law_1609 (by decide) (fun c_100803 => ?_) (fun c_100803 => ?_)
    · skip
      refine lv_iload hx hb dL_law_1614 (lv_at hl 1 rfl) ?_
      refine lv_if_ne (tgt := 1630) hx hb dL_law_1616 (by decide) (fun c_100804 => ?_) (fun c_100804 => ?_)
      · exact absurd (by decide) c_100804
      · skip
        refine lv_aload_n hx hb dL_law_1619 rfl (lv_at hl 5 rfl) ?_
        refine lv_iconst (v := 0) hx hb dL_law_1620 (by decide) ?_
        refine va_lald hx hb hK hP 1 1 rfl rfl (show vp_in 0 1 by unfold vp_in; decide) dL_law_1621 ?_
        refine W.eq (g2 := F0 m 1622 ls [.long (n_cut (xs 2) (n_combine (xs 1) 0 (n_cut (xs 2) ((((xs 4).toInt64) <<< ((32 : Int32).toInt64 &&& 63)) ||| (((xs 5).toInt64) &&& 4294967295))) (n_cut (xs 3) ((((xs 6).toInt64) <<< ((32 : Int32).toInt64 &&& 63)) ||| (((xs 7).toInt64) &&& 4294967295)))))]) rfl ?_
        refine lv_lload hx hb dL_law_1622 (lv_at hl 0 rfl) ?_
        refine W.lcmp hx hb dL_law_1624 ?_
        refine lv_if_eq (tgt := 1630) hx hb dL_law_1625 (by decide) (fun c_100805 => ?_) (fun c_100805 => ?_)
        · skip
          refine lv_goto (tgt := 1804) hx hb dL_law_1630 (by decide) ?_
          exact lk_tail hC hA2 (lv_sub hl [2, 6] rfl) hS (Nat.le_of_ble_eq_true rfl) (Nat.le_of_ble_eq_true rfl)
        · exact absurd ((lg_cmp_eq _ _).mpr (qx_w0 c_82 c_100565 c_78 c_79 c_85 c_80 c_81 (fun _ => c_87) (fun q => c_84 q.2) (by rw [c_100573]; decide))) c_100805
    · exact absurd (by decide) c_100803
  · exact absurd hz.2.2.2.2.2.2.2.2.2.2.2.2.2.2.1 c_87
  · exact absurd hz.2.2.2.2.2.2.2.2.2.2.2.1 c_84
  · exact absurd hz.2.2.2.2.2.2.2.2.2.2.2.1 c_84
  · exact absurd hz.2.2.2.2.2.2.2.2.2.2.2.1 c_84
  · exact absurd hz.2.2.2.2.2.2.2.2.2.2.2.1 c_85
  · obtain ⟨c_100661, c_100662, c_100663, c_100664, c_100665, c_100666, c_100667, c_100668, c_100669, c_100670, c_100671, c_100672, c_100673, c_100674, w_100675, w_100676⟩ := hz
    subst w_100675
    subst w_100676
    obtain ⟨hP, hD⟩ := va_join (wr := [(h0, .inr (10, [.ref x0, .int 0, .ref x1, .ref x2, .ref x3, .ref x4, .ref x5, .ref x6, .ref x7, .ref x8, .int 0, .int 3000])), (o0, .inl (kA 1, 1, .inr (.inl (vp_updL (fun _ => 0) 0 (n_cut (xs 2) (n_combine (xs 1) 0 (n_cut (xs 2) ((((xs 4).toInt64) <<< ((32 : Int32).toInt64 &&& 63)) ||| (((xs 5).toInt64) &&& 4294967295))) (n_cut (xs 3) ((((xs 6).toInt64) <<< ((32 : Int32).toInt64 &&& 63)) ||| (((xs 7).toInt64) &&& 4294967295)))))))))]) (w1 := [(m0, .inr (11, y0.set 9 (.int 0)))]) hP hD [0] [1, 2] rfl rfl (by decide) (by decide) hk1 hFc hP1 hD1
    generalize H1 = H at hP hS ⊢
    have hP : va_P D vwCl [(h0, .inr (10, [.ref x0, .int 0, .ref x1, .ref x2, .ref x3, .ref x4, .ref x5, .ref x6, .ref x7, .ref x8, .int 0, .int 3000])), (o0, .inl (kA 1, 1, .inr (.inl (vp_updL (fun _ => 0) 0 (n_cut (xs 2) (n_combine (xs 1) 0 (n_cut (xs 2) ((((xs 4).toInt64) <<< ((32 : Int32).toInt64 &&& 63)) ||| (((xs 5).toInt64) &&& 4294967295))) (n_cut (xs 3) ((((xs 6).toInt64) <<< ((32 : Int32).toInt64 &&& 63)) ||| (((xs 7).toInt64) &&& 4294967295))))))))), (m0, .inr (11, y0.set 9 (.int 0)))] H := hP
    have hD : va_D A [(h0, .inr (10, [.ref x0, .int 0, .ref x1, .ref x2, .ref x3, .ref x4, .ref x5, .ref x6, .ref x7, .ref x8, .int 0, .int 3000])), (o0, .inl (kA 1, 1, .inr (.inl (vp_updL (fun _ => 0) 0 (n_cut (xs 2) (n_combine (xs 1) 0 (n_cut (xs 2) ((((xs 4).toInt64) <<< ((32 : Int32).toInt64 &&& 63)) ||| (((xs 5).toInt64) &&& 4294967295))) (n_cut (xs 3) ((((xs 6).toInt64) <<< ((32 : Int32).toInt64 &&& 63)) ||| (((xs 7).toInt64) &&& 4294967295))))))))), (m0, .inr (11, y0.set 9 (.int 0)))] := hD
    refine lv_lstore (lv' := [(6, .long (n_cut (xs 2) (r_two 242 0 (n_cut (xs 2) ((((xs 4).toInt64) <<< ((32 : Int32).toInt64 &&& 63)) ||| (((xs 5).toInt64) &&& 4294967295))) (n_cut (xs 3) ((((xs 6).toInt64) <<< ((32 : Int32).toInt64 &&& 63)) ||| (((xs 7).toInt64) &&& 4294967295)))))), (5, .int 0), (0, .ref b), (1, .ref h0), (2, .ref m0), (3, .ref o0), (4, .int 0)]) hx hb dL_law_1601 hl (by decide) rfl (fun ls hl => ?_)
    refine lv_aload_n hx hb dL_law_1603 rfl (lv_at hl 4 rfl) ?_
    have hPc := hP.sub (ws' := [(m0, .inr (11, y0.set 9 (.int 0)))]) [2] rfl
    have hDc := hD.sub (ws' := [(m0, .inr (11, y0.set 9 (.int 0)))]) [2] (by decide) rfl
    have hFc := va_free (wc := [(m0, .inr (11, y0.set 9 (.int 0)))]) hD hS hA [2] rfl
    refine va_calli (va_runV (As := []) (rest := []) ⟨hx, hb, hml, hown, hts⟩ (a94_X12_thrown l  D kA V H.size m0 (y0.set 9 (.int 0)) (fun k hk => (by rw [List.length_set]; exact (hq k hk))) (List.getElem?_set_self (hq 9 (by decide)))) (cwV 0 hts (gw_V gw_1879 gw_1880 gw_1881 gw_16 gw_1882) rfl rfl rfl (by decide +kernel) ⟨(Nat.le_of_ble_eq_true rfl), (Nat.le_of_ble_eq_true rfl)⟩) ⟨aP.blind, va_recv hK hP (ci := 11) (q0 := 2) rfl rfl, aP.pre hE hS hPc hK hDc hFc⟩ rfl rfl hl.1 rfl (lv_room (Nat.le_of_ble_eq_true rfl)) dL_law_1604 ⟨(Nat.le_of_ble_eq_true rfl), (Nat.le_of_ble_eq_true rfl)⟩) hS (fun q _ h => hFc q h) hFc (fun r_100806 u t H1 locs ht hvm hw hB hz1 hk1 hS => ?_)
    obtain ⟨hP1, hD1⟩ := hB
    rw [ht] at hP1
    try dsimp only at hw hP1 hD1
    have w_100807 := hw
    subst w_100807
    obtain ⟨hP, hD⟩ := va_join (wr := [(h0, .inr (10, [.ref x0, .int 0, .ref x1, .ref x2, .ref x3, .ref x4, .ref x5, .ref x6, .ref x7, .ref x8, .int 0, .int 3000])), (o0, .inl (kA 1, 1, .inr (.inl (vp_updL (fun _ => 0) 0 (n_cut (xs 2) (n_combine (xs 1) 0 (n_cut (xs 2) ((((xs 4).toInt64) <<< ((32 : Int32).toInt64 &&& 63)) ||| (((xs 5).toInt64) &&& 4294967295))) (n_cut (xs 3) ((((xs 6).toInt64) <<< ((32 : Int32).toInt64 &&& 63)) ||| (((xs 7).toInt64) &&& 4294967295)))))))))]) (w1 := [(m0, .inr (11, (y0.set 9 (.int 0))))]) hP hD [2] [0, 1] rfl rfl (by decide) (by decide) hk1 hFc hP1 hD1
    generalize H1 = H at hP hS ⊢
    have hP : va_P D vwCl [(h0, .inr (10, [.ref x0, .int 0, .ref x1, .ref x2, .ref x3, .ref x4, .ref x5, .ref x6, .ref x7, .ref x8, .int 0, .int 3000])), (o0, .inl (kA 1, 1, .inr (.inl (vp_updL (fun _ => 0) 0 (n_cut (xs 2) (n_combine (xs 1) 0 (n_cut (xs 2) ((((xs 4).toInt64) <<< ((32 : Int32).toInt64 &&& 63)) ||| (((xs 5).toInt64) &&& 4294967295))) (n_cut (xs 3) ((((xs 6).toInt64) <<< ((32 : Int32).toInt64 &&& 63)) ||| (((xs 7).toInt64) &&& 4294967295))))))))), (m0, .inr (11, (y0.set 9 (.int 0))))] H := hP
    have hD : va_D A [(h0, .inr (10, [.ref x0, .int 0, .ref x1, .ref x2, .ref x3, .ref x4, .ref x5, .ref x6, .ref x7, .ref x8, .int 0, .int 3000])), (o0, .inl (kA 1, 1, .inr (.inl (vp_updL (fun _ => 0) 0 (n_cut (xs 2) (n_combine (xs 1) 0 (n_cut (xs 2) ((((xs 4).toInt64) <<< ((32 : Int32).toInt64 &&& 63)) ||| (((xs 5).toInt64) &&& 4294967295))) (n_cut (xs 3) ((((xs 6).toInt64) <<< ((32 : Int32).toInt64 &&& 63)) ||| (((xs 7).toInt64) &&& 4294967295))))))))), (m0, .inr (11, (y0.set 9 (.int 0))))] := hD
    refine lv_iload hx hb dL_law_1607 (lv_at hl 1 rfl) ?_
    refine lv_icmp_eq (tgt := 1614) hx hb dL_law_1609 (by decide) (fun c_100808 => ?_) (fun c_100808 => ?_)
    · skip
      refine lv_iload hx hb dL_law_1614 (lv_at hl 1 rfl) ?_
      refine lv_if_ne (tgt := 1630) hx hb dL_law_1616 (by decide) (fun c_100809 => ?_) (fun c_100809 => ?_)
      · exact absurd (by decide) c_100809
      · skip
        refine lv_aload_n hx hb dL_law_1619 rfl (lv_at hl 5 rfl) ?_
        refine lv_iconst (v := 0) hx hb dL_law_1620 (by decide) ?_
        refine va_lald hx hb hK hP 1 1 rfl rfl (show vp_in 0 1 by unfold vp_in; decide) dL_law_1621 ?_
        refine W.eq (g2 := F0 m 1622 ls [.long (n_cut (xs 2) (n_combine (xs 1) 0 (n_cut (xs 2) ((((xs 4).toInt64) <<< ((32 : Int32).toInt64 &&& 63)) ||| (((xs 5).toInt64) &&& 4294967295))) (n_cut (xs 3) ((((xs 6).toInt64) <<< ((32 : Int32).toInt64 &&& 63)) ||| (((xs 7).toInt64) &&& 4294967295)))))]) rfl ?_
        refine lv_lload hx hb dL_law_1622 (lv_at hl 0 rfl) ?_
        refine W.lcmp hx hb dL_law_1624 ?_
        refine lv_if_eq (tgt := 1630) hx hb dL_law_1625 (by decide) (fun c_100810 => ?_) (fun c_100810 => ?_)
        · skip
          refine lv_goto (tgt := 1804) hx hb dL_law_1630 (by decide) ?_
          exact lk_tail hC hA2 (lv_sub hl [2, 6] rfl) hS (Nat.le_of_ble_eq_true rfl) (Nat.le_of_ble_eq_true rfl)
        · exact absurd ((lg_cmp_eq _ _).mpr (qx_w0 c_82 c_100662 c_78 c_79 c_85 c_80 c_81 (fun _ => c_87) (fun q => c_84 q.2) (by rw [c_100669]; decide))) c_100810
    · exact absurd (by decide) c_100808
  · exact absurd hz.2.2.2.2.2.2.2.2.2.2.2.2.2.1 c_87
  · exact absurd hz.2.2.2.2.2.2.2.2.2.2.1 c_85
  · obtain ⟨c_100706, c_100707, c_100708, c_100709, c_100710, c_100711, c_100712, c_100713, c_100714, c_100715, c_100716, c_100717, c_100718, w_100719, w_100720⟩ := hz
    subst w_100719
    subst w_100720
    obtain ⟨hP, hD⟩ := va_join (wr := [(h0, .inr (10, [.ref x0, .int 0, .ref x1, .ref x2, .ref x3, .ref x4, .ref x5, .ref x6, .ref x7, .ref x8, .int 0, .int 3000])), (o0, .inl (kA 1, 1, .inr (.inl (vp_updL (fun _ => 0) 0 (n_cut (xs 2) (n_combine (xs 1) 0 (n_cut (xs 2) ((((xs 4).toInt64) <<< ((32 : Int32).toInt64 &&& 63)) ||| (((xs 5).toInt64) &&& 4294967295))) (n_cut (xs 3) ((((xs 6).toInt64) <<< ((32 : Int32).toInt64 &&& 63)) ||| (((xs 7).toInt64) &&& 4294967295)))))))))]) (w1 := [(m0, .inr (11, y0.set 9 (.int 0)))]) hP hD [0] [1, 2] rfl rfl (by decide) (by decide) hk1 hFc hP1 hD1
    generalize H1 = H at hP hS ⊢
    have hP : va_P D vwCl [(h0, .inr (10, [.ref x0, .int 0, .ref x1, .ref x2, .ref x3, .ref x4, .ref x5, .ref x6, .ref x7, .ref x8, .int 0, .int 3000])), (o0, .inl (kA 1, 1, .inr (.inl (vp_updL (fun _ => 0) 0 (n_cut (xs 2) (n_combine (xs 1) 0 (n_cut (xs 2) ((((xs 4).toInt64) <<< ((32 : Int32).toInt64 &&& 63)) ||| (((xs 5).toInt64) &&& 4294967295))) (n_cut (xs 3) ((((xs 6).toInt64) <<< ((32 : Int32).toInt64 &&& 63)) ||| (((xs 7).toInt64) &&& 4294967295))))))))), (m0, .inr (11, y0.set 9 (.int 0)))] H := hP
    have hD : va_D A [(h0, .inr (10, [.ref x0, .int 0, .ref x1, .ref x2, .ref x3, .ref x4, .ref x5, .ref x6, .ref x7, .ref x8, .int 0, .int 3000])), (o0, .inl (kA 1, 1, .inr (.inl (vp_updL (fun _ => 0) 0 (n_cut (xs 2) (n_combine (xs 1) 0 (n_cut (xs 2) ((((xs 4).toInt64) <<< ((32 : Int32).toInt64 &&& 63)) ||| (((xs 5).toInt64) &&& 4294967295))) (n_cut (xs 3) ((((xs 6).toInt64) <<< ((32 : Int32).toInt64 &&& 63)) ||| (((xs 7).toInt64) &&& 4294967295))))))))), (m0, .inr (11, y0.set 9 (.int 0)))] := hD
    refine lv_lstore (lv' := [(6, .long (n_cut (xs 2) (r_two 241 0 (n_cut (xs 2) ((((xs 4).toInt64) <<< ((32 : Int32).toInt64 &&& 63)) ||| (((xs 5).toInt64) &&& 4294967295))) (n_cut (xs 3) ((((xs 6).toInt64) <<< ((32 : Int32).toInt64 &&& 63)) ||| (((xs 7).toInt64) &&& 4294967295)))))), (5, .int 0), (0, .ref b), (1, .ref h0), (2, .ref m0), (3, .ref o0), (4, .int 0)]) hx hb dL_law_1601 hl (by decide) rfl (fun ls hl => ?_)
    refine lv_aload_n hx hb dL_law_1603 rfl (lv_at hl 4 rfl) ?_
    have hPc := hP.sub (ws' := [(m0, .inr (11, y0.set 9 (.int 0)))]) [2] rfl
    have hDc := hD.sub (ws' := [(m0, .inr (11, y0.set 9 (.int 0)))]) [2] (by decide) rfl
    have hFc := va_free (wc := [(m0, .inr (11, y0.set 9 (.int 0)))]) hD hS hA [2] rfl
    refine va_calli (va_runV (As := []) (rest := []) ⟨hx, hb, hml, hown, hts⟩ (a94_X12_thrown l  D kA V H.size m0 (y0.set 9 (.int 0)) (fun k hk => (by rw [List.length_set]; exact (hq k hk))) (List.getElem?_set_self (hq 9 (by decide)))) (cwV 0 hts (gw_V gw_1879 gw_1880 gw_1881 gw_16 gw_1882) rfl rfl rfl (by decide +kernel) ⟨(Nat.le_of_ble_eq_true rfl), (Nat.le_of_ble_eq_true rfl)⟩) ⟨aP.blind, va_recv hK hP (ci := 11) (q0 := 2) rfl rfl, aP.pre hE hS hPc hK hDc hFc⟩ rfl rfl hl.1 rfl (lv_room (Nat.le_of_ble_eq_true rfl)) dL_law_1604 ⟨(Nat.le_of_ble_eq_true rfl), (Nat.le_of_ble_eq_true rfl)⟩) hS (fun q _ h => hFc q h) hFc (fun r_100811 u t H1 locs ht hvm hw hB hz1 hk1 hS => ?_)
    obtain ⟨hP1, hD1⟩ := hB
    rw [ht] at hP1
    try dsimp only at hw hP1 hD1
    have w_100812 := hw
    subst w_100812
    obtain ⟨hP, hD⟩ := va_join (wr := [(h0, .inr (10, [.ref x0, .int 0, .ref x1, .ref x2, .ref x3, .ref x4, .ref x5, .ref x6, .ref x7, .ref x8, .int 0, .int 3000])), (o0, .inl (kA 1, 1, .inr (.inl (vp_updL (fun _ => 0) 0 (n_cut (xs 2) (n_combine (xs 1) 0 (n_cut (xs 2) ((((xs 4).toInt64) <<< ((32 : Int32).toInt64 &&& 63)) ||| (((xs 5).toInt64) &&& 4294967295))) (n_cut (xs 3) ((((xs 6).toInt64) <<< ((32 : Int32).toInt64 &&& 63)) ||| (((xs 7).toInt64) &&& 4294967295)))))))))]) (w1 := [(m0, .inr (11, (y0.set 9 (.int 0))))]) hP hD [2] [0, 1] rfl rfl (by decide) (by decide) hk1 hFc hP1 hD1
    generalize H1 = H at hP hS ⊢
    have hP : va_P D vwCl [(h0, .inr (10, [.ref x0, .int 0, .ref x1, .ref x2, .ref x3, .ref x4, .ref x5, .ref x6, .ref x7, .ref x8, .int 0, .int 3000])), (o0, .inl (kA 1, 1, .inr (.inl (vp_updL (fun _ => 0) 0 (n_cut (xs 2) (n_combine (xs 1) 0 (n_cut (xs 2) ((((xs 4).toInt64) <<< ((32 : Int32).toInt64 &&& 63)) ||| (((xs 5).toInt64) &&& 4294967295))) (n_cut (xs 3) ((((xs 6).toInt64) <<< ((32 : Int32).toInt64 &&& 63)) ||| (((xs 7).toInt64) &&& 4294967295))))))))), (m0, .inr (11, (y0.set 9 (.int 0))))] H := hP
    have hD : va_D A [(h0, .inr (10, [.ref x0, .int 0, .ref x1, .ref x2, .ref x3, .ref x4, .ref x5, .ref x6, .ref x7, .ref x8, .int 0, .int 3000])), (o0, .inl (kA 1, 1, .inr (.inl (vp_updL (fun _ => 0) 0 (n_cut (xs 2) (n_combine (xs 1) 0 (n_cut (xs 2) ((((xs 4).toInt64) <<< ((32 : Int32).toInt64 &&& 63)) ||| (((xs 5).toInt64) &&& 4294967295))) (n_cut (xs 3) ((((xs 6).toInt64) <<< ((32 : Int32).toInt64 &&& 63)) ||| (((xs 7).toInt64) &&& 4294967295))))))))), (m0, .inr (11, (y0.set 9 (.int 0))))] := hD
    refine lv_iload hx hb dL_law_1607 (lv_at hl 1 rfl) ?_
    refine lv_icmp_eq (tgt := 1614) hx hb dL_law_1609 (by decide) (fun c_100813 => ?_) (fun c_100813 => ?_)
    · skip
      refine lv_iload hx hb dL_law_1614 (lv_at hl 1 rfl) ?_
      refine lv_if_ne (tgt := 1630) hx hb dL_law_1616 (by decide) (fun c_100814 => ?_) (fun c_100814 => ?_)
      · exact absurd (by decide) c_100814
      · skip
        refine lv_aload_n hx hb dL_law_1619 rfl (lv_at hl 5 rfl) ?_
        refine lv_iconst (v := 0) hx hb dL_law_1620 (by decide) ?_
        refine va_lald hx hb hK hP 1 1 rfl rfl (show vp_in 0 1 by unfold vp_in; decide) dL_law_1621 ?_
        refine W.eq (g2 := F0 m 1622 ls [.long (n_cut (xs 2) (n_combine (xs 1) 0 (n_cut (xs 2) ((((xs 4).toInt64) <<< ((32 : Int32).toInt64 &&& 63)) ||| (((xs 5).toInt64) &&& 4294967295))) (n_cut (xs 3) ((((xs 6).toInt64) <<< ((32 : Int32).toInt64 &&& 63)) ||| (((xs 7).toInt64) &&& 4294967295)))))]) rfl ?_
        refine lv_lload hx hb dL_law_1622 (lv_at hl 0 rfl) ?_
        refine W.lcmp hx hb dL_law_1624 ?_
        refine lv_if_eq (tgt := 1630) hx hb dL_law_1625 (by decide) (fun c_100815 => ?_) (fun c_100815 => ?_)
        · skip
          refine lv_goto (tgt := 1804) hx hb dL_law_1630 (by decide) ?_
          exact lk_tail hC hA2 (lv_sub hl [2, 6] rfl) hS (Nat.le_of_ble_eq_true rfl) (Nat.le_of_ble_eq_true rfl)
        · exact absurd ((lg_cmp_eq _ _).mpr (qx_w0 c_82 c_100707 c_78 c_79 c_85 c_80 c_81 (fun _ => c_87) (fun q => c_84 q.2) (by rw [c_100713]; decide))) c_100815
    · exact absurd (by decide) c_100813
  · exact absurd hz.2.2.2.2.2.2.2.2.2.2.2.2.1 c_87
  · exact absurd hz.2.2.2.2.2.2.2.2.2.1 c_85
  · obtain ⟨c_100748, c_100749, c_100750, c_100751, c_100752, c_100753, c_100754, c_100755, c_100756, c_100757, c_100758, c_100759, w_100760, w_100761⟩ := hz
    subst w_100760
    subst w_100761
    obtain ⟨hP, hD⟩ := va_join (wr := [(h0, .inr (10, [.ref x0, .int 0, .ref x1, .ref x2, .ref x3, .ref x4, .ref x5, .ref x6, .ref x7, .ref x8, .int 0, .int 3000])), (o0, .inl (kA 1, 1, .inr (.inl (vp_updL (fun _ => 0) 0 (n_cut (xs 2) (n_combine (xs 1) 0 (n_cut (xs 2) ((((xs 4).toInt64) <<< ((32 : Int32).toInt64 &&& 63)) ||| (((xs 5).toInt64) &&& 4294967295))) (n_cut (xs 3) ((((xs 6).toInt64) <<< ((32 : Int32).toInt64 &&& 63)) ||| (((xs 7).toInt64) &&& 4294967295)))))))))]) (w1 := [(m0, .inr (11, y0.set 9 (.int 0)))]) hP hD [0] [1, 2] rfl rfl (by decide) (by decide) hk1 hFc hP1 hD1
    generalize H1 = H at hP hS ⊢
    have hP : va_P D vwCl [(h0, .inr (10, [.ref x0, .int 0, .ref x1, .ref x2, .ref x3, .ref x4, .ref x5, .ref x6, .ref x7, .ref x8, .int 0, .int 3000])), (o0, .inl (kA 1, 1, .inr (.inl (vp_updL (fun _ => 0) 0 (n_cut (xs 2) (n_combine (xs 1) 0 (n_cut (xs 2) ((((xs 4).toInt64) <<< ((32 : Int32).toInt64 &&& 63)) ||| (((xs 5).toInt64) &&& 4294967295))) (n_cut (xs 3) ((((xs 6).toInt64) <<< ((32 : Int32).toInt64 &&& 63)) ||| (((xs 7).toInt64) &&& 4294967295))))))))), (m0, .inr (11, y0.set 9 (.int 0)))] H := hP
    have hD : va_D A [(h0, .inr (10, [.ref x0, .int 0, .ref x1, .ref x2, .ref x3, .ref x4, .ref x5, .ref x6, .ref x7, .ref x8, .int 0, .int 3000])), (o0, .inl (kA 1, 1, .inr (.inl (vp_updL (fun _ => 0) 0 (n_cut (xs 2) (n_combine (xs 1) 0 (n_cut (xs 2) ((((xs 4).toInt64) <<< ((32 : Int32).toInt64 &&& 63)) ||| (((xs 5).toInt64) &&& 4294967295))) (n_cut (xs 3) ((((xs 6).toInt64) <<< ((32 : Int32).toInt64 &&& 63)) ||| (((xs 7).toInt64) &&& 4294967295))))))))), (m0, .inr (11, y0.set 9 (.int 0)))] := hD
    refine lv_lstore (lv' := [(6, .long (n_cut (xs 2) (r_two 240 0 (n_cut (xs 2) ((((xs 4).toInt64) <<< ((32 : Int32).toInt64 &&& 63)) ||| (((xs 5).toInt64) &&& 4294967295))) (n_cut (xs 3) ((((xs 6).toInt64) <<< ((32 : Int32).toInt64 &&& 63)) ||| (((xs 7).toInt64) &&& 4294967295)))))), (5, .int 0), (0, .ref b), (1, .ref h0), (2, .ref m0), (3, .ref o0), (4, .int 0)]) hx hb dL_law_1601 hl (by decide) rfl (fun ls hl => ?_)
    refine lv_aload_n hx hb dL_law_1603 rfl (lv_at hl 4 rfl) ?_
    have hPc := hP.sub (ws' := [(m0, .inr (11, y0.set 9 (.int 0)))]) [2] rfl
    have hDc := hD.sub (ws' := [(m0, .inr (11, y0.set 9 (.int 0)))]) [2] (by decide) rfl
    have hFc := va_free (wc := [(m0, .inr (11, y0.set 9 (.int 0)))]) hD hS hA [2] rfl
    refine va_calli (va_runV (As := []) (rest := []) ⟨hx, hb, hml, hown, hts⟩ (a94_X12_thrown l  D kA V H.size m0 (y0.set 9 (.int 0)) (fun k hk => (by rw [List.length_set]; exact (hq k hk))) (List.getElem?_set_self (hq 9 (by decide)))) (cwV 0 hts (gw_V gw_1879 gw_1880 gw_1881 gw_16 gw_1882) rfl rfl rfl (by decide +kernel) ⟨(Nat.le_of_ble_eq_true rfl), (Nat.le_of_ble_eq_true rfl)⟩) ⟨aP.blind, va_recv hK hP (ci := 11) (q0 := 2) rfl rfl, aP.pre hE hS hPc hK hDc hFc⟩ rfl rfl hl.1 rfl (lv_room (Nat.le_of_ble_eq_true rfl)) dL_law_1604 ⟨(Nat.le_of_ble_eq_true rfl), (Nat.le_of_ble_eq_true rfl)⟩) hS (fun q _ h => hFc q h) hFc (fun r_100816 u t H1 locs ht hvm hw hB hz1 hk1 hS => ?_)
    obtain ⟨hP1, hD1⟩ := hB
    rw [ht] at hP1
    try dsimp only at hw hP1 hD1
    have w_100817 := hw
    subst w_100817
    obtain ⟨hP, hD⟩ := va_join (wr := [(h0, .inr (10, [.ref x0, .int 0, .ref x1, .ref x2, .ref x3, .ref x4, .ref x5, .ref x6, .ref x7, .ref x8, .int 0, .int 3000])), (o0, .inl (kA 1, 1, .inr (.inl (vp_updL (fun _ => 0) 0 (n_cut (xs 2) (n_combine (xs 1) 0 (n_cut (xs 2) ((((xs 4).toInt64) <<< ((32 : Int32).toInt64 &&& 63)) ||| (((xs 5).toInt64) &&& 4294967295))) (n_cut (xs 3) ((((xs 6).toInt64) <<< ((32 : Int32).toInt64 &&& 63)) ||| (((xs 7).toInt64) &&& 4294967295)))))))))]) (w1 := [(m0, .inr (11, (y0.set 9 (.int 0))))]) hP hD [2] [0, 1] rfl rfl (by decide) (by decide) hk1 hFc hP1 hD1
    generalize H1 = H at hP hS ⊢
    have hP : va_P D vwCl [(h0, .inr (10, [.ref x0, .int 0, .ref x1, .ref x2, .ref x3, .ref x4, .ref x5, .ref x6, .ref x7, .ref x8, .int 0, .int 3000])), (o0, .inl (kA 1, 1, .inr (.inl (vp_updL (fun _ => 0) 0 (n_cut (xs 2) (n_combine (xs 1) 0 (n_cut (xs 2) ((((xs 4).toInt64) <<< ((32 : Int32).toInt64 &&& 63)) ||| (((xs 5).toInt64) &&& 4294967295))) (n_cut (xs 3) ((((xs 6).toInt64) <<< ((32 : Int32).toInt64 &&& 63)) ||| (((xs 7).toInt64) &&& 4294967295))))))))), (m0, .inr (11, (y0.set 9 (.int 0))))] H := hP
    have hD : va_D A [(h0, .inr (10, [.ref x0, .int 0, .ref x1, .ref x2, .ref x3, .ref x4, .ref x5, .ref x6, .ref x7, .ref x8, .int 0, .int 3000])), (o0, .inl (kA 1, 1, .inr (.inl (vp_updL (fun _ => 0) 0 (n_cut (xs 2) (n_combine (xs 1) 0 (n_cut (xs 2) ((((xs 4).toInt64) <<< ((32 : Int32).toInt64 &&& 63)) ||| (((xs 5).toInt64) &&& 4294967295))) (n_cut (xs 3) ((((xs 6).toInt64) <<< ((32 : Int32).toInt64 &&& 63)) ||| (((xs 7).toInt64) &&& 4294967295))))))))), (m0, .inr (11, (y0.set 9 (.int 0))))] := hD
    refine lv_iload hx hb dL_law_1607 (lv_at hl 1 rfl) ?_
    refine lv_icmp_eq (tgt := 1614) hx hb dL_law_1609 (by decide) (fun c_100818 => ?_) (fun c_100818 => ?_)
    · skip
      refine lv_iload hx hb dL_law_1614 (lv_at hl 1 rfl) ?_
      refine lv_if_ne (tgt := 1630) hx hb dL_law_1616 (by decide) (fun c_100819 => ?_) (fun c_100819 => ?_)
      · exact absurd (by decide) c_100819
      · skip
        refine lv_aload_n hx hb dL_law_1619 rfl (lv_at hl 5 rfl) ?_
        refine lv_iconst (v := 0) hx hb dL_law_1620 (by decide) ?_
        refine va_lald hx hb hK hP 1 1 rfl rfl (show vp_in 0 1 by unfold vp_in; decide) dL_law_1621 ?_
        refine W.eq (g2 := F0 m 1622 ls [.long (n_cut (xs 2) (n_combine (xs 1) 0 (n_cut (xs 2) ((((xs 4).toInt64) <<< ((32 : Int32).toInt64 &&& 63)) ||| (((xs 5).toInt64) &&& 4294967295))) (n_cut (xs 3) ((((xs 6).toInt64) <<< ((32 : Int32).toInt64 &&& 63)) ||| (((xs 7).toInt64) &&& 4294967295)))))]) rfl ?_
        refine lv_lload hx hb dL_law_1622 (lv_at hl 0 rfl) ?_
        refine W.lcmp hx hb dL_law_1624 ?_
        refine lv_if_eq (tgt := 1630) hx hb dL_law_1625 (by decide) (fun c_100820 => ?_) (fun c_100820 => ?_)
        · skip
          refine lv_goto (tgt := 1804) hx hb dL_law_1630 (by decide) ?_
          exact lk_tail hC hA2 (lv_sub hl [2, 6] rfl) hS (Nat.le_of_ble_eq_true rfl) (Nat.le_of_ble_eq_true rfl)
        · exact absurd ((lg_cmp_eq _ _).mpr (qx_w0 c_82 c_100749 c_78 c_79 c_85 c_80 c_81 (fun _ => c_87) (fun q => c_84 q.2) (by rw [c_100754]; decide))) c_100820
    · exact absurd (by decide) c_100818
  · exact absurd hz.2.2.2.2.2.2.2.2.2.2.2.1 c_87
set_option maxHeartbeats 4000000 in
set_option maxRecDepth 100000 in
theorem lk_22_11 {p : Program} {l : Launch} {e : Env} {s : State} {m : MethodId} {below : List Frame} {meth : Method} {c : Code} {D : va_G} {kA : Nat → ClassId} {V : Nat → Nat} {b : Nat} {xs : Nat → Int32} {A : Nat → Prop} (hC : lw_C p l s m meth c b 8 xs D kA V A) (hA2 : ∀ q, A q → s.heap.size ≤ q) (h0 : Nat) (m0 : Nat) (o0 : Nat) (x0 : Nat) (x1 : Nat) (x2 : Nat) (x3 : Nat) (x4 : Nat) (x5 : Nat) (x6 : Nat) (x7 : Nat) (x8 : Nat) (y0 : List Value) (hq : ∀ k, k < 121 → k < y0.length) (hq9 : y0[9]? = some (.int 0)) (c_90 : ¬ (xs 2) < 0) (c_91 : ¬ 4 < (xs 2)) (c_92 : ¬ (xs 3) < 0) (c_93 : ¬ 4 < (xs 3)) (c_94 : ¬ (xs 1) < 0) (c_95 : (xs 1) ≤ 10) (c_96 : ¬ (n_cut (xs 3) ((((xs 6).toInt64) <<< ((32 : Int32).toInt64 &&& 63)) ||| (((xs 7).toInt64) &&& 4294967295))) = 0) (c_97 : ¬ (xs 2) = 4) (c_98 : ¬ 8 ≤ (xs 1)) (c_99 : (xs 3) = 4) {H : Heap} {locs : List Loc} {ls : Array Slot} (hl : lv_has ls 8 [(0, .ref b), (1, .ref h0), (2, .ref m0), (3, .ref o0), (4, .int 0)]) (hS : va_S A s.heap H locs) (hP : va_P D vwCl [(m0, .inr (11, y0)), (h0, .inr (10, [.ref x0, .int 0, .ref x1, .ref x2, .ref x3, .ref x4, .ref x5, .ref x6, .ref x7, .ref x8, .int 0, .int 3000])), (o0, .inl (kA 1, 1, .inr (.inl (vp_updL (fun _ => 0) 0 (n_cut (xs 2) (n_combine (xs 1) 1 (n_cut (xs 2) ((((xs 4).toInt64) <<< ((32 : Int32).toInt64 &&& 63)) ||| (((xs 5).toInt64) &&& 4294967295))) (n_cut (xs 3) ((((xs 6).toInt64) <<< ((32 : Int32).toInt64 &&& 63)) ||| (((xs 7).toInt64) &&& 4294967295)))))))))] H) (hD : va_D A [(m0, .inr (11, y0)), (h0, .inr (10, [.ref x0, .int 0, .ref x1, .ref x2, .ref x3, .ref x4, .ref x5, .ref x6, .ref x7, .ref x8, .int 0, .int 3000])), (o0, .inl (kA 1, 1, .inr (.inl (vp_updL (fun _ => 0) 0 (n_cut (xs 2) (n_combine (xs 1) 1 (n_cut (xs 2) ((((xs 4).toInt64) <<< ((32 : Int32).toInt64 &&& 63)) ||| (((xs 5).toInt64) &&& 4294967295))) (n_cut (xs 3) ((((xs 6).toInt64) <<< ((32 : Int32).toInt64 &&& 63)) ||| (((xs 7).toInt64) &&& 4294967295)))))))))]) : W p l e room_1 s m #[Value.ref b] below meth c H locs 515 172799 (lw_Z below #[Value.ref b] s) (F0 m 1531 ls [.int 0]) := by
  have ⟨hst, hx, hb, hr, hml, hown, hts, hG, hX, hbl, hbA, hlocks, hE, hK, hA⟩ := hC
  refine lv_istore (lv' := [(5, .int 0), (0, .ref b), (1, .ref h0), (2, .ref m0), (3, .ref o0), (4, .int 0)]) hx hb dL_law_1531 hl (by decide) rfl (fun ls hl => ?_)
  refine lv_aload_n hx hb dL_law_1533 rfl (lv_at hl 3 rfl) ?_
  refine lv_aload_n hx hb dL_law_1534 rfl (lv_at hl 1 rfl) ?_
  refine lv_iload hx hb dL_law_1535 (lv_at hl 5 rfl) ?_
  refine lv_iconst (v := 1) hx hb dL_law_1537 (by decide) ?_
  refine lv_iadd hx hb dL_law_1538 ?_
  refine W.eq (g2 := F0 m 1539 ls [.int 1, .ref b, .ref m0]) rfl ?_
  refine va_sld hx hb hX hbl hbA hS (show vp_in 1 8 by unfold vp_in; decide) dL_law_1539 ?_
  refine W.eq (g2 := F0 m 1540 ls [.int (xs 1), .ref m0]) rfl ?_
  refine lv_aload_n hx hb dL_law_1540 rfl (lv_at hl 1 rfl) ?_
  refine lv_iload hx hb dL_law_1541 (lv_at hl 5 rfl) ?_
  refine lv_iconst (v := 2) hx hb dL_law_1543 (by decide) ?_
  refine lv_iadd hx hb dL_law_1544 ?_
  refine W.eq (g2 := F0 m 1545 ls [.int 2, .ref b, .int (xs 1), .ref m0]) rfl ?_
  refine va_sld hx hb hX hbl hbA hS (show vp_in 2 8 by unfold vp_in; decide) dL_law_1545 ?_
  refine W.eq (g2 := F0 m 1546 ls [.int (xs 2), .int (xs 1), .ref m0]) rfl ?_
  refine lv_aload_n hx hb dL_law_1546 rfl (lv_at hl 1 rfl) ?_
  refine lv_iload hx hb dL_law_1547 (lv_at hl 5 rfl) ?_
  refine lv_iconst (v := 3) hx hb dL_law_1549 (by decide) ?_
  refine lv_iadd hx hb dL_law_1550 ?_
  refine W.eq (g2 := F0 m 1551 ls [.int 3, .ref b, .int (xs 2), .int (xs 1), .ref m0]) rfl ?_
  refine va_sld hx hb hX hbl hbA hS (show vp_in 3 8 by unfold vp_in; decide) dL_law_1551 ?_
  refine W.eq (g2 := F0 m 1552 ls [.int (xs 3), .int (xs 2), .int (xs 1), .ref m0]) rfl ?_
  refine lv_aload_n hx hb dL_law_1552 rfl (lv_at hl 1 rfl) ?_
  refine lv_iload hx hb dL_law_1553 (lv_at hl 5 rfl) ?_
  refine lv_iconst (v := 4) hx hb dL_law_1555 (by decide) ?_
  refine lv_iadd hx hb dL_law_1556 ?_
  refine W.eq (g2 := F0 m 1557 ls [.int 4, .ref b, .int (xs 3), .int (xs 2), .int (xs 1), .ref m0]) rfl ?_
  refine va_sld hx hb hX hbl hbA hS (show vp_in 4 8 by unfold vp_in; decide) dL_law_1557 ?_
  refine W.eq (g2 := F0 m 1558 ls [.int (xs 4), .int (xs 3), .int (xs 2), .int (xs 1), .ref m0]) rfl ?_
  refine lv_i2l (v := (xs 4).toInt64) hx hb dL_law_1558 rfl ?_
  refine lv_bipush (v := 32) hx hb dL_law_1559 (by decide) ?_
  refine lv_lshl (v := ((xs 4).toInt64) <<< ((32 : Int32).toInt64 &&& 63)) hx hb dL_law_1561 rfl ?_
  refine lv_aload_n hx hb dL_law_1562 rfl (lv_at hl 1 rfl) ?_
  refine lv_iload hx hb dL_law_1563 (lv_at hl 5 rfl) ?_
  refine lv_iconst (v := 5) hx hb dL_law_1565 (by decide) ?_
  refine lv_iadd hx hb dL_law_1566 ?_
  refine W.eq (g2 := F0 m 1567 ls [.int 5, .ref b, .long (((xs 4).toInt64) <<< ((32 : Int32).toInt64 &&& 63)), .int (xs 3), .int (xs 2), .int (xs 1), .ref m0]) rfl ?_
  refine va_sld hx hb hX hbl hbA hS (show vp_in 5 8 by unfold vp_in; decide) dL_law_1567 ?_
  refine W.eq (g2 := F0 m 1568 ls [.int (xs 5), .long (((xs 4).toInt64) <<< ((32 : Int32).toInt64 &&& 63)), .int (xs 3), .int (xs 2), .int (xs 1), .ref m0]) rfl ?_
  refine lv_i2l (v := (xs 5).toInt64) hx hb dL_law_1568 rfl ?_
  refine lv_ldc2 (v := 4294967295) hx hb hown (hG _ gw_2764) dL_law_1569 ?_
  refine lv_land hx hb dL_law_1572 ?_
  refine lv_lor hx hb dL_law_1573 ?_
  refine lv_aload_n hx hb dL_law_1574 rfl (lv_at hl 1 rfl) ?_
  refine lv_iload hx hb dL_law_1575 (lv_at hl 5 rfl) ?_
  refine lv_bipush (v := 6) hx hb dL_law_1577 (by decide) ?_
  refine lv_iadd hx hb dL_law_1579 ?_
  refine W.eq (g2 := F0 m 1580 ls [.int 6, .ref b, .long ((((xs 4).toInt64) <<< ((32 : Int32).toInt64 &&& 63)) ||| (((xs 5).toInt64) &&& 4294967295)), .int (xs 3), .int (xs 2), .int (xs 1), .ref m0]) rfl ?_
  refine va_sld hx hb hX hbl hbA hS (show vp_in 6 8 by unfold vp_in; decide) dL_law_1580 ?_
  refine W.eq (g2 := F0 m 1581 ls [.int (xs 6), .long ((((xs 4).toInt64) <<< ((32 : Int32).toInt64 &&& 63)) ||| (((xs 5).toInt64) &&& 4294967295)), .int (xs 3), .int (xs 2), .int (xs 1), .ref m0]) rfl ?_
  refine lv_i2l (v := (xs 6).toInt64) hx hb dL_law_1581 rfl ?_
  refine lv_bipush (v := 32) hx hb dL_law_1582 (by decide) ?_
  refine lv_lshl (v := ((xs 6).toInt64) <<< ((32 : Int32).toInt64 &&& 63)) hx hb dL_law_1584 rfl ?_
  refine lv_aload_n hx hb dL_law_1585 rfl (lv_at hl 1 rfl) ?_
  refine lv_iload hx hb dL_law_1586 (lv_at hl 5 rfl) ?_
  refine lv_bipush (v := 7) hx hb dL_law_1588 (by decide) ?_
  refine lv_iadd hx hb dL_law_1590 ?_
  refine W.eq (g2 := F0 m 1591 ls [.int 7, .ref b, .long (((xs 6).toInt64) <<< ((32 : Int32).toInt64 &&& 63)), .long ((((xs 4).toInt64) <<< ((32 : Int32).toInt64 &&& 63)) ||| (((xs 5).toInt64) &&& 4294967295)), .int (xs 3), .int (xs 2), .int (xs 1), .ref m0]) rfl ?_
  refine va_sld hx hb hX hbl hbA hS (show vp_in 7 8 by unfold vp_in; decide) dL_law_1591 ?_
  refine W.eq (g2 := F0 m 1592 ls [.int (xs 7), .long (((xs 6).toInt64) <<< ((32 : Int32).toInt64 &&& 63)), .long ((((xs 4).toInt64) <<< ((32 : Int32).toInt64 &&& 63)) ||| (((xs 5).toInt64) &&& 4294967295)), .int (xs 3), .int (xs 2), .int (xs 1), .ref m0]) rfl ?_
  refine lv_i2l (v := (xs 7).toInt64) hx hb dL_law_1592 rfl ?_
  refine lv_ldc2 (v := 4294967295) hx hb hown (hG _ gw_2764) dL_law_1593 ?_
  refine lv_land hx hb dL_law_1596 ?_
  refine lv_lor hx hb dL_law_1597 ?_
  have hPc := hP.sub (ws' := [(m0, .inr (11, y0))]) [0] rfl
  have hDc := hD.sub (ws' := [(m0, .inr (11, y0))]) [0] (by decide) rfl
  have hFc := va_free (wc := [(m0, .inr (11, y0))]) hD hS hA [0] rfl
  refine va_calll (va_runV (As := [.int (xs 1), .int (xs 2), .int (xs 3), .long ((((xs 4).toInt64) <<< ((32 : Int32).toInt64 &&& 63)) ||| (((xs 5).toInt64) &&& 4294967295)), .long ((((xs 6).toInt64) <<< ((32 : Int32).toInt64 &&& 63)) ||| (((xs 7).toInt64) &&& 4294967295))]) (rest := []) ⟨hx, hb, hml, hown, hts⟩ (a153_X12_work l  D kA V H.size m0 (xs 1) (xs 2) (xs 3) ((((xs 4).toInt64) <<< ((32 : Int32).toInt64 &&& 63)) ||| (((xs 5).toInt64) &&& 4294967295)) ((((xs 6).toInt64) <<< ((32 : Int32).toInt64 &&& 63)) ||| (((xs 7).toInt64) &&& 4294967295)) y0 (fun k hk => (hq k hk)) hq9) (cwV 5 hts (gw_V gw_2756 gw_2757 gw_2758 gw_16 gw_2759) rfl rfl rfl (by decide +kernel) ⟨(Nat.le_of_ble_eq_true rfl), (Nat.le_of_ble_eq_true rfl)⟩) ⟨aP.blind, va_recv hK hP (ci := 11) (q0 := 0) rfl rfl, aP.pre hE hS hPc hK hDc hFc⟩ rfl rfl hl.1 rfl (lv_room (Nat.le_of_ble_eq_true rfl)) dL_law_1598 ⟨(Nat.le_of_ble_eq_true rfl), (Nat.le_of_ble_eq_true rfl)⟩) hS (fun q _ h => hFc q h) hFc (fun r_100001 u t H1 locs ht hvm hw hB hz1 hk1 hS => ?_)
  obtain ⟨u_100002, rfl⟩ : ∃ z, z = u := ⟨u, rfl⟩
  obtain ⟨hP1, hD1⟩ := hB
  rw [ht] at hP1
  try dsimp only at hw hP1 hD1
  rcases hw with hz | hz | hz | hz | hz | hz | hz | hz | hz | hz | hz | hz | hz | hz | hz | hz | hz | hz | hz | hz | hz | hz | hz | hz | hz | hz | hz | hz | hz | hz | hz | hz | hz | hz | hz | hz | hz | hz | hz | hz | hz | hz | hz | hz | hz | hz | hz | hz | hz | hz | hz | hz
  · exact absurd hz.1 c_94
  · exact absurd hz.1 c_94
  · exact absurd hz.1 c_94
  · exact absurd hz.1 c_94
  · exact absurd hz.1 c_94
  · exact absurd hz.2.1 (Int32.not_lt.mpr c_95)
  · exact absurd hz.2.1 (Int32.not_lt.mpr c_95)
  · exact absurd hz.2.1 (Int32.not_lt.mpr c_95)
  · exact absurd hz.2.1 (Int32.not_lt.mpr c_95)
  · exact absurd hz.2.1 (Int32.not_lt.mpr c_95)
  · exact absurd hz.2.2.1 c_90
  · exact absurd hz.2.2.2.1 c_91
  · exact absurd hz.2.2.2.2.1 c_92
  · exact absurd hz.2.2.2.2.2.1 c_93
  · exact absurd hz.2.2.2.2.2.2.2.2.2.2.2.2.2.2.2.2.2.2.1 c_97
  · exact absurd hz.2.2.2.2.2.2.2.2.2.2.2.2.2.2.2.2.2.2.2.1 c_98
  · exact absurd c_99 hz.2.2.2.2.2.2.2.2.2.2.2.2.2.2.2.2.2.2.2.2.1
  · obtain ⟨c_100158, c_100159, c_100160, c_100161, c_100162, c_100163, c_100164, c_100165, c_100166, c_100167, c_100168, c_100169, c_100170, c_100171, c_100172, c_100173, c_100174, c_100175, c_100176, c_100177, c_100178, w_100179, w_100180⟩ := hz
    subst w_100179
    subst w_100180
    obtain ⟨hP, hD⟩ := va_join (wr := [(h0, .inr (10, [.ref x0, .int 0, .ref x1, .ref x2, .ref x3, .ref x4, .ref x5, .ref x6, .ref x7, .ref x8, .int 0, .int 3000])), (o0, .inl (kA 1, 1, .inr (.inl (vp_updL (fun _ => 0) 0 (n_cut (xs 2) (n_combine (xs 1) 1 (n_cut (xs 2) ((((xs 4).toInt64) <<< ((32 : Int32).toInt64 &&& 63)) ||| (((xs 5).toInt64) &&& 4294967295))) (n_cut (xs 3) ((((xs 6).toInt64) <<< ((32 : Int32).toInt64 &&& 63)) ||| (((xs 7).toInt64) &&& 4294967295)))))))))]) (w1 := [(m0, .inr (11, y0.set 9 (.int 0)))]) hP hD [0] [1, 2] rfl rfl (by decide) (by decide) hk1 hFc hP1 hD1
    generalize H1 = H at hP hS ⊢
    have hP : va_P D vwCl [(h0, .inr (10, [.ref x0, .int 0, .ref x1, .ref x2, .ref x3, .ref x4, .ref x5, .ref x6, .ref x7, .ref x8, .int 0, .int 3000])), (o0, .inl (kA 1, 1, .inr (.inl (vp_updL (fun _ => 0) 0 (n_cut (xs 2) (n_combine (xs 1) 1 (n_cut (xs 2) ((((xs 4).toInt64) <<< ((32 : Int32).toInt64 &&& 63)) ||| (((xs 5).toInt64) &&& 4294967295))) (n_cut (xs 3) ((((xs 6).toInt64) <<< ((32 : Int32).toInt64 &&& 63)) ||| (((xs 7).toInt64) &&& 4294967295))))))))), (m0, .inr (11, y0.set 9 (.int 0)))] H := hP
    have hD : va_D A [(h0, .inr (10, [.ref x0, .int 0, .ref x1, .ref x2, .ref x3, .ref x4, .ref x5, .ref x6, .ref x7, .ref x8, .int 0, .int 3000])), (o0, .inl (kA 1, 1, .inr (.inl (vp_updL (fun _ => 0) 0 (n_cut (xs 2) (n_combine (xs 1) 1 (n_cut (xs 2) ((((xs 4).toInt64) <<< ((32 : Int32).toInt64 &&& 63)) ||| (((xs 5).toInt64) &&& 4294967295))) (n_cut (xs 3) ((((xs 6).toInt64) <<< ((32 : Int32).toInt64 &&& 63)) ||| (((xs 7).toInt64) &&& 4294967295))))))))), (m0, .inr (11, y0.set 9 (.int 0)))] := hD
    refine lv_lstore (lv' := [(6, .long (n_cut (xs 2) (r_two 203 1 (n_cut (xs 2) ((((xs 4).toInt64) <<< ((32 : Int32).toInt64 &&& 63)) ||| (((xs 5).toInt64) &&& 4294967295))) (n_cut (xs 3) ((((xs 6).toInt64) <<< ((32 : Int32).toInt64 &&& 63)) ||| (((xs 7).toInt64) &&& 4294967295)))))), (5, .int 0), (0, .ref b), (1, .ref h0), (2, .ref m0), (3, .ref o0), (4, .int 0)]) hx hb dL_law_1601 hl (by decide) rfl (fun ls hl => ?_)
    refine lv_aload_n hx hb dL_law_1603 rfl (lv_at hl 4 rfl) ?_
    have hPc := hP.sub (ws' := [(m0, .inr (11, y0.set 9 (.int 0)))]) [2] rfl
    have hDc := hD.sub (ws' := [(m0, .inr (11, y0.set 9 (.int 0)))]) [2] (by decide) rfl
    have hFc := va_free (wc := [(m0, .inr (11, y0.set 9 (.int 0)))]) hD hS hA [2] rfl
    refine va_calli (va_runV (As := []) (rest := []) ⟨hx, hb, hml, hown, hts⟩ (a94_X12_thrown l  D kA V H.size m0 (y0.set 9 (.int 0)) (fun k hk => (by rw [List.length_set]; exact (hq k hk))) (List.getElem?_set_self (hq 9 (by decide)))) (cwV 0 hts (gw_V gw_1879 gw_1880 gw_1881 gw_16 gw_1882) rfl rfl rfl (by decide +kernel) ⟨(Nat.le_of_ble_eq_true rfl), (Nat.le_of_ble_eq_true rfl)⟩) ⟨aP.blind, va_recv hK hP (ci := 11) (q0 := 2) rfl rfl, aP.pre hE hS hPc hK hDc hFc⟩ rfl rfl hl.1 rfl (lv_room (Nat.le_of_ble_eq_true rfl)) dL_law_1604 ⟨(Nat.le_of_ble_eq_true rfl), (Nat.le_of_ble_eq_true rfl)⟩) hS (fun q _ h => hFc q h) hFc (fun r_100776 u t H1 locs ht hvm hw hB hz1 hk1 hS => ?_)
    obtain ⟨hP1, hD1⟩ := hB
    rw [ht] at hP1
    try dsimp only at hw hP1 hD1
    have w_100777 := hw
    subst w_100777
    obtain ⟨hP, hD⟩ := va_join (wr := [(h0, .inr (10, [.ref x0, .int 0, .ref x1, .ref x2, .ref x3, .ref x4, .ref x5, .ref x6, .ref x7, .ref x8, .int 0, .int 3000])), (o0, .inl (kA 1, 1, .inr (.inl (vp_updL (fun _ => 0) 0 (n_cut (xs 2) (n_combine (xs 1) 1 (n_cut (xs 2) ((((xs 4).toInt64) <<< ((32 : Int32).toInt64 &&& 63)) ||| (((xs 5).toInt64) &&& 4294967295))) (n_cut (xs 3) ((((xs 6).toInt64) <<< ((32 : Int32).toInt64 &&& 63)) ||| (((xs 7).toInt64) &&& 4294967295)))))))))]) (w1 := [(m0, .inr (11, (y0.set 9 (.int 0))))]) hP hD [2] [0, 1] rfl rfl (by decide) (by decide) hk1 hFc hP1 hD1
    generalize H1 = H at hP hS ⊢
    have hP : va_P D vwCl [(h0, .inr (10, [.ref x0, .int 0, .ref x1, .ref x2, .ref x3, .ref x4, .ref x5, .ref x6, .ref x7, .ref x8, .int 0, .int 3000])), (o0, .inl (kA 1, 1, .inr (.inl (vp_updL (fun _ => 0) 0 (n_cut (xs 2) (n_combine (xs 1) 1 (n_cut (xs 2) ((((xs 4).toInt64) <<< ((32 : Int32).toInt64 &&& 63)) ||| (((xs 5).toInt64) &&& 4294967295))) (n_cut (xs 3) ((((xs 6).toInt64) <<< ((32 : Int32).toInt64 &&& 63)) ||| (((xs 7).toInt64) &&& 4294967295))))))))), (m0, .inr (11, (y0.set 9 (.int 0))))] H := hP
    have hD : va_D A [(h0, .inr (10, [.ref x0, .int 0, .ref x1, .ref x2, .ref x3, .ref x4, .ref x5, .ref x6, .ref x7, .ref x8, .int 0, .int 3000])), (o0, .inl (kA 1, 1, .inr (.inl (vp_updL (fun _ => 0) 0 (n_cut (xs 2) (n_combine (xs 1) 1 (n_cut (xs 2) ((((xs 4).toInt64) <<< ((32 : Int32).toInt64 &&& 63)) ||| (((xs 5).toInt64) &&& 4294967295))) (n_cut (xs 3) ((((xs 6).toInt64) <<< ((32 : Int32).toInt64 &&& 63)) ||| (((xs 7).toInt64) &&& 4294967295))))))))), (m0, .inr (11, (y0.set 9 (.int 0))))] := hD
    refine lv_iload hx hb dL_law_1607 (lv_at hl 1 rfl) ?_
    refine lv_icmp_eq (tgt := 1614) hx hb dL_law_1609 (by decide) (fun c_100778 => ?_) (fun c_100778 => ?_)
    · skip
      refine lv_iload hx hb dL_law_1614 (lv_at hl 1 rfl) ?_
      refine lv_if_ne (tgt := 1630) hx hb dL_law_1616 (by decide) (fun c_100779 => ?_) (fun c_100779 => ?_)
      · exact absurd (by decide) c_100779
      · skip
        refine lv_aload_n hx hb dL_law_1619 rfl (lv_at hl 5 rfl) ?_
        refine lv_iconst (v := 0) hx hb dL_law_1620 (by decide) ?_
        refine va_lald hx hb hK hP 1 1 rfl rfl (show vp_in 0 1 by unfold vp_in; decide) dL_law_1621 ?_
        refine W.eq (g2 := F0 m 1622 ls [.long (n_cut (xs 2) (n_combine (xs 1) 1 (n_cut (xs 2) ((((xs 4).toInt64) <<< ((32 : Int32).toInt64 &&& 63)) ||| (((xs 5).toInt64) &&& 4294967295))) (n_cut (xs 3) ((((xs 6).toInt64) <<< ((32 : Int32).toInt64 &&& 63)) ||| (((xs 7).toInt64) &&& 4294967295)))))]) rfl ?_
        refine lv_lload hx hb dL_law_1622 (lv_at hl 0 rfl) ?_
        refine W.lcmp hx hb dL_law_1624 ?_
        refine lv_if_eq (tgt := 1630) hx hb dL_law_1625 (by decide) (fun c_100780 => ?_) (fun c_100780 => ?_)
        · skip
          refine lv_goto (tgt := 1804) hx hb dL_law_1630 (by decide) ?_
          exact lk_tail hC hA2 (lv_sub hl [2, 6] rfl) hS (Nat.le_of_ble_eq_true rfl) (Nat.le_of_ble_eq_true rfl)
        · exact absurd ((lg_cmp_eq _ _).mpr (qx_w1 c_94 c_100159 (fun q => c_96 q.2) (by unfold q_sign; rw [if_neg c_100164, if_neg c_100165, if_neg c_100166, if_neg c_100167, if_neg c_100168, if_neg c_100169, if_neg c_100170, if_neg c_100171, if_neg c_100172, if_neg c_100173]))) c_100780
    · exact absurd (by decide) c_100778
  · exact False.elim (by have a1 := (iyE (n := 9) hz.2.2.2.2.2.2.2.2.2.2.2.2.2.2.2.1 (by decide)); have a2 := (ixA (n := 8) (Int32.not_le.mp c_98) (by decide)); omega)
  · exact False.elim (by have a1 := (iyE (n := 9) hz.2.2.2.2.2.2.2.2.2.2.2.2.2.2.2.1 (by decide)); have a2 := (ixA (n := 8) (Int32.not_le.mp c_98) (by decide)); omega)
  · exact False.elim (by have a1 := (iyE (n := 8) hz.2.2.2.2.2.2.2.2.2.2.2.2.2.2.1 (by decide)); have a2 := (ixA (n := 8) (Int32.not_le.mp c_98) (by decide)); omega)
  · exact False.elim (by have a1 := (iyE (n := 8) hz.2.2.2.2.2.2.2.2.2.2.2.2.2.2.1 (by decide)); have a2 := (ixA (n := 8) (Int32.not_le.mp c_98) (by decide)); omega)
  · exact absurd hz.2.2.2.2.2.2.2.2.2.2.2.2.2.2.2.2.1 c_97
  · exact absurd c_99 hz.2.2.2.2.2.2.2.2.2.2.2.2.2.2.2.2.2.2.1
  · obtain ⟨c_100305, c_100306, c_100307, c_100308, c_100309, c_100310, c_100311, c_100312, c_100313, c_100314, c_100315, c_100316, c_100317, c_100318, c_100319, c_100320, c_100321, c_100322, c_100323, w_100324, w_100325⟩ := hz
    subst w_100324
    subst w_100325
    obtain ⟨hP, hD⟩ := va_join (wr := [(h0, .inr (10, [.ref x0, .int 0, .ref x1, .ref x2, .ref x3, .ref x4, .ref x5, .ref x6, .ref x7, .ref x8, .int 0, .int 3000])), (o0, .inl (kA 1, 1, .inr (.inl (vp_updL (fun _ => 0) 0 (n_cut (xs 2) (n_combine (xs 1) 1 (n_cut (xs 2) ((((xs 4).toInt64) <<< ((32 : Int32).toInt64 &&& 63)) ||| (((xs 5).toInt64) &&& 4294967295))) (n_cut (xs 3) ((((xs 6).toInt64) <<< ((32 : Int32).toInt64 &&& 63)) ||| (((xs 7).toInt64) &&& 4294967295)))))))))]) (w1 := [(m0, .inr (11, y0.set 9 (.int 0)))]) hP hD [0] [1, 2] rfl rfl (by decide) (by decide) hk1 hFc hP1 hD1
    generalize H1 = H at hP hS ⊢
    have hP : va_P D vwCl [(h0, .inr (10, [.ref x0, .int 0, .ref x1, .ref x2, .ref x3, .ref x4, .ref x5, .ref x6, .ref x7, .ref x8, .int 0, .int 3000])), (o0, .inl (kA 1, 1, .inr (.inl (vp_updL (fun _ => 0) 0 (n_cut (xs 2) (n_combine (xs 1) 1 (n_cut (xs 2) ((((xs 4).toInt64) <<< ((32 : Int32).toInt64 &&& 63)) ||| (((xs 5).toInt64) &&& 4294967295))) (n_cut (xs 3) ((((xs 6).toInt64) <<< ((32 : Int32).toInt64 &&& 63)) ||| (((xs 7).toInt64) &&& 4294967295))))))))), (m0, .inr (11, y0.set 9 (.int 0)))] H := hP
    have hD : va_D A [(h0, .inr (10, [.ref x0, .int 0, .ref x1, .ref x2, .ref x3, .ref x4, .ref x5, .ref x6, .ref x7, .ref x8, .int 0, .int 3000])), (o0, .inl (kA 1, 1, .inr (.inl (vp_updL (fun _ => 0) 0 (n_cut (xs 2) (n_combine (xs 1) 1 (n_cut (xs 2) ((((xs 4).toInt64) <<< ((32 : Int32).toInt64 &&& 63)) ||| (((xs 5).toInt64) &&& 4294967295))) (n_cut (xs 3) ((((xs 6).toInt64) <<< ((32 : Int32).toInt64 &&& 63)) ||| (((xs 7).toInt64) &&& 4294967295))))))))), (m0, .inr (11, y0.set 9 (.int 0)))] := hD
    refine lv_lstore (lv' := [(6, .long (n_cut (xs 2) (r_two 236 1 (n_cut (xs 2) ((((xs 4).toInt64) <<< ((32 : Int32).toInt64 &&& 63)) ||| (((xs 5).toInt64) &&& 4294967295))) (n_cut (xs 3) ((((xs 6).toInt64) <<< ((32 : Int32).toInt64 &&& 63)) ||| (((xs 7).toInt64) &&& 4294967295)))))), (5, .int 0), (0, .ref b), (1, .ref h0), (2, .ref m0), (3, .ref o0), (4, .int 0)]) hx hb dL_law_1601 hl (by decide) rfl (fun ls hl => ?_)
    refine lv_aload_n hx hb dL_law_1603 rfl (lv_at hl 4 rfl) ?_
    have hPc := hP.sub (ws' := [(m0, .inr (11, y0.set 9 (.int 0)))]) [2] rfl
    have hDc := hD.sub (ws' := [(m0, .inr (11, y0.set 9 (.int 0)))]) [2] (by decide) rfl
    have hFc := va_free (wc := [(m0, .inr (11, y0.set 9 (.int 0)))]) hD hS hA [2] rfl
    refine va_calli (va_runV (As := []) (rest := []) ⟨hx, hb, hml, hown, hts⟩ (a94_X12_thrown l  D kA V H.size m0 (y0.set 9 (.int 0)) (fun k hk => (by rw [List.length_set]; exact (hq k hk))) (List.getElem?_set_self (hq 9 (by decide)))) (cwV 0 hts (gw_V gw_1879 gw_1880 gw_1881 gw_16 gw_1882) rfl rfl rfl (by decide +kernel) ⟨(Nat.le_of_ble_eq_true rfl), (Nat.le_of_ble_eq_true rfl)⟩) ⟨aP.blind, va_recv hK hP (ci := 11) (q0 := 2) rfl rfl, aP.pre hE hS hPc hK hDc hFc⟩ rfl rfl hl.1 rfl (lv_room (Nat.le_of_ble_eq_true rfl)) dL_law_1604 ⟨(Nat.le_of_ble_eq_true rfl), (Nat.le_of_ble_eq_true rfl)⟩) hS (fun q _ h => hFc q h) hFc (fun r_100781 u t H1 locs ht hvm hw hB hz1 hk1 hS => ?_)
    obtain ⟨hP1, hD1⟩ := hB
    rw [ht] at hP1
    try dsimp only at hw hP1 hD1
    have w_100782 := hw
    subst w_100782
    obtain ⟨hP, hD⟩ := va_join (wr := [(h0, .inr (10, [.ref x0, .int 0, .ref x1, .ref x2, .ref x3, .ref x4, .ref x5, .ref x6, .ref x7, .ref x8, .int 0, .int 3000])), (o0, .inl (kA 1, 1, .inr (.inl (vp_updL (fun _ => 0) 0 (n_cut (xs 2) (n_combine (xs 1) 1 (n_cut (xs 2) ((((xs 4).toInt64) <<< ((32 : Int32).toInt64 &&& 63)) ||| (((xs 5).toInt64) &&& 4294967295))) (n_cut (xs 3) ((((xs 6).toInt64) <<< ((32 : Int32).toInt64 &&& 63)) ||| (((xs 7).toInt64) &&& 4294967295)))))))))]) (w1 := [(m0, .inr (11, (y0.set 9 (.int 0))))]) hP hD [2] [0, 1] rfl rfl (by decide) (by decide) hk1 hFc hP1 hD1
    generalize H1 = H at hP hS ⊢
    have hP : va_P D vwCl [(h0, .inr (10, [.ref x0, .int 0, .ref x1, .ref x2, .ref x3, .ref x4, .ref x5, .ref x6, .ref x7, .ref x8, .int 0, .int 3000])), (o0, .inl (kA 1, 1, .inr (.inl (vp_updL (fun _ => 0) 0 (n_cut (xs 2) (n_combine (xs 1) 1 (n_cut (xs 2) ((((xs 4).toInt64) <<< ((32 : Int32).toInt64 &&& 63)) ||| (((xs 5).toInt64) &&& 4294967295))) (n_cut (xs 3) ((((xs 6).toInt64) <<< ((32 : Int32).toInt64 &&& 63)) ||| (((xs 7).toInt64) &&& 4294967295))))))))), (m0, .inr (11, (y0.set 9 (.int 0))))] H := hP
    have hD : va_D A [(h0, .inr (10, [.ref x0, .int 0, .ref x1, .ref x2, .ref x3, .ref x4, .ref x5, .ref x6, .ref x7, .ref x8, .int 0, .int 3000])), (o0, .inl (kA 1, 1, .inr (.inl (vp_updL (fun _ => 0) 0 (n_cut (xs 2) (n_combine (xs 1) 1 (n_cut (xs 2) ((((xs 4).toInt64) <<< ((32 : Int32).toInt64 &&& 63)) ||| (((xs 5).toInt64) &&& 4294967295))) (n_cut (xs 3) ((((xs 6).toInt64) <<< ((32 : Int32).toInt64 &&& 63)) ||| (((xs 7).toInt64) &&& 4294967295))))))))), (m0, .inr (11, (y0.set 9 (.int 0))))] := hD
    refine lv_iload hx hb dL_law_1607 (lv_at hl 1 rfl) ?_
    refine lv_icmp_eq (tgt := 1614) hx hb dL_law_1609 (by decide) (fun c_100783 => ?_) (fun c_100783 => ?_)
    · skip
      refine lv_iload hx hb dL_law_1614 (lv_at hl 1 rfl) ?_
      refine lv_if_ne (tgt := 1630) hx hb dL_law_1616 (by decide) (fun c_100784 => ?_) (fun c_100784 => ?_)
      · exact absurd (by decide) c_100784
      · skip
        refine lv_aload_n hx hb dL_law_1619 rfl (lv_at hl 5 rfl) ?_
        refine lv_iconst (v := 0) hx hb dL_law_1620 (by decide) ?_
        refine va_lald hx hb hK hP 1 1 rfl rfl (show vp_in 0 1 by unfold vp_in; decide) dL_law_1621 ?_
        refine W.eq (g2 := F0 m 1622 ls [.long (n_cut (xs 2) (n_combine (xs 1) 1 (n_cut (xs 2) ((((xs 4).toInt64) <<< ((32 : Int32).toInt64 &&& 63)) ||| (((xs 5).toInt64) &&& 4294967295))) (n_cut (xs 3) ((((xs 6).toInt64) <<< ((32 : Int32).toInt64 &&& 63)) ||| (((xs 7).toInt64) &&& 4294967295)))))]) rfl ?_
        refine lv_lload hx hb dL_law_1622 (lv_at hl 0 rfl) ?_
        refine W.lcmp hx hb dL_law_1624 ?_
        refine lv_if_eq (tgt := 1630) hx hb dL_law_1625 (by decide) (fun c_100785 => ?_) (fun c_100785 => ?_)
        · skip
          refine lv_goto (tgt := 1804) hx hb dL_law_1630 (by decide) ?_
          exact lk_tail hC hA2 (lv_sub hl [2, 6] rfl) hS (Nat.le_of_ble_eq_true rfl) (Nat.le_of_ble_eq_true rfl)
        · exact absurd ((lg_cmp_eq _ _).mpr (qx_w1 c_94 c_100306 (fun q => c_96 q.2) (by rw [c_100318]; decide))) c_100785
    · exact absurd (by decide) c_100783
  · exact absurd hz.2.2.2.2.2.2.2.2.2.2.2.2.2.2.2.1 c_97
  · exact absurd c_99 hz.2.2.2.2.2.2.2.2.2.2.2.2.2.2.2.2.2.1
  · obtain ⟨c_100364, c_100365, c_100366, c_100367, c_100368, c_100369, c_100370, c_100371, c_100372, c_100373, c_100374, c_100375, c_100376, c_100377, c_100378, c_100379, c_100380, c_100381, w_100382, w_100383⟩ := hz
    subst w_100382
    subst w_100383
    obtain ⟨hP, hD⟩ := va_join (wr := [(h0, .inr (10, [.ref x0, .int 0, .ref x1, .ref x2, .ref x3, .ref x4, .ref x5, .ref x6, .ref x7, .ref x8, .int 0, .int 3000])), (o0, .inl (kA 1, 1, .inr (.inl (vp_updL (fun _ => 0) 0 (n_cut (xs 2) (n_combine (xs 1) 1 (n_cut (xs 2) ((((xs 4).toInt64) <<< ((32 : Int32).toInt64 &&& 63)) ||| (((xs 5).toInt64) &&& 4294967295))) (n_cut (xs 3) ((((xs 6).toInt64) <<< ((32 : Int32).toInt64 &&& 63)) ||| (((xs 7).toInt64) &&& 4294967295)))))))))]) (w1 := [(m0, .inr (11, y0.set 9 (.int 0)))]) hP hD [0] [1, 2] rfl rfl (by decide) (by decide) hk1 hFc hP1 hD1
    generalize H1 = H at hP hS ⊢
    have hP : va_P D vwCl [(h0, .inr (10, [.ref x0, .int 0, .ref x1, .ref x2, .ref x3, .ref x4, .ref x5, .ref x6, .ref x7, .ref x8, .int 0, .int 3000])), (o0, .inl (kA 1, 1, .inr (.inl (vp_updL (fun _ => 0) 0 (n_cut (xs 2) (n_combine (xs 1) 1 (n_cut (xs 2) ((((xs 4).toInt64) <<< ((32 : Int32).toInt64 &&& 63)) ||| (((xs 5).toInt64) &&& 4294967295))) (n_cut (xs 3) ((((xs 6).toInt64) <<< ((32 : Int32).toInt64 &&& 63)) ||| (((xs 7).toInt64) &&& 4294967295))))))))), (m0, .inr (11, y0.set 9 (.int 0)))] H := hP
    have hD : va_D A [(h0, .inr (10, [.ref x0, .int 0, .ref x1, .ref x2, .ref x3, .ref x4, .ref x5, .ref x6, .ref x7, .ref x8, .int 0, .int 3000])), (o0, .inl (kA 1, 1, .inr (.inl (vp_updL (fun _ => 0) 0 (n_cut (xs 2) (n_combine (xs 1) 1 (n_cut (xs 2) ((((xs 4).toInt64) <<< ((32 : Int32).toInt64 &&& 63)) ||| (((xs 5).toInt64) &&& 4294967295))) (n_cut (xs 3) ((((xs 6).toInt64) <<< ((32 : Int32).toInt64 &&& 63)) ||| (((xs 7).toInt64) &&& 4294967295))))))))), (m0, .inr (11, y0.set 9 (.int 0)))] := hD
    refine lv_lstore (lv' := [(6, .long (n_cut (xs 2) (r_two 235 1 (n_cut (xs 2) ((((xs 4).toInt64) <<< ((32 : Int32).toInt64 &&& 63)) ||| (((xs 5).toInt64) &&& 4294967295))) (n_cut (xs 3) ((((xs 6).toInt64) <<< ((32 : Int32).toInt64 &&& 63)) ||| (((xs 7).toInt64) &&& 4294967295)))))), (5, .int 0), (0, .ref b), (1, .ref h0), (2, .ref m0), (3, .ref o0), (4, .int 0)]) hx hb dL_law_1601 hl (by decide) rfl (fun ls hl => ?_)
    refine lv_aload_n hx hb dL_law_1603 rfl (lv_at hl 4 rfl) ?_
    have hPc := hP.sub (ws' := [(m0, .inr (11, y0.set 9 (.int 0)))]) [2] rfl
    have hDc := hD.sub (ws' := [(m0, .inr (11, y0.set 9 (.int 0)))]) [2] (by decide) rfl
    have hFc := va_free (wc := [(m0, .inr (11, y0.set 9 (.int 0)))]) hD hS hA [2] rfl
    refine va_calli (va_runV (As := []) (rest := []) ⟨hx, hb, hml, hown, hts⟩ (a94_X12_thrown l  D kA V H.size m0 (y0.set 9 (.int 0)) (fun k hk => (by rw [List.length_set]; exact (hq k hk))) (List.getElem?_set_self (hq 9 (by decide)))) (cwV 0 hts (gw_V gw_1879 gw_1880 gw_1881 gw_16 gw_1882) rfl rfl rfl (by decide +kernel) ⟨(Nat.le_of_ble_eq_true rfl), (Nat.le_of_ble_eq_true rfl)⟩) ⟨aP.blind, va_recv hK hP (ci := 11) (q0 := 2) rfl rfl, aP.pre hE hS hPc hK hDc hFc⟩ rfl rfl hl.1 rfl (lv_room (Nat.le_of_ble_eq_true rfl)) dL_law_1604 ⟨(Nat.le_of_ble_eq_true rfl), (Nat.le_of_ble_eq_true rfl)⟩) hS (fun q _ h => hFc q h) hFc (fun r_100786 u t H1 locs ht hvm hw hB hz1 hk1 hS => ?_)
    obtain ⟨hP1, hD1⟩ := hB
    rw [ht] at hP1
    try dsimp only at hw hP1 hD1
    have w_100787 := hw
    subst w_100787
    obtain ⟨hP, hD⟩ := va_join (wr := [(h0, .inr (10, [.ref x0, .int 0, .ref x1, .ref x2, .ref x3, .ref x4, .ref x5, .ref x6, .ref x7, .ref x8, .int 0, .int 3000])), (o0, .inl (kA 1, 1, .inr (.inl (vp_updL (fun _ => 0) 0 (n_cut (xs 2) (n_combine (xs 1) 1 (n_cut (xs 2) ((((xs 4).toInt64) <<< ((32 : Int32).toInt64 &&& 63)) ||| (((xs 5).toInt64) &&& 4294967295))) (n_cut (xs 3) ((((xs 6).toInt64) <<< ((32 : Int32).toInt64 &&& 63)) ||| (((xs 7).toInt64) &&& 4294967295)))))))))]) (w1 := [(m0, .inr (11, (y0.set 9 (.int 0))))]) hP hD [2] [0, 1] rfl rfl (by decide) (by decide) hk1 hFc hP1 hD1
    generalize H1 = H at hP hS ⊢
    have hP : va_P D vwCl [(h0, .inr (10, [.ref x0, .int 0, .ref x1, .ref x2, .ref x3, .ref x4, .ref x5, .ref x6, .ref x7, .ref x8, .int 0, .int 3000])), (o0, .inl (kA 1, 1, .inr (.inl (vp_updL (fun _ => 0) 0 (n_cut (xs 2) (n_combine (xs 1) 1 (n_cut (xs 2) ((((xs 4).toInt64) <<< ((32 : Int32).toInt64 &&& 63)) ||| (((xs 5).toInt64) &&& 4294967295))) (n_cut (xs 3) ((((xs 6).toInt64) <<< ((32 : Int32).toInt64 &&& 63)) ||| (((xs 7).toInt64) &&& 4294967295))))))))), (m0, .inr (11, (y0.set 9 (.int 0))))] H := hP
    have hD : va_D A [(h0, .inr (10, [.ref x0, .int 0, .ref x1, .ref x2, .ref x3, .ref x4, .ref x5, .ref x6, .ref x7, .ref x8, .int 0, .int 3000])), (o0, .inl (kA 1, 1, .inr (.inl (vp_updL (fun _ => 0) 0 (n_cut (xs 2) (n_combine (xs 1) 1 (n_cut (xs 2) ((((xs 4).toInt64) <<< ((32 : Int32).toInt64 &&& 63)) ||| (((xs 5).toInt64) &&& 4294967295))) (n_cut (xs 3) ((((xs 6).toInt64) <<< ((32 : Int32).toInt64 &&& 63)) ||| (((xs 7).toInt64) &&& 4294967295))))))))), (m0, .inr (11, (y0.set 9 (.int 0))))] := hD
    refine lv_iload hx hb dL_law_1607 (lv_at hl 1 rfl) ?_
    refine lv_icmp_eq (tgt := 1614) hx hb dL_law_1609 (by decide) (fun c_100788 => ?_) (fun c_100788 => ?_)
    · skip
      refine lv_iload hx hb dL_law_1614 (lv_at hl 1 rfl) ?_
      refine lv_if_ne (tgt := 1630) hx hb dL_law_1616 (by decide) (fun c_100789 => ?_) (fun c_100789 => ?_)
      · exact absurd (by decide) c_100789
      · skip
        refine lv_aload_n hx hb dL_law_1619 rfl (lv_at hl 5 rfl) ?_
        refine lv_iconst (v := 0) hx hb dL_law_1620 (by decide) ?_
        refine va_lald hx hb hK hP 1 1 rfl rfl (show vp_in 0 1 by unfold vp_in; decide) dL_law_1621 ?_
        refine W.eq (g2 := F0 m 1622 ls [.long (n_cut (xs 2) (n_combine (xs 1) 1 (n_cut (xs 2) ((((xs 4).toInt64) <<< ((32 : Int32).toInt64 &&& 63)) ||| (((xs 5).toInt64) &&& 4294967295))) (n_cut (xs 3) ((((xs 6).toInt64) <<< ((32 : Int32).toInt64 &&& 63)) ||| (((xs 7).toInt64) &&& 4294967295)))))]) rfl ?_
        refine lv_lload hx hb dL_law_1622 (lv_at hl 0 rfl) ?_
        refine W.lcmp hx hb dL_law_1624 ?_
        refine lv_if_eq (tgt := 1630) hx hb dL_law_1625 (by decide) (fun c_100790 => ?_) (fun c_100790 => ?_)
        · skip
          refine lv_goto (tgt := 1804) hx hb dL_law_1630 (by decide) ?_
          exact lk_tail hC hA2 (lv_sub hl [2, 6] rfl) hS (Nat.le_of_ble_eq_true rfl) (Nat.le_of_ble_eq_true rfl)
        · exact absurd ((lg_cmp_eq _ _).mpr (qx_w1 c_94 c_100365 (fun q => c_96 q.2) (by rw [c_100376]; decide))) c_100790
    · exact absurd (by decide) c_100788
  · exact absurd hz.2.2.2.2.2.2.2.2.2.2.2.2.2.2.1 c_97
  · exact absurd c_99 hz.2.2.2.2.2.2.2.2.2.2.2.2.2.2.2.2.1
  · obtain ⟨c_100420, c_100421, c_100422, c_100423, c_100424, c_100425, c_100426, c_100427, c_100428, c_100429, c_100430, c_100431, c_100432, c_100433, c_100434, c_100435, c_100436, w_100437, w_100438⟩ := hz
    subst w_100437
    subst w_100438
    obtain ⟨hP, hD⟩ := va_join (wr := [(h0, .inr (10, [.ref x0, .int 0, .ref x1, .ref x2, .ref x3, .ref x4, .ref x5, .ref x6, .ref x7, .ref x8, .int 0, .int 3000])), (o0, .inl (kA 1, 1, .inr (.inl (vp_updL (fun _ => 0) 0 (n_cut (xs 2) (n_combine (xs 1) 1 (n_cut (xs 2) ((((xs 4).toInt64) <<< ((32 : Int32).toInt64 &&& 63)) ||| (((xs 5).toInt64) &&& 4294967295))) (n_cut (xs 3) ((((xs 6).toInt64) <<< ((32 : Int32).toInt64 &&& 63)) ||| (((xs 7).toInt64) &&& 4294967295)))))))))]) (w1 := [(m0, .inr (11, y0.set 9 (.int 0)))]) hP hD [0] [1, 2] rfl rfl (by decide) (by decide) hk1 hFc hP1 hD1
    generalize H1 = H at hP hS ⊢
    have hP : va_P D vwCl [(h0, .inr (10, [.ref x0, .int 0, .ref x1, .ref x2, .ref x3, .ref x4, .ref x5, .ref x6, .ref x7, .ref x8, .int 0, .int 3000])), (o0, .inl (kA 1, 1, .inr (.inl (vp_updL (fun _ => 0) 0 (n_cut (xs 2) (n_combine (xs 1) 1 (n_cut (xs 2) ((((xs 4).toInt64) <<< ((32 : Int32).toInt64 &&& 63)) ||| (((xs 5).toInt64) &&& 4294967295))) (n_cut (xs 3) ((((xs 6).toInt64) <<< ((32 : Int32).toInt64 &&& 63)) ||| (((xs 7).toInt64) &&& 4294967295))))))))), (m0, .inr (11, y0.set 9 (.int 0)))] H := hP
    have hD : va_D A [(h0, .inr (10, [.ref x0, .int 0, .ref x1, .ref x2, .ref x3, .ref x4, .ref x5, .ref x6, .ref x7, .ref x8, .int 0, .int 3000])), (o0, .inl (kA 1, 1, .inr (.inl (vp_updL (fun _ => 0) 0 (n_cut (xs 2) (n_combine (xs 1) 1 (n_cut (xs 2) ((((xs 4).toInt64) <<< ((32 : Int32).toInt64 &&& 63)) ||| (((xs 5).toInt64) &&& 4294967295))) (n_cut (xs 3) ((((xs 6).toInt64) <<< ((32 : Int32).toInt64 &&& 63)) ||| (((xs 7).toInt64) &&& 4294967295))))))))), (m0, .inr (11, y0.set 9 (.int 0)))] := hD
    refine lv_lstore (lv' := [(6, .long (n_cut (xs 2) (r_two 237 1 (n_cut (xs 2) ((((xs 4).toInt64) <<< ((32 : Int32).toInt64 &&& 63)) ||| (((xs 5).toInt64) &&& 4294967295))) (n_cut (xs 3) ((((xs 6).toInt64) <<< ((32 : Int32).toInt64 &&& 63)) ||| (((xs 7).toInt64) &&& 4294967295)))))), (5, .int 0), (0, .ref b), (1, .ref h0), (2, .ref m0), (3, .ref o0), (4, .int 0)]) hx hb dL_law_1601 hl (by decide) rfl (fun ls hl => ?_)
    refine lv_aload_n hx hb dL_law_1603 rfl (lv_at hl 4 rfl) ?_
    have hPc := hP.sub (ws' := [(m0, .inr (11, y0.set 9 (.int 0)))]) [2] rfl
    have hDc := hD.sub (ws' := [(m0, .inr (11, y0.set 9 (.int 0)))]) [2] (by decide) rfl
    have hFc := va_free (wc := [(m0, .inr (11, y0.set 9 (.int 0)))]) hD hS hA [2] rfl
    refine va_calli (va_runV (As := []) (rest := []) ⟨hx, hb, hml, hown, hts⟩ (a94_X12_thrown l  D kA V H.size m0 (y0.set 9 (.int 0)) (fun k hk => (by rw [List.length_set]; exact (hq k hk))) (List.getElem?_set_self (hq 9 (by decide)))) (cwV 0 hts (gw_V gw_1879 gw_1880 gw_1881 gw_16 gw_1882) rfl rfl rfl (by decide +kernel) ⟨(Nat.le_of_ble_eq_true rfl), (Nat.le_of_ble_eq_true rfl)⟩) ⟨aP.blind, va_recv hK hP (ci := 11) (q0 := 2) rfl rfl, aP.pre hE hS hPc hK hDc hFc⟩ rfl rfl hl.1 rfl (lv_room (Nat.le_of_ble_eq_true rfl)) dL_law_1604 ⟨(Nat.le_of_ble_eq_true rfl), (Nat.le_of_ble_eq_true rfl)⟩) hS (fun q _ h => hFc q h) hFc (fun r_100791 u t H1 locs ht hvm hw hB hz1 hk1 hS => ?_)
    obtain ⟨hP1, hD1⟩ := hB
    rw [ht] at hP1
    try dsimp only at hw hP1 hD1
    have w_100792 := hw
    subst w_100792
    obtain ⟨hP, hD⟩ := va_join (wr := [(h0, .inr (10, [.ref x0, .int 0, .ref x1, .ref x2, .ref x3, .ref x4, .ref x5, .ref x6, .ref x7, .ref x8, .int 0, .int 3000])), (o0, .inl (kA 1, 1, .inr (.inl (vp_updL (fun _ => 0) 0 (n_cut (xs 2) (n_combine (xs 1) 1 (n_cut (xs 2) ((((xs 4).toInt64) <<< ((32 : Int32).toInt64 &&& 63)) ||| (((xs 5).toInt64) &&& 4294967295))) (n_cut (xs 3) ((((xs 6).toInt64) <<< ((32 : Int32).toInt64 &&& 63)) ||| (((xs 7).toInt64) &&& 4294967295)))))))))]) (w1 := [(m0, .inr (11, (y0.set 9 (.int 0))))]) hP hD [2] [0, 1] rfl rfl (by decide) (by decide) hk1 hFc hP1 hD1
    generalize H1 = H at hP hS ⊢
    have hP : va_P D vwCl [(h0, .inr (10, [.ref x0, .int 0, .ref x1, .ref x2, .ref x3, .ref x4, .ref x5, .ref x6, .ref x7, .ref x8, .int 0, .int 3000])), (o0, .inl (kA 1, 1, .inr (.inl (vp_updL (fun _ => 0) 0 (n_cut (xs 2) (n_combine (xs 1) 1 (n_cut (xs 2) ((((xs 4).toInt64) <<< ((32 : Int32).toInt64 &&& 63)) ||| (((xs 5).toInt64) &&& 4294967295))) (n_cut (xs 3) ((((xs 6).toInt64) <<< ((32 : Int32).toInt64 &&& 63)) ||| (((xs 7).toInt64) &&& 4294967295))))))))), (m0, .inr (11, (y0.set 9 (.int 0))))] H := hP
    have hD : va_D A [(h0, .inr (10, [.ref x0, .int 0, .ref x1, .ref x2, .ref x3, .ref x4, .ref x5, .ref x6, .ref x7, .ref x8, .int 0, .int 3000])), (o0, .inl (kA 1, 1, .inr (.inl (vp_updL (fun _ => 0) 0 (n_cut (xs 2) (n_combine (xs 1) 1 (n_cut (xs 2) ((((xs 4).toInt64) <<< ((32 : Int32).toInt64 &&& 63)) ||| (((xs 5).toInt64) &&& 4294967295))) (n_cut (xs 3) ((((xs 6).toInt64) <<< ((32 : Int32).toInt64 &&& 63)) ||| (((xs 7).toInt64) &&& 4294967295))))))))), (m0, .inr (11, (y0.set 9 (.int 0))))] := hD
    refine lv_iload hx hb dL_law_1607 (lv_at hl 1 rfl) ?_
    refine lv_icmp_eq (tgt := 1614) hx hb dL_law_1609 (by decide) (fun c_100793 => ?_) (fun c_100793 => ?_)
    · skip
      refine lv_iload hx hb dL_law_1614 (lv_at hl 1 rfl) ?_
      refine lv_if_ne (tgt := 1630) hx hb dL_law_1616 (by decide) (fun c_100794 => ?_) (fun c_100794 => ?_)
      · exact absurd (by decide) c_100794
      · skip
        refine lv_aload_n hx hb dL_law_1619 rfl (lv_at hl 5 rfl) ?_
        refine lv_iconst (v := 0) hx hb dL_law_1620 (by decide) ?_
        refine va_lald hx hb hK hP 1 1 rfl rfl (show vp_in 0 1 by unfold vp_in; decide) dL_law_1621 ?_
        refine W.eq (g2 := F0 m 1622 ls [.long (n_cut (xs 2) (n_combine (xs 1) 1 (n_cut (xs 2) ((((xs 4).toInt64) <<< ((32 : Int32).toInt64 &&& 63)) ||| (((xs 5).toInt64) &&& 4294967295))) (n_cut (xs 3) ((((xs 6).toInt64) <<< ((32 : Int32).toInt64 &&& 63)) ||| (((xs 7).toInt64) &&& 4294967295)))))]) rfl ?_
        refine lv_lload hx hb dL_law_1622 (lv_at hl 0 rfl) ?_
        refine W.lcmp hx hb dL_law_1624 ?_
        refine lv_if_eq (tgt := 1630) hx hb dL_law_1625 (by decide) (fun c_100795 => ?_) (fun c_100795 => ?_)
        · skip
          refine lv_goto (tgt := 1804) hx hb dL_law_1630 (by decide) ?_
          exact lk_tail hC hA2 (lv_sub hl [2, 6] rfl) hS (Nat.le_of_ble_eq_true rfl) (Nat.le_of_ble_eq_true rfl)
        · exact absurd ((lg_cmp_eq _ _).mpr (qx_w1 c_94 c_100421 (fun q => c_96 q.2) (by rw [c_100431]; decide))) c_100795
    · exact absurd (by decide) c_100793
  · exact absurd hz.2.2.2.2.2.2.2.2.2.2.2.2.2.2.1 c_97
  · exact absurd c_99 hz.2.2.2.2.2.2.2.2.2.2.2.2.2.2.2.2.1
  · obtain ⟨c_100475, c_100476, c_100477, c_100478, c_100479, c_100480, c_100481, c_100482, c_100483, c_100484, c_100485, c_100486, c_100487, c_100488, c_100489, c_100490, c_100491, w_100492, w_100493⟩ := hz
    subst w_100492
    subst w_100493
    obtain ⟨hP, hD⟩ := va_join (wr := [(h0, .inr (10, [.ref x0, .int 0, .ref x1, .ref x2, .ref x3, .ref x4, .ref x5, .ref x6, .ref x7, .ref x8, .int 0, .int 3000])), (o0, .inl (kA 1, 1, .inr (.inl (vp_updL (fun _ => 0) 0 (n_cut (xs 2) (n_combine (xs 1) 1 (n_cut (xs 2) ((((xs 4).toInt64) <<< ((32 : Int32).toInt64 &&& 63)) ||| (((xs 5).toInt64) &&& 4294967295))) (n_cut (xs 3) ((((xs 6).toInt64) <<< ((32 : Int32).toInt64 &&& 63)) ||| (((xs 7).toInt64) &&& 4294967295)))))))))]) (w1 := [(m0, .inr (11, y0.set 9 (.int 0)))]) hP hD [0] [1, 2] rfl rfl (by decide) (by decide) hk1 hFc hP1 hD1
    generalize H1 = H at hP hS ⊢
    have hP : va_P D vwCl [(h0, .inr (10, [.ref x0, .int 0, .ref x1, .ref x2, .ref x3, .ref x4, .ref x5, .ref x6, .ref x7, .ref x8, .int 0, .int 3000])), (o0, .inl (kA 1, 1, .inr (.inl (vp_updL (fun _ => 0) 0 (n_cut (xs 2) (n_combine (xs 1) 1 (n_cut (xs 2) ((((xs 4).toInt64) <<< ((32 : Int32).toInt64 &&& 63)) ||| (((xs 5).toInt64) &&& 4294967295))) (n_cut (xs 3) ((((xs 6).toInt64) <<< ((32 : Int32).toInt64 &&& 63)) ||| (((xs 7).toInt64) &&& 4294967295))))))))), (m0, .inr (11, y0.set 9 (.int 0)))] H := hP
    have hD : va_D A [(h0, .inr (10, [.ref x0, .int 0, .ref x1, .ref x2, .ref x3, .ref x4, .ref x5, .ref x6, .ref x7, .ref x8, .int 0, .int 3000])), (o0, .inl (kA 1, 1, .inr (.inl (vp_updL (fun _ => 0) 0 (n_cut (xs 2) (n_combine (xs 1) 1 (n_cut (xs 2) ((((xs 4).toInt64) <<< ((32 : Int32).toInt64 &&& 63)) ||| (((xs 5).toInt64) &&& 4294967295))) (n_cut (xs 3) ((((xs 6).toInt64) <<< ((32 : Int32).toInt64 &&& 63)) ||| (((xs 7).toInt64) &&& 4294967295))))))))), (m0, .inr (11, y0.set 9 (.int 0)))] := hD
    refine lv_lstore (lv' := [(6, .long (n_cut (xs 2) (r_two 244 1 (n_cut (xs 2) ((((xs 4).toInt64) <<< ((32 : Int32).toInt64 &&& 63)) ||| (((xs 5).toInt64) &&& 4294967295))) (n_cut (xs 3) ((((xs 6).toInt64) <<< ((32 : Int32).toInt64 &&& 63)) ||| (((xs 7).toInt64) &&& 4294967295)))))), (5, .int 0), (0, .ref b), (1, .ref h0), (2, .ref m0), (3, .ref o0), (4, .int 0)]) hx hb dL_law_1601 hl (by decide) rfl (fun ls hl => ?_)
    refine lv_aload_n hx hb dL_law_1603 rfl (lv_at hl 4 rfl) ?_
    have hPc := hP.sub (ws' := [(m0, .inr (11, y0.set 9 (.int 0)))]) [2] rfl
    have hDc := hD.sub (ws' := [(m0, .inr (11, y0.set 9 (.int 0)))]) [2] (by decide) rfl
    have hFc := va_free (wc := [(m0, .inr (11, y0.set 9 (.int 0)))]) hD hS hA [2] rfl
    refine va_calli (va_runV (As := []) (rest := []) ⟨hx, hb, hml, hown, hts⟩ (a94_X12_thrown l  D kA V H.size m0 (y0.set 9 (.int 0)) (fun k hk => (by rw [List.length_set]; exact (hq k hk))) (List.getElem?_set_self (hq 9 (by decide)))) (cwV 0 hts (gw_V gw_1879 gw_1880 gw_1881 gw_16 gw_1882) rfl rfl rfl (by decide +kernel) ⟨(Nat.le_of_ble_eq_true rfl), (Nat.le_of_ble_eq_true rfl)⟩) ⟨aP.blind, va_recv hK hP (ci := 11) (q0 := 2) rfl rfl, aP.pre hE hS hPc hK hDc hFc⟩ rfl rfl hl.1 rfl (lv_room (Nat.le_of_ble_eq_true rfl)) dL_law_1604 ⟨(Nat.le_of_ble_eq_true rfl), (Nat.le_of_ble_eq_true rfl)⟩) hS (fun q _ h => hFc q h) hFc (fun r_100796 u t H1 locs ht hvm hw hB hz1 hk1 hS => ?_)
    obtain ⟨hP1, hD1⟩ := hB
    rw [ht] at hP1
    try dsimp only at hw hP1 hD1
    have w_100797 := hw
    subst w_100797
    obtain ⟨hP, hD⟩ := va_join (wr := [(h0, .inr (10, [.ref x0, .int 0, .ref x1, .ref x2, .ref x3, .ref x4, .ref x5, .ref x6, .ref x7, .ref x8, .int 0, .int 3000])), (o0, .inl (kA 1, 1, .inr (.inl (vp_updL (fun _ => 0) 0 (n_cut (xs 2) (n_combine (xs 1) 1 (n_cut (xs 2) ((((xs 4).toInt64) <<< ((32 : Int32).toInt64 &&& 63)) ||| (((xs 5).toInt64) &&& 4294967295))) (n_cut (xs 3) ((((xs 6).toInt64) <<< ((32 : Int32).toInt64 &&& 63)) ||| (((xs 7).toInt64) &&& 4294967295)))))))))]) (w1 := [(m0, .inr (11, (y0.set 9 (.int 0))))]) hP hD [2] [0, 1] rfl rfl (by decide) (by decide) hk1 hFc hP1 hD1
    generalize H1 = H at hP hS ⊢
    have hP : va_P D vwCl [(h0, .inr (10, [.ref x0, .int 0, .ref x1, .ref x2, .ref x3, .ref x4, .ref x5, .ref x6, .ref x7, .ref x8, .int 0, .int 3000])), (o0, .inl (kA 1, 1, .inr (.inl (vp_updL (fun _ => 0) 0 (n_cut (xs 2) (n_combine (xs 1) 1 (n_cut (xs 2) ((((xs 4).toInt64) <<< ((32 : Int32).toInt64 &&& 63)) ||| (((xs 5).toInt64) &&& 4294967295))) (n_cut (xs 3) ((((xs 6).toInt64) <<< ((32 : Int32).toInt64 &&& 63)) ||| (((xs 7).toInt64) &&& 4294967295))))))))), (m0, .inr (11, (y0.set 9 (.int 0))))] H := hP
    have hD : va_D A [(h0, .inr (10, [.ref x0, .int 0, .ref x1, .ref x2, .ref x3, .ref x4, .ref x5, .ref x6, .ref x7, .ref x8, .int 0, .int 3000])), (o0, .inl (kA 1, 1, .inr (.inl (vp_updL (fun _ => 0) 0 (n_cut (xs 2) (n_combine (xs 1) 1 (n_cut (xs 2) ((((xs 4).toInt64) <<< ((32 : Int32).toInt64 &&& 63)) ||| (((xs 5).toInt64) &&& 4294967295))) (n_cut (xs 3) ((((xs 6).toInt64) <<< ((32 : Int32).toInt64 &&& 63)) ||| (((xs 7).toInt64) &&& 4294967295))))))))), (m0, .inr (11, (y0.set 9 (.int 0))))] := hD
    refine lv_iload hx hb dL_law_1607 (lv_at hl 1 rfl) ?_
    refine lv_icmp_eq (tgt := 1614) hx hb dL_law_1609 (by decide) (fun c_100798 => ?_) (fun c_100798 => ?_)
    · skip
      refine lv_iload hx hb dL_law_1614 (lv_at hl 1 rfl) ?_
      refine lv_if_ne (tgt := 1630) hx hb dL_law_1616 (by decide) (fun c_100799 => ?_) (fun c_100799 => ?_)
      · exact absurd (by decide) c_100799
      · skip
        refine lv_aload_n hx hb dL_law_1619 rfl (lv_at hl 5 rfl) ?_
        refine lv_iconst (v := 0) hx hb dL_law_1620 (by decide) ?_
        refine va_lald hx hb hK hP 1 1 rfl rfl (show vp_in 0 1 by unfold vp_in; decide) dL_law_1621 ?_
        refine W.eq (g2 := F0 m 1622 ls [.long (n_cut (xs 2) (n_combine (xs 1) 1 (n_cut (xs 2) ((((xs 4).toInt64) <<< ((32 : Int32).toInt64 &&& 63)) ||| (((xs 5).toInt64) &&& 4294967295))) (n_cut (xs 3) ((((xs 6).toInt64) <<< ((32 : Int32).toInt64 &&& 63)) ||| (((xs 7).toInt64) &&& 4294967295)))))]) rfl ?_
        refine lv_lload hx hb dL_law_1622 (lv_at hl 0 rfl) ?_
        refine W.lcmp hx hb dL_law_1624 ?_
        refine lv_if_eq (tgt := 1630) hx hb dL_law_1625 (by decide) (fun c_100800 => ?_) (fun c_100800 => ?_)
        · skip
          refine lv_goto (tgt := 1804) hx hb dL_law_1630 (by decide) ?_
          exact lk_tail hC hA2 (lv_sub hl [2, 6] rfl) hS (Nat.le_of_ble_eq_true rfl) (Nat.le_of_ble_eq_true rfl)
        · exact absurd ((lg_cmp_eq _ _).mpr (qx_w1 c_94 c_100476 (fun q => c_96 q.2) (by rw [c_100485]; decide))) c_100800
    · exact absurd (by decide) c_100798
  · exact absurd hz.2.2.2.2.2.2.2.2.2.2.2.2.2.1 c_96
  · exact absurd hz.2.2.2.2.2.2.2.2.2.2.2.2.2.1 c_96
  · exact absurd hz.2.2.2.2.2.2.2.2.2.2.2.2.2.1 c_96
  · exact absurd hz.2.2.2.2.2.2.2.2.2.2.2.2.1 c_97
  · exact absurd c_99 hz.2.2.2.2.2.2.2.2.2.2.2.2.2.2.1
  · obtain ⟨c_100581, c_100582, c_100583, c_100584, c_100585, c_100586, c_100587, c_100588, c_100589, c_100590, c_100591, c_100592, c_100593, c_100594, c_100595, w_100596, w_100597⟩ := hz
    subst w_100596
    subst w_100597
    obtain ⟨hP, hD⟩ := va_join (wr := [(h0, .inr (10, [.ref x0, .int 0, .ref x1, .ref x2, .ref x3, .ref x4, .ref x5, .ref x6, .ref x7, .ref x8, .int 0, .int 3000])), (o0, .inl (kA 1, 1, .inr (.inl (vp_updL (fun _ => 0) 0 (n_cut (xs 2) (n_combine (xs 1) 1 (n_cut (xs 2) ((((xs 4).toInt64) <<< ((32 : Int32).toInt64 &&& 63)) ||| (((xs 5).toInt64) &&& 4294967295))) (n_cut (xs 3) ((((xs 6).toInt64) <<< ((32 : Int32).toInt64 &&& 63)) ||| (((xs 7).toInt64) &&& 4294967295)))))))))]) (w1 := [(m0, .inr (11, y0.set 9 (.int 0)))]) hP hD [0] [1, 2] rfl rfl (by decide) (by decide) hk1 hFc hP1 hD1
    generalize H1 = H at hP hS ⊢
    have hP : va_P D vwCl [(h0, .inr (10, [.ref x0, .int 0, .ref x1, .ref x2, .ref x3, .ref x4, .ref x5, .ref x6, .ref x7, .ref x8, .int 0, .int 3000])), (o0, .inl (kA 1, 1, .inr (.inl (vp_updL (fun _ => 0) 0 (n_cut (xs 2) (n_combine (xs 1) 1 (n_cut (xs 2) ((((xs 4).toInt64) <<< ((32 : Int32).toInt64 &&& 63)) ||| (((xs 5).toInt64) &&& 4294967295))) (n_cut (xs 3) ((((xs 6).toInt64) <<< ((32 : Int32).toInt64 &&& 63)) ||| (((xs 7).toInt64) &&& 4294967295))))))))), (m0, .inr (11, y0.set 9 (.int 0)))] H := hP
    have hD : va_D A [(h0, .inr (10, [.ref x0, .int 0, .ref x1, .ref x2, .ref x3, .ref x4, .ref x5, .ref x6, .ref x7, .ref x8, .int 0, .int 3000])), (o0, .inl (kA 1, 1, .inr (.inl (vp_updL (fun _ => 0) 0 (n_cut (xs 2) (n_combine (xs 1) 1 (n_cut (xs 2) ((((xs 4).toInt64) <<< ((32 : Int32).toInt64 &&& 63)) ||| (((xs 5).toInt64) &&& 4294967295))) (n_cut (xs 3) ((((xs 6).toInt64) <<< ((32 : Int32).toInt64 &&& 63)) ||| (((xs 7).toInt64) &&& 4294967295))))))))), (m0, .inr (11, y0.set 9 (.int 0)))] := hD
    refine lv_lstore (lv' := [(6, .long (n_cut (xs 2) (r_two 243 1 (n_cut (xs 2) ((((xs 4).toInt64) <<< ((32 : Int32).toInt64 &&& 63)) ||| (((xs 5).toInt64) &&& 4294967295))) (n_cut (xs 3) ((((xs 6).toInt64) <<< ((32 : Int32).toInt64 &&& 63)) ||| (((xs 7).toInt64) &&& 4294967295)))))), (5, .int 0), (0, .ref b), (1, .ref h0), (2, .ref m0), (3, .ref o0), (4, .int 0)]) hx hb dL_law_1601 hl (by decide) rfl (fun ls hl => ?_)
    refine lv_aload_n hx hb dL_law_1603 rfl (lv_at hl 4 rfl) ?_
    have hPc := hP.sub (ws' := [(m0, .inr (11, y0.set 9 (.int 0)))]) [2] rfl
    have hDc := hD.sub (ws' := [(m0, .inr (11, y0.set 9 (.int 0)))]) [2] (by decide) rfl
    have hFc := va_free (wc := [(m0, .inr (11, y0.set 9 (.int 0)))]) hD hS hA [2] rfl
    refine va_calli (va_runV (As := []) (rest := []) ⟨hx, hb, hml, hown, hts⟩ (a94_X12_thrown l  D kA V H.size m0 (y0.set 9 (.int 0)) (fun k hk => (by rw [List.length_set]; exact (hq k hk))) (List.getElem?_set_self (hq 9 (by decide)))) (cwV 0 hts (gw_V gw_1879 gw_1880 gw_1881 gw_16 gw_1882) rfl rfl rfl (by decide +kernel) ⟨(Nat.le_of_ble_eq_true rfl), (Nat.le_of_ble_eq_true rfl)⟩) ⟨aP.blind, va_recv hK hP (ci := 11) (q0 := 2) rfl rfl, aP.pre hE hS hPc hK hDc hFc⟩ rfl rfl hl.1 rfl (lv_room (Nat.le_of_ble_eq_true rfl)) dL_law_1604 ⟨(Nat.le_of_ble_eq_true rfl), (Nat.le_of_ble_eq_true rfl)⟩) hS (fun q _ h => hFc q h) hFc (fun r_100801 u t H1 locs ht hvm hw hB hz1 hk1 hS => ?_)
    obtain ⟨hP1, hD1⟩ := hB
    rw [ht] at hP1
    try dsimp only at hw hP1 hD1
    have w_100802 := hw
    subst w_100802
    obtain ⟨hP, hD⟩ := va_join (wr := [(h0, .inr (10, [.ref x0, .int 0, .ref x1, .ref x2, .ref x3, .ref x4, .ref x5, .ref x6, .ref x7, .ref x8, .int 0, .int 3000])), (o0, .inl (kA 1, 1, .inr (.inl (vp_updL (fun _ => 0) 0 (n_cut (xs 2) (n_combine (xs 1) 1 (n_cut (xs 2) ((((xs 4).toInt64) <<< ((32 : Int32).toInt64 &&& 63)) ||| (((xs 5).toInt64) &&& 4294967295))) (n_cut (xs 3) ((((xs 6).toInt64) <<< ((32 : Int32).toInt64 &&& 63)) ||| (((xs 7).toInt64) &&& 4294967295)))))))))]) (w1 := [(m0, .inr (11, (y0.set 9 (.int 0))))]) hP hD [2] [0, 1] rfl rfl (by decide) (by decide) hk1 hFc hP1 hD1
    generalize H1 = H at hP hS ⊢
    have hP : va_P D vwCl [(h0, .inr (10, [.ref x0, .int 0, .ref x1, .ref x2, .ref x3, .ref x4, .ref x5, .ref x6, .ref x7, .ref x8, .int 0, .int 3000])), (o0, .inl (kA 1, 1, .inr (.inl (vp_updL (fun _ => 0) 0 (n_cut (xs 2) (n_combine (xs 1) 1 (n_cut (xs 2) ((((xs 4).toInt64) <<< ((32 : Int32).toInt64 &&& 63)) ||| (((xs 5).toInt64) &&& 4294967295))) (n_cut (xs 3) ((((xs 6).toInt64) <<< ((32 : Int32).toInt64 &&& 63)) ||| (((xs 7).toInt64) &&& 4294967295))))))))), (m0, .inr (11, (y0.set 9 (.int 0))))] H := hP
    have hD : va_D A [(h0, .inr (10, [.ref x0, .int 0, .ref x1, .ref x2, .ref x3, .ref x4, .ref x5, .ref x6, .ref x7, .ref x8, .int 0, .int 3000])), (o0, .inl (kA 1, 1, .inr (.inl (vp_updL (fun _ => 0) 0 (n_cut (xs 2) (n_combine (xs 1) 1 (n_cut (xs 2) ((((xs 4).toInt64) <<< ((32 : Int32).toInt64 &&& 63)) ||| (((xs 5).toInt64) &&& 4294967295))) (n_cut (xs 3) ((((xs 6).toInt64) <<< ((32 : Int32).toInt64 &&& 63)) ||| (((xs 7).toInt64) &&& 4294967295))))))))), (m0, .inr (11, (y0.set 9 (.int 0))))] := hD
    refine lv_iload hx hb dL_law_1607 (lv_at hl 1 rfl) ?_
    refine lv_icmp_eq (tgt := 1614) hx hb dL_law_1609 (by decide) (fun c_100803 => ?_) (fun c_100803 => ?_)
    · skip
      refine lv_iload hx hb dL_law_1614 (lv_at hl 1 rfl) ?_
      refine lv_if_ne (tgt := 1630) hx hb dL_law_1616 (by decide) (fun c_100804 => ?_) (fun c_100804 => ?_)
      · exact absurd (by decide) c_100804
      · skip
        refine lv_aload_n hx hb dL_law_1619 rfl (lv_at hl 5 rfl) ?_
        refine lv_iconst (v := 0) hx hb dL_law_1620 (by decide) ?_
        refine va_lald hx hb hK hP 1 1 rfl rfl (show vp_in 0 1 by unfold vp_in; decide) dL_law_1621 ?_
        refine W.eq (g2 := F0 m 1622 ls [.long (n_cut (xs 2) (n_combine (xs 1) 1 (n_cut (xs 2) ((((xs 4).toInt64) <<< ((32 : Int32).toInt64 &&& 63)) ||| (((xs 5).toInt64) &&& 4294967295))) (n_cut (xs 3) ((((xs 6).toInt64) <<< ((32 : Int32).toInt64 &&& 63)) ||| (((xs 7).toInt64) &&& 4294967295)))))]) rfl ?_
        refine lv_lload hx hb dL_law_1622 (lv_at hl 0 rfl) ?_
        refine W.lcmp hx hb dL_law_1624 ?_
        refine lv_if_eq (tgt := 1630) hx hb dL_law_1625 (by decide) (fun c_100805 => ?_) (fun c_100805 => ?_)
        · skip
          refine lv_goto (tgt := 1804) hx hb dL_law_1630 (by decide) ?_
          exact lk_tail hC hA2 (lv_sub hl [2, 6] rfl) hS (Nat.le_of_ble_eq_true rfl) (Nat.le_of_ble_eq_true rfl)
        · exact absurd ((lg_cmp_eq _ _).mpr (qx_w1 c_94 c_100582 (fun q => c_96 q.2) (by rw [c_100590]; decide))) c_100805
    · exact absurd (by decide) c_100803
  · exact absurd hz.2.2.2.2.2.2.2.2.2.2.2.1 c_96
  · exact absurd hz.2.2.2.2.2.2.2.2.2.2.2.1 c_96
  · exact absurd hz.2.2.2.2.2.2.2.2.2.2.2.1 c_96
  · exact absurd hz.2.2.2.2.2.2.2.2.2.2.2.1 c_97
  · exact absurd c_99 hz.2.2.2.2.2.2.2.2.2.2.2.2.2.1
  · obtain ⟨c_100677, c_100678, c_100679, c_100680, c_100681, c_100682, c_100683, c_100684, c_100685, c_100686, c_100687, c_100688, c_100689, c_100690, w_100691, w_100692⟩ := hz
    subst w_100691
    subst w_100692
    obtain ⟨hP, hD⟩ := va_join (wr := [(h0, .inr (10, [.ref x0, .int 0, .ref x1, .ref x2, .ref x3, .ref x4, .ref x5, .ref x6, .ref x7, .ref x8, .int 0, .int 3000])), (o0, .inl (kA 1, 1, .inr (.inl (vp_updL (fun _ => 0) 0 (n_cut (xs 2) (n_combine (xs 1) 1 (n_cut (xs 2) ((((xs 4).toInt64) <<< ((32 : Int32).toInt64 &&& 63)) ||| (((xs 5).toInt64) &&& 4294967295))) (n_cut (xs 3) ((((xs 6).toInt64) <<< ((32 : Int32).toInt64 &&& 63)) ||| (((xs 7).toInt64) &&& 4294967295)))))))))]) (w1 := [(m0, .inr (11, y0.set 9 (.int 0)))]) hP hD [0] [1, 2] rfl rfl (by decide) (by decide) hk1 hFc hP1 hD1
    generalize H1 = H at hP hS ⊢
    have hP : va_P D vwCl [(h0, .inr (10, [.ref x0, .int 0, .ref x1, .ref x2, .ref x3, .ref x4, .ref x5, .ref x6, .ref x7, .ref x8, .int 0, .int 3000])), (o0, .inl (kA 1, 1, .inr (.inl (vp_updL (fun _ => 0) 0 (n_cut (xs 2) (n_combine (xs 1) 1 (n_cut (xs 2) ((((xs 4).toInt64) <<< ((32 : Int32).toInt64 &&& 63)) ||| (((xs 5).toInt64) &&& 4294967295))) (n_cut (xs 3) ((((xs 6).toInt64) <<< ((32 : Int32).toInt64 &&& 63)) ||| (((xs 7).toInt64) &&& 4294967295))))))))), (m0, .inr (11, y0.set 9 (.int 0)))] H := hP
    have hD : va_D A [(h0, .inr (10, [.ref x0, .int 0, .ref x1, .ref x2, .ref x3, .ref x4, .ref x5, .ref x6, .ref x7, .ref x8, .int 0, .int 3000])), (o0, .inl (kA 1, 1, .inr (.inl (vp_updL (fun _ => 0) 0 (n_cut (xs 2) (n_combine (xs 1) 1 (n_cut (xs 2) ((((xs 4).toInt64) <<< ((32 : Int32).toInt64 &&& 63)) ||| (((xs 5).toInt64) &&& 4294967295))) (n_cut (xs 3) ((((xs 6).toInt64) <<< ((32 : Int32).toInt64 &&& 63)) ||| (((xs 7).toInt64) &&& 4294967295))))))))), (m0, .inr (11, y0.set 9 (.int 0)))] := hD
    refine lv_lstore (lv' := [(6, .long (n_cut (xs 2) (r_two 242 1 (n_cut (xs 2) ((((xs 4).toInt64) <<< ((32 : Int32).toInt64 &&& 63)) ||| (((xs 5).toInt64) &&& 4294967295))) (n_cut (xs 3) ((((xs 6).toInt64) <<< ((32 : Int32).toInt64 &&& 63)) ||| (((xs 7).toInt64) &&& 4294967295)))))), (5, .int 0), (0, .ref b), (1, .ref h0), (2, .ref m0), (3, .ref o0), (4, .int 0)]) hx hb dL_law_1601 hl (by decide) rfl (fun ls hl => ?_)
    refine lv_aload_n hx hb dL_law_1603 rfl (lv_at hl 4 rfl) ?_
    have hPc := hP.sub (ws' := [(m0, .inr (11, y0.set 9 (.int 0)))]) [2] rfl
    have hDc := hD.sub (ws' := [(m0, .inr (11, y0.set 9 (.int 0)))]) [2] (by decide) rfl
    have hFc := va_free (wc := [(m0, .inr (11, y0.set 9 (.int 0)))]) hD hS hA [2] rfl
    refine va_calli (va_runV (As := []) (rest := []) ⟨hx, hb, hml, hown, hts⟩ (a94_X12_thrown l  D kA V H.size m0 (y0.set 9 (.int 0)) (fun k hk => (by rw [List.length_set]; exact (hq k hk))) (List.getElem?_set_self (hq 9 (by decide)))) (cwV 0 hts (gw_V gw_1879 gw_1880 gw_1881 gw_16 gw_1882) rfl rfl rfl (by decide +kernel) ⟨(Nat.le_of_ble_eq_true rfl), (Nat.le_of_ble_eq_true rfl)⟩) ⟨aP.blind, va_recv hK hP (ci := 11) (q0 := 2) rfl rfl, aP.pre hE hS hPc hK hDc hFc⟩ rfl rfl hl.1 rfl (lv_room (Nat.le_of_ble_eq_true rfl)) dL_law_1604 ⟨(Nat.le_of_ble_eq_true rfl), (Nat.le_of_ble_eq_true rfl)⟩) hS (fun q _ h => hFc q h) hFc (fun r_100806 u t H1 locs ht hvm hw hB hz1 hk1 hS => ?_)
    obtain ⟨hP1, hD1⟩ := hB
    rw [ht] at hP1
    try dsimp only at hw hP1 hD1
    have w_100807 := hw
    subst w_100807
    obtain ⟨hP, hD⟩ := va_join (wr := [(h0, .inr (10, [.ref x0, .int 0, .ref x1, .ref x2, .ref x3, .ref x4, .ref x5, .ref x6, .ref x7, .ref x8, .int 0, .int 3000])), (o0, .inl (kA 1, 1, .inr (.inl (vp_updL (fun _ => 0) 0 (n_cut (xs 2) (n_combine (xs 1) 1 (n_cut (xs 2) ((((xs 4).toInt64) <<< ((32 : Int32).toInt64 &&& 63)) ||| (((xs 5).toInt64) &&& 4294967295))) (n_cut (xs 3) ((((xs 6).toInt64) <<< ((32 : Int32).toInt64 &&& 63)) ||| (((xs 7).toInt64) &&& 4294967295)))))))))]) (w1 := [(m0, .inr (11, (y0.set 9 (.int 0))))]) hP hD [2] [0, 1] rfl rfl (by decide) (by decide) hk1 hFc hP1 hD1
    generalize H1 = H at hP hS ⊢
    have hP : va_P D vwCl [(h0, .inr (10, [.ref x0, .int 0, .ref x1, .ref x2, .ref x3, .ref x4, .ref x5, .ref x6, .ref x7, .ref x8, .int 0, .int 3000])), (o0, .inl (kA 1, 1, .inr (.inl (vp_updL (fun _ => 0) 0 (n_cut (xs 2) (n_combine (xs 1) 1 (n_cut (xs 2) ((((xs 4).toInt64) <<< ((32 : Int32).toInt64 &&& 63)) ||| (((xs 5).toInt64) &&& 4294967295))) (n_cut (xs 3) ((((xs 6).toInt64) <<< ((32 : Int32).toInt64 &&& 63)) ||| (((xs 7).toInt64) &&& 4294967295))))))))), (m0, .inr (11, (y0.set 9 (.int 0))))] H := hP
    have hD : va_D A [(h0, .inr (10, [.ref x0, .int 0, .ref x1, .ref x2, .ref x3, .ref x4, .ref x5, .ref x6, .ref x7, .ref x8, .int 0, .int 3000])), (o0, .inl (kA 1, 1, .inr (.inl (vp_updL (fun _ => 0) 0 (n_cut (xs 2) (n_combine (xs 1) 1 (n_cut (xs 2) ((((xs 4).toInt64) <<< ((32 : Int32).toInt64 &&& 63)) ||| (((xs 5).toInt64) &&& 4294967295))) (n_cut (xs 3) ((((xs 6).toInt64) <<< ((32 : Int32).toInt64 &&& 63)) ||| (((xs 7).toInt64) &&& 4294967295))))))))), (m0, .inr (11, (y0.set 9 (.int 0))))] := hD
    refine lv_iload hx hb dL_law_1607 (lv_at hl 1 rfl) ?_
    refine lv_icmp_eq (tgt := 1614) hx hb dL_law_1609 (by decide) (fun c_100808 => ?_) (fun c_100808 => ?_)
    · skip
      refine lv_iload hx hb dL_law_1614 (lv_at hl 1 rfl) ?_
      refine lv_if_ne (tgt := 1630) hx hb dL_law_1616 (by decide) (fun c_100809 => ?_) (fun c_100809 => ?_)
      · exact absurd (by decide) c_100809
      · skip
        refine lv_aload_n hx hb dL_law_1619 rfl (lv_at hl 5 rfl) ?_
        refine lv_iconst (v := 0) hx hb dL_law_1620 (by decide) ?_
        refine va_lald hx hb hK hP 1 1 rfl rfl (show vp_in 0 1 by unfold vp_in; decide) dL_law_1621 ?_
        refine W.eq (g2 := F0 m 1622 ls [.long (n_cut (xs 2) (n_combine (xs 1) 1 (n_cut (xs 2) ((((xs 4).toInt64) <<< ((32 : Int32).toInt64 &&& 63)) ||| (((xs 5).toInt64) &&& 4294967295))) (n_cut (xs 3) ((((xs 6).toInt64) <<< ((32 : Int32).toInt64 &&& 63)) ||| (((xs 7).toInt64) &&& 4294967295)))))]) rfl ?_
        refine lv_lload hx hb dL_law_1622 (lv_at hl 0 rfl) ?_
        refine W.lcmp hx hb dL_law_1624 ?_
        refine lv_if_eq (tgt := 1630) hx hb dL_law_1625 (by decide) (fun c_100810 => ?_) (fun c_100810 => ?_)
        · skip
          refine lv_goto (tgt := 1804) hx hb dL_law_1630 (by decide) ?_
          exact lk_tail hC hA2 (lv_sub hl [2, 6] rfl) hS (Nat.le_of_ble_eq_true rfl) (Nat.le_of_ble_eq_true rfl)
        · exact absurd ((lg_cmp_eq _ _).mpr (qx_w1 c_94 c_100678 (fun q => c_96 q.2) (by rw [c_100685]; decide))) c_100810
    · exact absurd (by decide) c_100808
  · exact absurd hz.2.2.2.2.2.2.2.2.2.2.1 c_97
  · exact absurd c_99 hz.2.2.2.2.2.2.2.2.2.2.2.2.1
  · obtain ⟨c_100721, c_100722, c_100723, c_100724, c_100725, c_100726, c_100727, c_100728, c_100729, c_100730, c_100731, c_100732, c_100733, w_100734, w_100735⟩ := hz
    subst w_100734
    subst w_100735
    obtain ⟨hP, hD⟩ := va_join (wr := [(h0, .inr (10, [.ref x0, .int 0, .ref x1, .ref x2, .ref x3, .ref x4, .ref x5, .ref x6, .ref x7, .ref x8, .int 0, .int 3000])), (o0, .inl (kA 1, 1, .inr (.inl (vp_updL (fun _ => 0) 0 (n_cut (xs 2) (n_combine (xs 1) 1 (n_cut (xs 2) ((((xs 4).toInt64) <<< ((32 : Int32).toInt64 &&& 63)) ||| (((xs 5).toInt64) &&& 4294967295))) (n_cut (xs 3) ((((xs 6).toInt64) <<< ((32 : Int32).toInt64 &&& 63)) ||| (((xs 7).toInt64) &&& 4294967295)))))))))]) (w1 := [(m0, .inr (11, y0.set 9 (.int 0)))]) hP hD [0] [1, 2] rfl rfl (by decide) (by decide) hk1 hFc hP1 hD1
    generalize H1 = H at hP hS ⊢
    have hP : va_P D vwCl [(h0, .inr (10, [.ref x0, .int 0, .ref x1, .ref x2, .ref x3, .ref x4, .ref x5, .ref x6, .ref x7, .ref x8, .int 0, .int 3000])), (o0, .inl (kA 1, 1, .inr (.inl (vp_updL (fun _ => 0) 0 (n_cut (xs 2) (n_combine (xs 1) 1 (n_cut (xs 2) ((((xs 4).toInt64) <<< ((32 : Int32).toInt64 &&& 63)) ||| (((xs 5).toInt64) &&& 4294967295))) (n_cut (xs 3) ((((xs 6).toInt64) <<< ((32 : Int32).toInt64 &&& 63)) ||| (((xs 7).toInt64) &&& 4294967295))))))))), (m0, .inr (11, y0.set 9 (.int 0)))] H := hP
    have hD : va_D A [(h0, .inr (10, [.ref x0, .int 0, .ref x1, .ref x2, .ref x3, .ref x4, .ref x5, .ref x6, .ref x7, .ref x8, .int 0, .int 3000])), (o0, .inl (kA 1, 1, .inr (.inl (vp_updL (fun _ => 0) 0 (n_cut (xs 2) (n_combine (xs 1) 1 (n_cut (xs 2) ((((xs 4).toInt64) <<< ((32 : Int32).toInt64 &&& 63)) ||| (((xs 5).toInt64) &&& 4294967295))) (n_cut (xs 3) ((((xs 6).toInt64) <<< ((32 : Int32).toInt64 &&& 63)) ||| (((xs 7).toInt64) &&& 4294967295))))))))), (m0, .inr (11, y0.set 9 (.int 0)))] := hD
    refine lv_lstore (lv' := [(6, .long (n_cut (xs 2) (r_two 241 1 (n_cut (xs 2) ((((xs 4).toInt64) <<< ((32 : Int32).toInt64 &&& 63)) ||| (((xs 5).toInt64) &&& 4294967295))) (n_cut (xs 3) ((((xs 6).toInt64) <<< ((32 : Int32).toInt64 &&& 63)) ||| (((xs 7).toInt64) &&& 4294967295)))))), (5, .int 0), (0, .ref b), (1, .ref h0), (2, .ref m0), (3, .ref o0), (4, .int 0)]) hx hb dL_law_1601 hl (by decide) rfl (fun ls hl => ?_)
    refine lv_aload_n hx hb dL_law_1603 rfl (lv_at hl 4 rfl) ?_
    have hPc := hP.sub (ws' := [(m0, .inr (11, y0.set 9 (.int 0)))]) [2] rfl
    have hDc := hD.sub (ws' := [(m0, .inr (11, y0.set 9 (.int 0)))]) [2] (by decide) rfl
    have hFc := va_free (wc := [(m0, .inr (11, y0.set 9 (.int 0)))]) hD hS hA [2] rfl
    refine va_calli (va_runV (As := []) (rest := []) ⟨hx, hb, hml, hown, hts⟩ (a94_X12_thrown l  D kA V H.size m0 (y0.set 9 (.int 0)) (fun k hk => (by rw [List.length_set]; exact (hq k hk))) (List.getElem?_set_self (hq 9 (by decide)))) (cwV 0 hts (gw_V gw_1879 gw_1880 gw_1881 gw_16 gw_1882) rfl rfl rfl (by decide +kernel) ⟨(Nat.le_of_ble_eq_true rfl), (Nat.le_of_ble_eq_true rfl)⟩) ⟨aP.blind, va_recv hK hP (ci := 11) (q0 := 2) rfl rfl, aP.pre hE hS hPc hK hDc hFc⟩ rfl rfl hl.1 rfl (lv_room (Nat.le_of_ble_eq_true rfl)) dL_law_1604 ⟨(Nat.le_of_ble_eq_true rfl), (Nat.le_of_ble_eq_true rfl)⟩) hS (fun q _ h => hFc q h) hFc (fun r_100811 u t H1 locs ht hvm hw hB hz1 hk1 hS => ?_)
    obtain ⟨hP1, hD1⟩ := hB
    rw [ht] at hP1
    try dsimp only at hw hP1 hD1
    have w_100812 := hw
    subst w_100812
    obtain ⟨hP, hD⟩ := va_join (wr := [(h0, .inr (10, [.ref x0, .int 0, .ref x1, .ref x2, .ref x3, .ref x4, .ref x5, .ref x6, .ref x7, .ref x8, .int 0, .int 3000])), (o0, .inl (kA 1, 1, .inr (.inl (vp_updL (fun _ => 0) 0 (n_cut (xs 2) (n_combine (xs 1) 1 (n_cut (xs 2) ((((xs 4).toInt64) <<< ((32 : Int32).toInt64 &&& 63)) ||| (((xs 5).toInt64) &&& 4294967295))) (n_cut (xs 3) ((((xs 6).toInt64) <<< ((32 : Int32).toInt64 &&& 63)) ||| (((xs 7).toInt64) &&& 4294967295)))))))))]) (w1 := [(m0, .inr (11, (y0.set 9 (.int 0))))]) hP hD [2] [0, 1] rfl rfl (by decide) (by decide) hk1 hFc hP1 hD1
    generalize H1 = H at hP hS ⊢
    have hP : va_P D vwCl [(h0, .inr (10, [.ref x0, .int 0, .ref x1, .ref x2, .ref x3, .ref x4, .ref x5, .ref x6, .ref x7, .ref x8, .int 0, .int 3000])), (o0, .inl (kA 1, 1, .inr (.inl (vp_updL (fun _ => 0) 0 (n_cut (xs 2) (n_combine (xs 1) 1 (n_cut (xs 2) ((((xs 4).toInt64) <<< ((32 : Int32).toInt64 &&& 63)) ||| (((xs 5).toInt64) &&& 4294967295))) (n_cut (xs 3) ((((xs 6).toInt64) <<< ((32 : Int32).toInt64 &&& 63)) ||| (((xs 7).toInt64) &&& 4294967295))))))))), (m0, .inr (11, (y0.set 9 (.int 0))))] H := hP
    have hD : va_D A [(h0, .inr (10, [.ref x0, .int 0, .ref x1, .ref x2, .ref x3, .ref x4, .ref x5, .ref x6, .ref x7, .ref x8, .int 0, .int 3000])), (o0, .inl (kA 1, 1, .inr (.inl (vp_updL (fun _ => 0) 0 (n_cut (xs 2) (n_combine (xs 1) 1 (n_cut (xs 2) ((((xs 4).toInt64) <<< ((32 : Int32).toInt64 &&& 63)) ||| (((xs 5).toInt64) &&& 4294967295))) (n_cut (xs 3) ((((xs 6).toInt64) <<< ((32 : Int32).toInt64 &&& 63)) ||| (((xs 7).toInt64) &&& 4294967295))))))))), (m0, .inr (11, (y0.set 9 (.int 0))))] := hD
    refine lv_iload hx hb dL_law_1607 (lv_at hl 1 rfl) ?_
    refine lv_icmp_eq (tgt := 1614) hx hb dL_law_1609 (by decide) (fun c_100813 => ?_) (fun c_100813 => ?_)
    · skip
      refine lv_iload hx hb dL_law_1614 (lv_at hl 1 rfl) ?_
      refine lv_if_ne (tgt := 1630) hx hb dL_law_1616 (by decide) (fun c_100814 => ?_) (fun c_100814 => ?_)
      · exact absurd (by decide) c_100814
      · skip
        refine lv_aload_n hx hb dL_law_1619 rfl (lv_at hl 5 rfl) ?_
        refine lv_iconst (v := 0) hx hb dL_law_1620 (by decide) ?_
        refine va_lald hx hb hK hP 1 1 rfl rfl (show vp_in 0 1 by unfold vp_in; decide) dL_law_1621 ?_
        refine W.eq (g2 := F0 m 1622 ls [.long (n_cut (xs 2) (n_combine (xs 1) 1 (n_cut (xs 2) ((((xs 4).toInt64) <<< ((32 : Int32).toInt64 &&& 63)) ||| (((xs 5).toInt64) &&& 4294967295))) (n_cut (xs 3) ((((xs 6).toInt64) <<< ((32 : Int32).toInt64 &&& 63)) ||| (((xs 7).toInt64) &&& 4294967295)))))]) rfl ?_
        refine lv_lload hx hb dL_law_1622 (lv_at hl 0 rfl) ?_
        refine W.lcmp hx hb dL_law_1624 ?_
        refine lv_if_eq (tgt := 1630) hx hb dL_law_1625 (by decide) (fun c_100815 => ?_) (fun c_100815 => ?_)
        · skip
          refine lv_goto (tgt := 1804) hx hb dL_law_1630 (by decide) ?_
          exact lk_tail hC hA2 (lv_sub hl [2, 6] rfl) hS (Nat.le_of_ble_eq_true rfl) (Nat.le_of_ble_eq_true rfl)
        · exact absurd ((lg_cmp_eq _ _).mpr (qx_w1 c_94 c_100722 (fun q => c_96 q.2) (by rw [c_100728]; decide))) c_100815
    · exact absurd (by decide) c_100813
  · exact absurd hz.2.2.2.2.2.2.2.2.2.1 c_97
  · exact absurd c_99 hz.2.2.2.2.2.2.2.2.2.2.2.1
  · obtain ⟨c_100762, c_100763, c_100764, c_100765, c_100766, c_100767, c_100768, c_100769, c_100770, c_100771, c_100772, c_100773, w_100774, w_100775⟩ := hz
    subst w_100774
    subst w_100775
    obtain ⟨hP, hD⟩ := va_join (wr := [(h0, .inr (10, [.ref x0, .int 0, .ref x1, .ref x2, .ref x3, .ref x4, .ref x5, .ref x6, .ref x7, .ref x8, .int 0, .int 3000])), (o0, .inl (kA 1, 1, .inr (.inl (vp_updL (fun _ => 0) 0 (n_cut (xs 2) (n_combine (xs 1) 1 (n_cut (xs 2) ((((xs 4).toInt64) <<< ((32 : Int32).toInt64 &&& 63)) ||| (((xs 5).toInt64) &&& 4294967295))) (n_cut (xs 3) ((((xs 6).toInt64) <<< ((32 : Int32).toInt64 &&& 63)) ||| (((xs 7).toInt64) &&& 4294967295)))))))))]) (w1 := [(m0, .inr (11, y0.set 9 (.int 0)))]) hP hD [0] [1, 2] rfl rfl (by decide) (by decide) hk1 hFc hP1 hD1
    generalize H1 = H at hP hS ⊢
    have hP : va_P D vwCl [(h0, .inr (10, [.ref x0, .int 0, .ref x1, .ref x2, .ref x3, .ref x4, .ref x5, .ref x6, .ref x7, .ref x8, .int 0, .int 3000])), (o0, .inl (kA 1, 1, .inr (.inl (vp_updL (fun _ => 0) 0 (n_cut (xs 2) (n_combine (xs 1) 1 (n_cut (xs 2) ((((xs 4).toInt64) <<< ((32 : Int32).toInt64 &&& 63)) ||| (((xs 5).toInt64) &&& 4294967295))) (n_cut (xs 3) ((((xs 6).toInt64) <<< ((32 : Int32).toInt64 &&& 63)) ||| (((xs 7).toInt64) &&& 4294967295))))))))), (m0, .inr (11, y0.set 9 (.int 0)))] H := hP
    have hD : va_D A [(h0, .inr (10, [.ref x0, .int 0, .ref x1, .ref x2, .ref x3, .ref x4, .ref x5, .ref x6, .ref x7, .ref x8, .int 0, .int 3000])), (o0, .inl (kA 1, 1, .inr (.inl (vp_updL (fun _ => 0) 0 (n_cut (xs 2) (n_combine (xs 1) 1 (n_cut (xs 2) ((((xs 4).toInt64) <<< ((32 : Int32).toInt64 &&& 63)) ||| (((xs 5).toInt64) &&& 4294967295))) (n_cut (xs 3) ((((xs 6).toInt64) <<< ((32 : Int32).toInt64 &&& 63)) ||| (((xs 7).toInt64) &&& 4294967295))))))))), (m0, .inr (11, y0.set 9 (.int 0)))] := hD
    refine lv_lstore (lv' := [(6, .long (n_cut (xs 2) (r_two 240 1 (n_cut (xs 2) ((((xs 4).toInt64) <<< ((32 : Int32).toInt64 &&& 63)) ||| (((xs 5).toInt64) &&& 4294967295))) (n_cut (xs 3) ((((xs 6).toInt64) <<< ((32 : Int32).toInt64 &&& 63)) ||| (((xs 7).toInt64) &&& 4294967295)))))), (5, .int 0), (0, .ref b), (1, .ref h0), (2, .ref m0), (3, .ref o0), (4, .int 0)]) hx hb dL_law_1601 hl (by decide) rfl (fun ls hl => ?_)
    refine lv_aload_n hx hb dL_law_1603 rfl (lv_at hl 4 rfl) ?_
    have hPc := hP.sub (ws' := [(m0, .inr (11, y0.set 9 (.int 0)))]) [2] rfl
    have hDc := hD.sub (ws' := [(m0, .inr (11, y0.set 9 (.int 0)))]) [2] (by decide) rfl
    have hFc := va_free (wc := [(m0, .inr (11, y0.set 9 (.int 0)))]) hD hS hA [2] rfl
    refine va_calli (va_runV (As := []) (rest := []) ⟨hx, hb, hml, hown, hts⟩ (a94_X12_thrown l  D kA V H.size m0 (y0.set 9 (.int 0)) (fun k hk => (by rw [List.length_set]; exact (hq k hk))) (List.getElem?_set_self (hq 9 (by decide)))) (cwV 0 hts (gw_V gw_1879 gw_1880 gw_1881 gw_16 gw_1882) rfl rfl rfl (by decide +kernel) ⟨(Nat.le_of_ble_eq_true rfl), (Nat.le_of_ble_eq_true rfl)⟩) ⟨aP.blind, va_recv hK hP (ci := 11) (q0 := 2) rfl rfl, aP.pre hE hS hPc hK hDc hFc⟩ rfl rfl hl.1 rfl (lv_room (Nat.le_of_ble_eq_true rfl)) dL_law_1604 ⟨(Nat.le_of_ble_eq_true rfl), (Nat.le_of_ble_eq_true rfl)⟩) hS (fun q _ h => hFc q h) hFc (fun r_100816 u t H1 locs ht hvm hw hB hz1 hk1 hS => ?_)
    obtain ⟨hP1, hD1⟩ := hB
    rw [ht] at hP1
    try dsimp only at hw hP1 hD1
    have w_100817 := hw
    subst w_100817
    obtain ⟨hP, hD⟩ := va_join (wr := [(h0, .inr (10, [.ref x0, .int 0, .ref x1, .ref x2, .ref x3, .ref x4, .ref x5, .ref x6, .ref x7, .ref x8, .int 0, .int 3000])), (o0, .inl (kA 1, 1, .inr (.inl (vp_updL (fun _ => 0) 0 (n_cut (xs 2) (n_combine (xs 1) 1 (n_cut (xs 2) ((((xs 4).toInt64) <<< ((32 : Int32).toInt64 &&& 63)) ||| (((xs 5).toInt64) &&& 4294967295))) (n_cut (xs 3) ((((xs 6).toInt64) <<< ((32 : Int32).toInt64 &&& 63)) ||| (((xs 7).toInt64) &&& 4294967295)))))))))]) (w1 := [(m0, .inr (11, (y0.set 9 (.int 0))))]) hP hD [2] [0, 1] rfl rfl (by decide) (by decide) hk1 hFc hP1 hD1
    generalize H1 = H at hP hS ⊢
    have hP : va_P D vwCl [(h0, .inr (10, [.ref x0, .int 0, .ref x1, .ref x2, .ref x3, .ref x4, .ref x5, .ref x6, .ref x7, .ref x8, .int 0, .int 3000])), (o0, .inl (kA 1, 1, .inr (.inl (vp_updL (fun _ => 0) 0 (n_cut (xs 2) (n_combine (xs 1) 1 (n_cut (xs 2) ((((xs 4).toInt64) <<< ((32 : Int32).toInt64 &&& 63)) ||| (((xs 5).toInt64) &&& 4294967295))) (n_cut (xs 3) ((((xs 6).toInt64) <<< ((32 : Int32).toInt64 &&& 63)) ||| (((xs 7).toInt64) &&& 4294967295))))))))), (m0, .inr (11, (y0.set 9 (.int 0))))] H := hP
    have hD : va_D A [(h0, .inr (10, [.ref x0, .int 0, .ref x1, .ref x2, .ref x3, .ref x4, .ref x5, .ref x6, .ref x7, .ref x8, .int 0, .int 3000])), (o0, .inl (kA 1, 1, .inr (.inl (vp_updL (fun _ => 0) 0 (n_cut (xs 2) (n_combine (xs 1) 1 (n_cut (xs 2) ((((xs 4).toInt64) <<< ((32 : Int32).toInt64 &&& 63)) ||| (((xs 5).toInt64) &&& 4294967295))) (n_cut (xs 3) ((((xs 6).toInt64) <<< ((32 : Int32).toInt64 &&& 63)) ||| (((xs 7).toInt64) &&& 4294967295))))))))), (m0, .inr (11, (y0.set 9 (.int 0))))] := hD
    refine lv_iload hx hb dL_law_1607 (lv_at hl 1 rfl) ?_
    refine lv_icmp_eq (tgt := 1614) hx hb dL_law_1609 (by decide) (fun c_100818 => ?_) (fun c_100818 => ?_)
    · skip
      refine lv_iload hx hb dL_law_1614 (lv_at hl 1 rfl) ?_
      refine lv_if_ne (tgt := 1630) hx hb dL_law_1616 (by decide) (fun c_100819 => ?_) (fun c_100819 => ?_)
      · exact absurd (by decide) c_100819
      · skip
        refine lv_aload_n hx hb dL_law_1619 rfl (lv_at hl 5 rfl) ?_
        refine lv_iconst (v := 0) hx hb dL_law_1620 (by decide) ?_
        refine va_lald hx hb hK hP 1 1 rfl rfl (show vp_in 0 1 by unfold vp_in; decide) dL_law_1621 ?_
        refine W.eq (g2 := F0 m 1622 ls [.long (n_cut (xs 2) (n_combine (xs 1) 1 (n_cut (xs 2) ((((xs 4).toInt64) <<< ((32 : Int32).toInt64 &&& 63)) ||| (((xs 5).toInt64) &&& 4294967295))) (n_cut (xs 3) ((((xs 6).toInt64) <<< ((32 : Int32).toInt64 &&& 63)) ||| (((xs 7).toInt64) &&& 4294967295)))))]) rfl ?_
        refine lv_lload hx hb dL_law_1622 (lv_at hl 0 rfl) ?_
        refine W.lcmp hx hb dL_law_1624 ?_
        refine lv_if_eq (tgt := 1630) hx hb dL_law_1625 (by decide) (fun c_100820 => ?_) (fun c_100820 => ?_)
        · skip
          refine lv_goto (tgt := 1804) hx hb dL_law_1630 (by decide) ?_
          exact lk_tail hC hA2 (lv_sub hl [2, 6] rfl) hS (Nat.le_of_ble_eq_true rfl) (Nat.le_of_ble_eq_true rfl)
        · exact absurd ((lg_cmp_eq _ _).mpr (qx_w1 c_94 c_100763 (fun q => c_96 q.2) (by rw [c_100768]; decide))) c_100820
    · exact absurd (by decide) c_100818
set_option maxHeartbeats 4000000 in
set_option maxRecDepth 100000 in
theorem lk_22_12 {p : Program} {l : Launch} {e : Env} {s : State} {m : MethodId} {below : List Frame} {meth : Method} {c : Code} {D : va_G} {kA : Nat → ClassId} {V : Nat → Nat} {b : Nat} {xs : Nat → Int32} {A : Nat → Prop} (hC : lw_C p l s m meth c b 8 xs D kA V A) (hA2 : ∀ q, A q → s.heap.size ≤ q) (h0 : Nat) (m0 : Nat) (o0 : Nat) (x0 : Nat) (x1 : Nat) (x2 : Nat) (x3 : Nat) (x4 : Nat) (x5 : Nat) (x6 : Nat) (x7 : Nat) (x8 : Nat) (y0 : List Value) (hq : ∀ k, k < 121 → k < y0.length) (hq9 : y0[9]? = some (.int 0)) (c_102 : ¬ (xs 2) < 0) (c_103 : ¬ 4 < (xs 2)) (c_104 : ¬ (xs 3) < 0) (c_105 : ¬ 4 < (xs 3)) (c_106 : ¬ (xs 1) < 0) (c_107 : (xs 1) ≤ 10) (c_108 : (n_cut (xs 3) ((((xs 6).toInt64) <<< ((32 : Int32).toInt64 &&& 63)) ||| (((xs 7).toInt64) &&& 4294967295))) = 0) (c_109 : ¬ (xs 1) = 3) (c_110 : ¬ (xs 1) = 4) (c_111 : (xs 2) = 4) {H : Heap} {locs : List Loc} {ls : Array Slot} (hl : lv_has ls 8 [(0, .ref b), (1, .ref h0), (2, .ref m0), (3, .ref o0), (4, .int 0)]) (hS : va_S A s.heap H locs) (hP : va_P D vwCl [(m0, .inr (11, y0)), (h0, .inr (10, [.ref x0, .int 0, .ref x1, .ref x2, .ref x3, .ref x4, .ref x5, .ref x6, .ref x7, .ref x8, .int 0, .int 3000])), (o0, .inl (kA 1, 1, .inr (.inl (vp_updL (fun _ => 0) 0 (n_cut (xs 2) (n_combine (xs 1) 1 (n_cut (xs 2) ((((xs 4).toInt64) <<< ((32 : Int32).toInt64 &&& 63)) ||| (((xs 5).toInt64) &&& 4294967295))) (n_cut (xs 3) ((((xs 6).toInt64) <<< ((32 : Int32).toInt64 &&& 63)) ||| (((xs 7).toInt64) &&& 4294967295)))))))))] H) (hD : va_D A [(m0, .inr (11, y0)), (h0, .inr (10, [.ref x0, .int 0, .ref x1, .ref x2, .ref x3, .ref x4, .ref x5, .ref x6, .ref x7, .ref x8, .int 0, .int 3000])), (o0, .inl (kA 1, 1, .inr (.inl (vp_updL (fun _ => 0) 0 (n_cut (xs 2) (n_combine (xs 1) 1 (n_cut (xs 2) ((((xs 4).toInt64) <<< ((32 : Int32).toInt64 &&& 63)) ||| (((xs 5).toInt64) &&& 4294967295))) (n_cut (xs 3) ((((xs 6).toInt64) <<< ((32 : Int32).toInt64 &&& 63)) ||| (((xs 7).toInt64) &&& 4294967295)))))))))]) : W p l e room_1 s m #[Value.ref b] below meth c H locs 515 172799 (lw_Z below #[Value.ref b] s) (F0 m 1531 ls [.int 0]) := by
  have ⟨hst, hx, hb, hr, hml, hown, hts, hG, hX, hbl, hbA, hlocks, hE, hK, hA⟩ := hC
  refine lv_istore (lv' := [(5, .int 0), (0, .ref b), (1, .ref h0), (2, .ref m0), (3, .ref o0), (4, .int 0)]) hx hb dL_law_1531 hl (by decide) rfl (fun ls hl => ?_)
  refine lv_aload_n hx hb dL_law_1533 rfl (lv_at hl 3 rfl) ?_
  refine lv_aload_n hx hb dL_law_1534 rfl (lv_at hl 1 rfl) ?_
  refine lv_iload hx hb dL_law_1535 (lv_at hl 5 rfl) ?_
  refine lv_iconst (v := 1) hx hb dL_law_1537 (by decide) ?_
  refine lv_iadd hx hb dL_law_1538 ?_
  refine W.eq (g2 := F0 m 1539 ls [.int 1, .ref b, .ref m0]) rfl ?_
  refine va_sld hx hb hX hbl hbA hS (show vp_in 1 8 by unfold vp_in; decide) dL_law_1539 ?_
  refine W.eq (g2 := F0 m 1540 ls [.int (xs 1), .ref m0]) rfl ?_
  refine lv_aload_n hx hb dL_law_1540 rfl (lv_at hl 1 rfl) ?_
  refine lv_iload hx hb dL_law_1541 (lv_at hl 5 rfl) ?_
  refine lv_iconst (v := 2) hx hb dL_law_1543 (by decide) ?_
  refine lv_iadd hx hb dL_law_1544 ?_
  refine W.eq (g2 := F0 m 1545 ls [.int 2, .ref b, .int (xs 1), .ref m0]) rfl ?_
  refine va_sld hx hb hX hbl hbA hS (show vp_in 2 8 by unfold vp_in; decide) dL_law_1545 ?_
  refine W.eq (g2 := F0 m 1546 ls [.int (xs 2), .int (xs 1), .ref m0]) rfl ?_
  refine lv_aload_n hx hb dL_law_1546 rfl (lv_at hl 1 rfl) ?_
  refine lv_iload hx hb dL_law_1547 (lv_at hl 5 rfl) ?_
  refine lv_iconst (v := 3) hx hb dL_law_1549 (by decide) ?_
  refine lv_iadd hx hb dL_law_1550 ?_
  refine W.eq (g2 := F0 m 1551 ls [.int 3, .ref b, .int (xs 2), .int (xs 1), .ref m0]) rfl ?_
  refine va_sld hx hb hX hbl hbA hS (show vp_in 3 8 by unfold vp_in; decide) dL_law_1551 ?_
  refine W.eq (g2 := F0 m 1552 ls [.int (xs 3), .int (xs 2), .int (xs 1), .ref m0]) rfl ?_
  refine lv_aload_n hx hb dL_law_1552 rfl (lv_at hl 1 rfl) ?_
  refine lv_iload hx hb dL_law_1553 (lv_at hl 5 rfl) ?_
  refine lv_iconst (v := 4) hx hb dL_law_1555 (by decide) ?_
  refine lv_iadd hx hb dL_law_1556 ?_
  refine W.eq (g2 := F0 m 1557 ls [.int 4, .ref b, .int (xs 3), .int (xs 2), .int (xs 1), .ref m0]) rfl ?_
  refine va_sld hx hb hX hbl hbA hS (show vp_in 4 8 by unfold vp_in; decide) dL_law_1557 ?_
  refine W.eq (g2 := F0 m 1558 ls [.int (xs 4), .int (xs 3), .int (xs 2), .int (xs 1), .ref m0]) rfl ?_
  refine lv_i2l (v := (xs 4).toInt64) hx hb dL_law_1558 rfl ?_
  refine lv_bipush (v := 32) hx hb dL_law_1559 (by decide) ?_
  refine lv_lshl (v := ((xs 4).toInt64) <<< ((32 : Int32).toInt64 &&& 63)) hx hb dL_law_1561 rfl ?_
  refine lv_aload_n hx hb dL_law_1562 rfl (lv_at hl 1 rfl) ?_
  refine lv_iload hx hb dL_law_1563 (lv_at hl 5 rfl) ?_
  refine lv_iconst (v := 5) hx hb dL_law_1565 (by decide) ?_
  refine lv_iadd hx hb dL_law_1566 ?_
  refine W.eq (g2 := F0 m 1567 ls [.int 5, .ref b, .long (((xs 4).toInt64) <<< ((32 : Int32).toInt64 &&& 63)), .int (xs 3), .int (xs 2), .int (xs 1), .ref m0]) rfl ?_
  refine va_sld hx hb hX hbl hbA hS (show vp_in 5 8 by unfold vp_in; decide) dL_law_1567 ?_
  refine W.eq (g2 := F0 m 1568 ls [.int (xs 5), .long (((xs 4).toInt64) <<< ((32 : Int32).toInt64 &&& 63)), .int (xs 3), .int (xs 2), .int (xs 1), .ref m0]) rfl ?_
  refine lv_i2l (v := (xs 5).toInt64) hx hb dL_law_1568 rfl ?_
  refine lv_ldc2 (v := 4294967295) hx hb hown (hG _ gw_2764) dL_law_1569 ?_
  refine lv_land hx hb dL_law_1572 ?_
  refine lv_lor hx hb dL_law_1573 ?_
  refine lv_aload_n hx hb dL_law_1574 rfl (lv_at hl 1 rfl) ?_
  refine lv_iload hx hb dL_law_1575 (lv_at hl 5 rfl) ?_
  refine lv_bipush (v := 6) hx hb dL_law_1577 (by decide) ?_
  refine lv_iadd hx hb dL_law_1579 ?_
  refine W.eq (g2 := F0 m 1580 ls [.int 6, .ref b, .long ((((xs 4).toInt64) <<< ((32 : Int32).toInt64 &&& 63)) ||| (((xs 5).toInt64) &&& 4294967295)), .int (xs 3), .int (xs 2), .int (xs 1), .ref m0]) rfl ?_
  refine va_sld hx hb hX hbl hbA hS (show vp_in 6 8 by unfold vp_in; decide) dL_law_1580 ?_
  refine W.eq (g2 := F0 m 1581 ls [.int (xs 6), .long ((((xs 4).toInt64) <<< ((32 : Int32).toInt64 &&& 63)) ||| (((xs 5).toInt64) &&& 4294967295)), .int (xs 3), .int (xs 2), .int (xs 1), .ref m0]) rfl ?_
  refine lv_i2l (v := (xs 6).toInt64) hx hb dL_law_1581 rfl ?_
  refine lv_bipush (v := 32) hx hb dL_law_1582 (by decide) ?_
  refine lv_lshl (v := ((xs 6).toInt64) <<< ((32 : Int32).toInt64 &&& 63)) hx hb dL_law_1584 rfl ?_
  refine lv_aload_n hx hb dL_law_1585 rfl (lv_at hl 1 rfl) ?_
  refine lv_iload hx hb dL_law_1586 (lv_at hl 5 rfl) ?_
  refine lv_bipush (v := 7) hx hb dL_law_1588 (by decide) ?_
  refine lv_iadd hx hb dL_law_1590 ?_
  refine W.eq (g2 := F0 m 1591 ls [.int 7, .ref b, .long (((xs 6).toInt64) <<< ((32 : Int32).toInt64 &&& 63)), .long ((((xs 4).toInt64) <<< ((32 : Int32).toInt64 &&& 63)) ||| (((xs 5).toInt64) &&& 4294967295)), .int (xs 3), .int (xs 2), .int (xs 1), .ref m0]) rfl ?_
  refine va_sld hx hb hX hbl hbA hS (show vp_in 7 8 by unfold vp_in; decide) dL_law_1591 ?_
  refine W.eq (g2 := F0 m 1592 ls [.int (xs 7), .long (((xs 6).toInt64) <<< ((32 : Int32).toInt64 &&& 63)), .long ((((xs 4).toInt64) <<< ((32 : Int32).toInt64 &&& 63)) ||| (((xs 5).toInt64) &&& 4294967295)), .int (xs 3), .int (xs 2), .int (xs 1), .ref m0]) rfl ?_
  refine lv_i2l (v := (xs 7).toInt64) hx hb dL_law_1592 rfl ?_
  refine lv_ldc2 (v := 4294967295) hx hb hown (hG _ gw_2764) dL_law_1593 ?_
  refine lv_land hx hb dL_law_1596 ?_
  refine lv_lor hx hb dL_law_1597 ?_
  have hPc := hP.sub (ws' := [(m0, .inr (11, y0))]) [0] rfl
  have hDc := hD.sub (ws' := [(m0, .inr (11, y0))]) [0] (by decide) rfl
  have hFc := va_free (wc := [(m0, .inr (11, y0))]) hD hS hA [0] rfl
  refine va_calll (va_runV (As := [.int (xs 1), .int (xs 2), .int (xs 3), .long ((((xs 4).toInt64) <<< ((32 : Int32).toInt64 &&& 63)) ||| (((xs 5).toInt64) &&& 4294967295)), .long ((((xs 6).toInt64) <<< ((32 : Int32).toInt64 &&& 63)) ||| (((xs 7).toInt64) &&& 4294967295))]) (rest := []) ⟨hx, hb, hml, hown, hts⟩ (a153_X12_work l  D kA V H.size m0 (xs 1) (xs 2) (xs 3) ((((xs 4).toInt64) <<< ((32 : Int32).toInt64 &&& 63)) ||| (((xs 5).toInt64) &&& 4294967295)) ((((xs 6).toInt64) <<< ((32 : Int32).toInt64 &&& 63)) ||| (((xs 7).toInt64) &&& 4294967295)) y0 (fun k hk => (hq k hk)) hq9) (cwV 5 hts (gw_V gw_2756 gw_2757 gw_2758 gw_16 gw_2759) rfl rfl rfl (by decide +kernel) ⟨(Nat.le_of_ble_eq_true rfl), (Nat.le_of_ble_eq_true rfl)⟩) ⟨aP.blind, va_recv hK hP (ci := 11) (q0 := 0) rfl rfl, aP.pre hE hS hPc hK hDc hFc⟩ rfl rfl hl.1 rfl (lv_room (Nat.le_of_ble_eq_true rfl)) dL_law_1598 ⟨(Nat.le_of_ble_eq_true rfl), (Nat.le_of_ble_eq_true rfl)⟩) hS (fun q _ h => hFc q h) hFc (fun r_100001 u t H1 locs ht hvm hw hB hz1 hk1 hS => ?_)
  obtain ⟨u_100002, rfl⟩ : ∃ z, z = u := ⟨u, rfl⟩
  obtain ⟨hP1, hD1⟩ := hB
  rw [ht] at hP1
  try dsimp only at hw hP1 hD1
  rcases hw with hz | hz | hz | hz | hz | hz | hz | hz | hz | hz | hz | hz | hz | hz | hz | hz | hz | hz | hz | hz | hz | hz | hz | hz | hz | hz | hz | hz | hz | hz | hz | hz | hz | hz | hz | hz | hz | hz | hz | hz | hz | hz | hz | hz | hz | hz | hz | hz | hz | hz | hz | hz
  · exact absurd hz.1 c_106
  · exact absurd hz.1 c_106
  · exact absurd hz.1 c_106
  · exact absurd hz.1 c_106
  · exact absurd hz.1 c_106
  · exact absurd hz.2.1 (Int32.not_lt.mpr c_107)
  · exact absurd hz.2.1 (Int32.not_lt.mpr c_107)
  · exact absurd hz.2.1 (Int32.not_lt.mpr c_107)
  · exact absurd hz.2.1 (Int32.not_lt.mpr c_107)
  · exact absurd hz.2.1 (Int32.not_lt.mpr c_107)
  · exact absurd hz.2.2.1 c_102
  · exact absurd hz.2.2.2.1 c_103
  · exact absurd hz.2.2.2.2.1 c_104
  · exact absurd hz.2.2.2.2.2.1 c_105
  · obtain ⟨c_100092, c_100093, c_100094, c_100095, c_100096, c_100097, c_100098, c_100099, c_100100, c_100101, c_100102, c_100103, c_100104, c_100105, c_100106, c_100107, c_100108, c_100109, c_100110, w_100111, w_100112⟩ := hz
    subst w_100111
    subst w_100112
    obtain ⟨hP, hD⟩ := va_join (wr := [(h0, .inr (10, [.ref x0, .int 0, .ref x1, .ref x2, .ref x3, .ref x4, .ref x5, .ref x6, .ref x7, .ref x8, .int 0, .int 3000])), (o0, .inl (kA 1, 1, .inr (.inl (vp_updL (fun _ => 0) 0 (n_cut (xs 2) (n_combine (xs 1) 1 (n_cut (xs 2) ((((xs 4).toInt64) <<< ((32 : Int32).toInt64 &&& 63)) ||| (((xs 5).toInt64) &&& 4294967295))) (n_cut (xs 3) ((((xs 6).toInt64) <<< ((32 : Int32).toInt64 &&& 63)) ||| (((xs 7).toInt64) &&& 4294967295)))))))))]) (w1 := [(m0, .inr (11, y0.set 9 (.int 0)))]) hP hD [0] [1, 2] rfl rfl (by decide) (by decide) hk1 hFc hP1 hD1
    generalize H1 = H at hP hS ⊢
    have hP : va_P D vwCl [(h0, .inr (10, [.ref x0, .int 0, .ref x1, .ref x2, .ref x3, .ref x4, .ref x5, .ref x6, .ref x7, .ref x8, .int 0, .int 3000])), (o0, .inl (kA 1, 1, .inr (.inl (vp_updL (fun _ => 0) 0 (n_cut (xs 2) (n_combine (xs 1) 1 (n_cut (xs 2) ((((xs 4).toInt64) <<< ((32 : Int32).toInt64 &&& 63)) ||| (((xs 5).toInt64) &&& 4294967295))) (n_cut (xs 3) ((((xs 6).toInt64) <<< ((32 : Int32).toInt64 &&& 63)) ||| (((xs 7).toInt64) &&& 4294967295))))))))), (m0, .inr (11, y0.set 9 (.int 0)))] H := hP
    have hD : va_D A [(h0, .inr (10, [.ref x0, .int 0, .ref x1, .ref x2, .ref x3, .ref x4, .ref x5, .ref x6, .ref x7, .ref x8, .int 0, .int 3000])), (o0, .inl (kA 1, 1, .inr (.inl (vp_updL (fun _ => 0) 0 (n_cut (xs 2) (n_combine (xs 1) 1 (n_cut (xs 2) ((((xs 4).toInt64) <<< ((32 : Int32).toInt64 &&& 63)) ||| (((xs 5).toInt64) &&& 4294967295))) (n_cut (xs 3) ((((xs 6).toInt64) <<< ((32 : Int32).toInt64 &&& 63)) ||| (((xs 7).toInt64) &&& 4294967295))))))))), (m0, .inr (11, y0.set 9 (.int 0)))] := hD
    refine lv_lstore (lv' := [(6, .long (n_cut (xs 2) (r_two 203 1 (n_cut (xs 2) ((((xs 4).toInt64) <<< ((32 : Int32).toInt64 &&& 63)) ||| (((xs 5).toInt64) &&& 4294967295))) (n_cut (xs 3) ((((xs 6).toInt64) <<< ((32 : Int32).toInt64 &&& 63)) ||| (((xs 7).toInt64) &&& 4294967295)))))), (5, .int 0), (0, .ref b), (1, .ref h0), (2, .ref m0), (3, .ref o0), (4, .int 0)]) hx hb dL_law_1601 hl (by decide) rfl (fun ls hl => ?_)
    refine lv_aload_n hx hb dL_law_1603 rfl (lv_at hl 4 rfl) ?_
    have hPc := hP.sub (ws' := [(m0, .inr (11, y0.set 9 (.int 0)))]) [2] rfl
    have hDc := hD.sub (ws' := [(m0, .inr (11, y0.set 9 (.int 0)))]) [2] (by decide) rfl
    have hFc := va_free (wc := [(m0, .inr (11, y0.set 9 (.int 0)))]) hD hS hA [2] rfl
    refine va_calli (va_runV (As := []) (rest := []) ⟨hx, hb, hml, hown, hts⟩ (a94_X12_thrown l  D kA V H.size m0 (y0.set 9 (.int 0)) (fun k hk => (by rw [List.length_set]; exact (hq k hk))) (List.getElem?_set_self (hq 9 (by decide)))) (cwV 0 hts (gw_V gw_1879 gw_1880 gw_1881 gw_16 gw_1882) rfl rfl rfl (by decide +kernel) ⟨(Nat.le_of_ble_eq_true rfl), (Nat.le_of_ble_eq_true rfl)⟩) ⟨aP.blind, va_recv hK hP (ci := 11) (q0 := 2) rfl rfl, aP.pre hE hS hPc hK hDc hFc⟩ rfl rfl hl.1 rfl (lv_room (Nat.le_of_ble_eq_true rfl)) dL_law_1604 ⟨(Nat.le_of_ble_eq_true rfl), (Nat.le_of_ble_eq_true rfl)⟩) hS (fun q _ h => hFc q h) hFc (fun r_100776 u t H1 locs ht hvm hw hB hz1 hk1 hS => ?_)
    obtain ⟨hP1, hD1⟩ := hB
    rw [ht] at hP1
    try dsimp only at hw hP1 hD1
    have w_100777 := hw
    subst w_100777
    obtain ⟨hP, hD⟩ := va_join (wr := [(h0, .inr (10, [.ref x0, .int 0, .ref x1, .ref x2, .ref x3, .ref x4, .ref x5, .ref x6, .ref x7, .ref x8, .int 0, .int 3000])), (o0, .inl (kA 1, 1, .inr (.inl (vp_updL (fun _ => 0) 0 (n_cut (xs 2) (n_combine (xs 1) 1 (n_cut (xs 2) ((((xs 4).toInt64) <<< ((32 : Int32).toInt64 &&& 63)) ||| (((xs 5).toInt64) &&& 4294967295))) (n_cut (xs 3) ((((xs 6).toInt64) <<< ((32 : Int32).toInt64 &&& 63)) ||| (((xs 7).toInt64) &&& 4294967295)))))))))]) (w1 := [(m0, .inr (11, (y0.set 9 (.int 0))))]) hP hD [2] [0, 1] rfl rfl (by decide) (by decide) hk1 hFc hP1 hD1
    generalize H1 = H at hP hS ⊢
    have hP : va_P D vwCl [(h0, .inr (10, [.ref x0, .int 0, .ref x1, .ref x2, .ref x3, .ref x4, .ref x5, .ref x6, .ref x7, .ref x8, .int 0, .int 3000])), (o0, .inl (kA 1, 1, .inr (.inl (vp_updL (fun _ => 0) 0 (n_cut (xs 2) (n_combine (xs 1) 1 (n_cut (xs 2) ((((xs 4).toInt64) <<< ((32 : Int32).toInt64 &&& 63)) ||| (((xs 5).toInt64) &&& 4294967295))) (n_cut (xs 3) ((((xs 6).toInt64) <<< ((32 : Int32).toInt64 &&& 63)) ||| (((xs 7).toInt64) &&& 4294967295))))))))), (m0, .inr (11, (y0.set 9 (.int 0))))] H := hP
    have hD : va_D A [(h0, .inr (10, [.ref x0, .int 0, .ref x1, .ref x2, .ref x3, .ref x4, .ref x5, .ref x6, .ref x7, .ref x8, .int 0, .int 3000])), (o0, .inl (kA 1, 1, .inr (.inl (vp_updL (fun _ => 0) 0 (n_cut (xs 2) (n_combine (xs 1) 1 (n_cut (xs 2) ((((xs 4).toInt64) <<< ((32 : Int32).toInt64 &&& 63)) ||| (((xs 5).toInt64) &&& 4294967295))) (n_cut (xs 3) ((((xs 6).toInt64) <<< ((32 : Int32).toInt64 &&& 63)) ||| (((xs 7).toInt64) &&& 4294967295))))))))), (m0, .inr (11, (y0.set 9 (.int 0))))] := hD
    refine lv_iload hx hb dL_law_1607 (lv_at hl 1 rfl) ?_
    refine lv_icmp_eq (tgt := 1614) hx hb dL_law_1609 (by decide) (fun c_100778 => ?_) (fun c_100778 => ?_)
    · skip
      refine lv_iload hx hb dL_law_1614 (lv_at hl 1 rfl) ?_
      refine lv_if_ne (tgt := 1630) hx hb dL_law_1616 (by decide) (fun c_100779 => ?_) (fun c_100779 => ?_)
      · exact absurd (by decide) c_100779
      · skip
        refine lv_aload_n hx hb dL_law_1619 rfl (lv_at hl 5 rfl) ?_
        refine lv_iconst (v := 0) hx hb dL_law_1620 (by decide) ?_
        refine va_lald hx hb hK hP 1 1 rfl rfl (show vp_in 0 1 by unfold vp_in; decide) dL_law_1621 ?_
        refine W.eq (g2 := F0 m 1622 ls [.long (n_cut (xs 2) (n_combine (xs 1) 1 (n_cut (xs 2) ((((xs 4).toInt64) <<< ((32 : Int32).toInt64 &&& 63)) ||| (((xs 5).toInt64) &&& 4294967295))) (n_cut (xs 3) ((((xs 6).toInt64) <<< ((32 : Int32).toInt64 &&& 63)) ||| (((xs 7).toInt64) &&& 4294967295)))))]) rfl ?_
        refine lv_lload hx hb dL_law_1622 (lv_at hl 0 rfl) ?_
        refine W.lcmp hx hb dL_law_1624 ?_
        refine lv_if_eq (tgt := 1630) hx hb dL_law_1625 (by decide) (fun c_100780 => ?_) (fun c_100780 => ?_)
        · skip
          refine lv_goto (tgt := 1804) hx hb dL_law_1630 (by decide) ?_
          exact lk_tail hC hA2 (lv_sub hl [2, 6] rfl) hS (Nat.le_of_ble_eq_true rfl) (Nat.le_of_ble_eq_true rfl)
        · exact absurd ((lg_cmp_eq _ _).mpr (qx_w1 c_106 c_100093 (fun q => q.1.elim c_109 c_110) (by unfold q_sign; rw [if_neg c_100098, if_neg c_100099, if_neg c_100100, if_neg c_109, if_neg c_110, if_neg c_100103, if_neg c_100104, if_neg c_100105, if_neg c_100106, if_neg c_100107]))) c_100780
    · exact absurd (by decide) c_100778
  · exact absurd c_111 hz.2.2.2.2.2.2.2.2.2.2.2.2.2.2.2.2.2.2.1
  · exact absurd c_111 hz.2.2.2.2.2.2.2.2.2.2.2.2.2.2.2.2.2.2.1
  · exact absurd c_111 hz.2.2.2.2.2.2.2.2.2.2.2.2.2.2.2.2.2.2.1
  · obtain ⟨c_100181, c_100182, c_100183, c_100184, c_100185, c_100186, c_100187, c_100188, c_100189, c_100190, c_100191, c_100192, c_100193, c_100194, c_100195, c_100196, c_100197, c_100198, c_100199, w_100200, w_100201⟩ := hz
    subst w_100200
    subst w_100201
    obtain ⟨hP, hD⟩ := va_join (wr := [(h0, .inr (10, [.ref x0, .int 0, .ref x1, .ref x2, .ref x3, .ref x4, .ref x5, .ref x6, .ref x7, .ref x8, .int 0, .int 3000])), (o0, .inl (kA 1, 1, .inr (.inl (vp_updL (fun _ => 0) 0 (n_cut (xs 2) (n_combine (xs 1) 1 (n_cut (xs 2) ((((xs 4).toInt64) <<< ((32 : Int32).toInt64 &&& 63)) ||| (((xs 5).toInt64) &&& 4294967295))) (n_cut (xs 3) ((((xs 6).toInt64) <<< ((32 : Int32).toInt64 &&& 63)) ||| (((xs 7).toInt64) &&& 4294967295)))))))))]) (w1 := [(m0, .inr (11, y0.set 9 (.int 0)))]) hP hD [0] [1, 2] rfl rfl (by decide) (by decide) hk1 hFc hP1 hD1
    generalize H1 = H at hP hS ⊢
    have hP : va_P D vwCl [(h0, .inr (10, [.ref x0, .int 0, .ref x1, .ref x2, .ref x3, .ref x4, .ref x5, .ref x6, .ref x7, .ref x8, .int 0, .int 3000])), (o0, .inl (kA 1, 1, .inr (.inl (vp_updL (fun _ => 0) 0 (n_cut (xs 2) (n_combine (xs 1) 1 (n_cut (xs 2) ((((xs 4).toInt64) <<< ((32 : Int32).toInt64 &&& 63)) ||| (((xs 5).toInt64) &&& 4294967295))) (n_cut (xs 3) ((((xs 6).toInt64) <<< ((32 : Int32).toInt64 &&& 63)) ||| (((xs 7).toInt64) &&& 4294967295))))))))), (m0, .inr (11, y0.set 9 (.int 0)))] H := hP
    have hD : va_D A [(h0, .inr (10, [.ref x0, .int 0, .ref x1, .ref x2, .ref x3, .ref x4, .ref x5, .ref x6, .ref x7, .ref x8, .int 0, .int 3000])), (o0, .inl (kA 1, 1, .inr (.inl (vp_updL (fun _ => 0) 0 (n_cut (xs 2) (n_combine (xs 1) 1 (n_cut (xs 2) ((((xs 4).toInt64) <<< ((32 : Int32).toInt64 &&& 63)) ||| (((xs 5).toInt64) &&& 4294967295))) (n_cut (xs 3) ((((xs 6).toInt64) <<< ((32 : Int32).toInt64 &&& 63)) ||| (((xs 7).toInt64) &&& 4294967295))))))))), (m0, .inr (11, y0.set 9 (.int 0)))] := hD
    refine lv_lstore (lv' := [(6, .long (n_cut (xs 2) (r_two 222 1 (n_cut (xs 2) ((((xs 4).toInt64) <<< ((32 : Int32).toInt64 &&& 63)) ||| (((xs 5).toInt64) &&& 4294967295))) (n_cut (xs 3) ((((xs 6).toInt64) <<< ((32 : Int32).toInt64 &&& 63)) ||| (((xs 7).toInt64) &&& 4294967295)))))), (5, .int 0), (0, .ref b), (1, .ref h0), (2, .ref m0), (3, .ref o0), (4, .int 0)]) hx hb dL_law_1601 hl (by decide) rfl (fun ls hl => ?_)
    refine lv_aload_n hx hb dL_law_1603 rfl (lv_at hl 4 rfl) ?_
    have hPc := hP.sub (ws' := [(m0, .inr (11, y0.set 9 (.int 0)))]) [2] rfl
    have hDc := hD.sub (ws' := [(m0, .inr (11, y0.set 9 (.int 0)))]) [2] (by decide) rfl
    have hFc := va_free (wc := [(m0, .inr (11, y0.set 9 (.int 0)))]) hD hS hA [2] rfl
    refine va_calli (va_runV (As := []) (rest := []) ⟨hx, hb, hml, hown, hts⟩ (a94_X12_thrown l  D kA V H.size m0 (y0.set 9 (.int 0)) (fun k hk => (by rw [List.length_set]; exact (hq k hk))) (List.getElem?_set_self (hq 9 (by decide)))) (cwV 0 hts (gw_V gw_1879 gw_1880 gw_1881 gw_16 gw_1882) rfl rfl rfl (by decide +kernel) ⟨(Nat.le_of_ble_eq_true rfl), (Nat.le_of_ble_eq_true rfl)⟩) ⟨aP.blind, va_recv hK hP (ci := 11) (q0 := 2) rfl rfl, aP.pre hE hS hPc hK hDc hFc⟩ rfl rfl hl.1 rfl (lv_room (Nat.le_of_ble_eq_true rfl)) dL_law_1604 ⟨(Nat.le_of_ble_eq_true rfl), (Nat.le_of_ble_eq_true rfl)⟩) hS (fun q _ h => hFc q h) hFc (fun r_100781 u t H1 locs ht hvm hw hB hz1 hk1 hS => ?_)
    obtain ⟨hP1, hD1⟩ := hB
    rw [ht] at hP1
    try dsimp only at hw hP1 hD1
    have w_100782 := hw
    subst w_100782
    obtain ⟨hP, hD⟩ := va_join (wr := [(h0, .inr (10, [.ref x0, .int 0, .ref x1, .ref x2, .ref x3, .ref x4, .ref x5, .ref x6, .ref x7, .ref x8, .int 0, .int 3000])), (o0, .inl (kA 1, 1, .inr (.inl (vp_updL (fun _ => 0) 0 (n_cut (xs 2) (n_combine (xs 1) 1 (n_cut (xs 2) ((((xs 4).toInt64) <<< ((32 : Int32).toInt64 &&& 63)) ||| (((xs 5).toInt64) &&& 4294967295))) (n_cut (xs 3) ((((xs 6).toInt64) <<< ((32 : Int32).toInt64 &&& 63)) ||| (((xs 7).toInt64) &&& 4294967295)))))))))]) (w1 := [(m0, .inr (11, (y0.set 9 (.int 0))))]) hP hD [2] [0, 1] rfl rfl (by decide) (by decide) hk1 hFc hP1 hD1
    generalize H1 = H at hP hS ⊢
    have hP : va_P D vwCl [(h0, .inr (10, [.ref x0, .int 0, .ref x1, .ref x2, .ref x3, .ref x4, .ref x5, .ref x6, .ref x7, .ref x8, .int 0, .int 3000])), (o0, .inl (kA 1, 1, .inr (.inl (vp_updL (fun _ => 0) 0 (n_cut (xs 2) (n_combine (xs 1) 1 (n_cut (xs 2) ((((xs 4).toInt64) <<< ((32 : Int32).toInt64 &&& 63)) ||| (((xs 5).toInt64) &&& 4294967295))) (n_cut (xs 3) ((((xs 6).toInt64) <<< ((32 : Int32).toInt64 &&& 63)) ||| (((xs 7).toInt64) &&& 4294967295))))))))), (m0, .inr (11, (y0.set 9 (.int 0))))] H := hP
    have hD : va_D A [(h0, .inr (10, [.ref x0, .int 0, .ref x1, .ref x2, .ref x3, .ref x4, .ref x5, .ref x6, .ref x7, .ref x8, .int 0, .int 3000])), (o0, .inl (kA 1, 1, .inr (.inl (vp_updL (fun _ => 0) 0 (n_cut (xs 2) (n_combine (xs 1) 1 (n_cut (xs 2) ((((xs 4).toInt64) <<< ((32 : Int32).toInt64 &&& 63)) ||| (((xs 5).toInt64) &&& 4294967295))) (n_cut (xs 3) ((((xs 6).toInt64) <<< ((32 : Int32).toInt64 &&& 63)) ||| (((xs 7).toInt64) &&& 4294967295))))))))), (m0, .inr (11, (y0.set 9 (.int 0))))] := hD
    refine lv_iload hx hb dL_law_1607 (lv_at hl 1 rfl) ?_
    refine lv_icmp_eq (tgt := 1614) hx hb dL_law_1609 (by decide) (fun c_100783 => ?_) (fun c_100783 => ?_)
    · skip
      refine lv_iload hx hb dL_law_1614 (lv_at hl 1 rfl) ?_
      refine lv_if_ne (tgt := 1630) hx hb dL_law_1616 (by decide) (fun c_100784 => ?_) (fun c_100784 => ?_)
      · exact absurd (by decide) c_100784
      · skip
        refine lv_aload_n hx hb dL_law_1619 rfl (lv_at hl 5 rfl) ?_
        refine lv_iconst (v := 0) hx hb dL_law_1620 (by decide) ?_
        refine va_lald hx hb hK hP 1 1 rfl rfl (show vp_in 0 1 by unfold vp_in; decide) dL_law_1621 ?_
        refine W.eq (g2 := F0 m 1622 ls [.long (n_cut (xs 2) (n_combine (xs 1) 1 (n_cut (xs 2) ((((xs 4).toInt64) <<< ((32 : Int32).toInt64 &&& 63)) ||| (((xs 5).toInt64) &&& 4294967295))) (n_cut (xs 3) ((((xs 6).toInt64) <<< ((32 : Int32).toInt64 &&& 63)) ||| (((xs 7).toInt64) &&& 4294967295)))))]) rfl ?_
        refine lv_lload hx hb dL_law_1622 (lv_at hl 0 rfl) ?_
        refine W.lcmp hx hb dL_law_1624 ?_
        refine lv_if_eq (tgt := 1630) hx hb dL_law_1625 (by decide) (fun c_100785 => ?_) (fun c_100785 => ?_)
        · skip
          refine lv_goto (tgt := 1804) hx hb dL_law_1630 (by decide) ?_
          exact lk_tail hC hA2 (lv_sub hl [2, 6] rfl) hS (Nat.le_of_ble_eq_true rfl) (Nat.le_of_ble_eq_true rfl)
        · exact absurd ((lg_cmp_eq _ _).mpr (qx_w1 c_106 c_100182 (fun q => q.1.elim (fun z => absurd (c_100196.symm.trans z) (by decide)) (fun z => absurd (c_100196.symm.trans z) (by decide))) (by rw [c_100196]; decide))) c_100785
    · exact absurd (by decide) c_100783
  · exact absurd c_111 hz.2.2.2.2.2.2.2.2.2.2.2.2.2.2.2.2.2.2.1
  · obtain ⟨c_100224, c_100225, c_100226, c_100227, c_100228, c_100229, c_100230, c_100231, c_100232, c_100233, c_100234, c_100235, c_100236, c_100237, c_100238, c_100239, c_100240, c_100241, w_100242, w_100243⟩ := hz
    subst w_100242
    subst w_100243
    obtain ⟨hP, hD⟩ := va_join (wr := [(h0, .inr (10, [.ref x0, .int 0, .ref x1, .ref x2, .ref x3, .ref x4, .ref x5, .ref x6, .ref x7, .ref x8, .int 0, .int 3000])), (o0, .inl (kA 1, 1, .inr (.inl (vp_updL (fun _ => 0) 0 (n_cut (xs 2) (n_combine (xs 1) 1 (n_cut (xs 2) ((((xs 4).toInt64) <<< ((32 : Int32).toInt64 &&& 63)) ||| (((xs 5).toInt64) &&& 4294967295))) (n_cut (xs 3) ((((xs 6).toInt64) <<< ((32 : Int32).toInt64 &&& 63)) ||| (((xs 7).toInt64) &&& 4294967295)))))))))]) (w1 := [(m0, .inr (11, y0.set 9 (.int 0)))]) hP hD [0] [1, 2] rfl rfl (by decide) (by decide) hk1 hFc hP1 hD1
    generalize H1 = H at hP hS ⊢
    have hP : va_P D vwCl [(h0, .inr (10, [.ref x0, .int 0, .ref x1, .ref x2, .ref x3, .ref x4, .ref x5, .ref x6, .ref x7, .ref x8, .int 0, .int 3000])), (o0, .inl (kA 1, 1, .inr (.inl (vp_updL (fun _ => 0) 0 (n_cut (xs 2) (n_combine (xs 1) 1 (n_cut (xs 2) ((((xs 4).toInt64) <<< ((32 : Int32).toInt64 &&& 63)) ||| (((xs 5).toInt64) &&& 4294967295))) (n_cut (xs 3) ((((xs 6).toInt64) <<< ((32 : Int32).toInt64 &&& 63)) ||| (((xs 7).toInt64) &&& 4294967295))))))))), (m0, .inr (11, y0.set 9 (.int 0)))] H := hP
    have hD : va_D A [(h0, .inr (10, [.ref x0, .int 0, .ref x1, .ref x2, .ref x3, .ref x4, .ref x5, .ref x6, .ref x7, .ref x8, .int 0, .int 3000])), (o0, .inl (kA 1, 1, .inr (.inl (vp_updL (fun _ => 0) 0 (n_cut (xs 2) (n_combine (xs 1) 1 (n_cut (xs 2) ((((xs 4).toInt64) <<< ((32 : Int32).toInt64 &&& 63)) ||| (((xs 5).toInt64) &&& 4294967295))) (n_cut (xs 3) ((((xs 6).toInt64) <<< ((32 : Int32).toInt64 &&& 63)) ||| (((xs 7).toInt64) &&& 4294967295))))))))), (m0, .inr (11, y0.set 9 (.int 0)))] := hD
    refine lv_lstore (lv' := [(6, .long (n_cut (xs 2) (r_two 221 1 (n_cut (xs 2) ((((xs 4).toInt64) <<< ((32 : Int32).toInt64 &&& 63)) ||| (((xs 5).toInt64) &&& 4294967295))) (n_cut (xs 3) ((((xs 6).toInt64) <<< ((32 : Int32).toInt64 &&& 63)) ||| (((xs 7).toInt64) &&& 4294967295)))))), (5, .int 0), (0, .ref b), (1, .ref h0), (2, .ref m0), (3, .ref o0), (4, .int 0)]) hx hb dL_law_1601 hl (by decide) rfl (fun ls hl => ?_)
    refine lv_aload_n hx hb dL_law_1603 rfl (lv_at hl 4 rfl) ?_
    have hPc := hP.sub (ws' := [(m0, .inr (11, y0.set 9 (.int 0)))]) [2] rfl
    have hDc := hD.sub (ws' := [(m0, .inr (11, y0.set 9 (.int 0)))]) [2] (by decide) rfl
    have hFc := va_free (wc := [(m0, .inr (11, y0.set 9 (.int 0)))]) hD hS hA [2] rfl
    refine va_calli (va_runV (As := []) (rest := []) ⟨hx, hb, hml, hown, hts⟩ (a94_X12_thrown l  D kA V H.size m0 (y0.set 9 (.int 0)) (fun k hk => (by rw [List.length_set]; exact (hq k hk))) (List.getElem?_set_self (hq 9 (by decide)))) (cwV 0 hts (gw_V gw_1879 gw_1880 gw_1881 gw_16 gw_1882) rfl rfl rfl (by decide +kernel) ⟨(Nat.le_of_ble_eq_true rfl), (Nat.le_of_ble_eq_true rfl)⟩) ⟨aP.blind, va_recv hK hP (ci := 11) (q0 := 2) rfl rfl, aP.pre hE hS hPc hK hDc hFc⟩ rfl rfl hl.1 rfl (lv_room (Nat.le_of_ble_eq_true rfl)) dL_law_1604 ⟨(Nat.le_of_ble_eq_true rfl), (Nat.le_of_ble_eq_true rfl)⟩) hS (fun q _ h => hFc q h) hFc (fun r_100786 u t H1 locs ht hvm hw hB hz1 hk1 hS => ?_)
    obtain ⟨hP1, hD1⟩ := hB
    rw [ht] at hP1
    try dsimp only at hw hP1 hD1
    have w_100787 := hw
    subst w_100787
    obtain ⟨hP, hD⟩ := va_join (wr := [(h0, .inr (10, [.ref x0, .int 0, .ref x1, .ref x2, .ref x3, .ref x4, .ref x5, .ref x6, .ref x7, .ref x8, .int 0, .int 3000])), (o0, .inl (kA 1, 1, .inr (.inl (vp_updL (fun _ => 0) 0 (n_cut (xs 2) (n_combine (xs 1) 1 (n_cut (xs 2) ((((xs 4).toInt64) <<< ((32 : Int32).toInt64 &&& 63)) ||| (((xs 5).toInt64) &&& 4294967295))) (n_cut (xs 3) ((((xs 6).toInt64) <<< ((32 : Int32).toInt64 &&& 63)) ||| (((xs 7).toInt64) &&& 4294967295)))))))))]) (w1 := [(m0, .inr (11, (y0.set 9 (.int 0))))]) hP hD [2] [0, 1] rfl rfl (by decide) (by decide) hk1 hFc hP1 hD1
    generalize H1 = H at hP hS ⊢
    have hP : va_P D vwCl [(h0, .inr (10, [.ref x0, .int 0, .ref x1, .ref x2, .ref x3, .ref x4, .ref x5, .ref x6, .ref x7, .ref x8, .int 0, .int 3000])), (o0, .inl (kA 1, 1, .inr (.inl (vp_updL (fun _ => 0) 0 (n_cut (xs 2) (n_combine (xs 1) 1 (n_cut (xs 2) ((((xs 4).toInt64) <<< ((32 : Int32).toInt64 &&& 63)) ||| (((xs 5).toInt64) &&& 4294967295))) (n_cut (xs 3) ((((xs 6).toInt64) <<< ((32 : Int32).toInt64 &&& 63)) ||| (((xs 7).toInt64) &&& 4294967295))))))))), (m0, .inr (11, (y0.set 9 (.int 0))))] H := hP
    have hD : va_D A [(h0, .inr (10, [.ref x0, .int 0, .ref x1, .ref x2, .ref x3, .ref x4, .ref x5, .ref x6, .ref x7, .ref x8, .int 0, .int 3000])), (o0, .inl (kA 1, 1, .inr (.inl (vp_updL (fun _ => 0) 0 (n_cut (xs 2) (n_combine (xs 1) 1 (n_cut (xs 2) ((((xs 4).toInt64) <<< ((32 : Int32).toInt64 &&& 63)) ||| (((xs 5).toInt64) &&& 4294967295))) (n_cut (xs 3) ((((xs 6).toInt64) <<< ((32 : Int32).toInt64 &&& 63)) ||| (((xs 7).toInt64) &&& 4294967295))))))))), (m0, .inr (11, (y0.set 9 (.int 0))))] := hD
    refine lv_iload hx hb dL_law_1607 (lv_at hl 1 rfl) ?_
    refine lv_icmp_eq (tgt := 1614) hx hb dL_law_1609 (by decide) (fun c_100788 => ?_) (fun c_100788 => ?_)
    · skip
      refine lv_iload hx hb dL_law_1614 (lv_at hl 1 rfl) ?_
      refine lv_if_ne (tgt := 1630) hx hb dL_law_1616 (by decide) (fun c_100789 => ?_) (fun c_100789 => ?_)
      · exact absurd (by decide) c_100789
      · skip
        refine lv_aload_n hx hb dL_law_1619 rfl (lv_at hl 5 rfl) ?_
        refine lv_iconst (v := 0) hx hb dL_law_1620 (by decide) ?_
        refine va_lald hx hb hK hP 1 1 rfl rfl (show vp_in 0 1 by unfold vp_in; decide) dL_law_1621 ?_
        refine W.eq (g2 := F0 m 1622 ls [.long (n_cut (xs 2) (n_combine (xs 1) 1 (n_cut (xs 2) ((((xs 4).toInt64) <<< ((32 : Int32).toInt64 &&& 63)) ||| (((xs 5).toInt64) &&& 4294967295))) (n_cut (xs 3) ((((xs 6).toInt64) <<< ((32 : Int32).toInt64 &&& 63)) ||| (((xs 7).toInt64) &&& 4294967295)))))]) rfl ?_
        refine lv_lload hx hb dL_law_1622 (lv_at hl 0 rfl) ?_
        refine W.lcmp hx hb dL_law_1624 ?_
        refine lv_if_eq (tgt := 1630) hx hb dL_law_1625 (by decide) (fun c_100790 => ?_) (fun c_100790 => ?_)
        · skip
          refine lv_goto (tgt := 1804) hx hb dL_law_1630 (by decide) ?_
          exact lk_tail hC hA2 (lv_sub hl [2, 6] rfl) hS (Nat.le_of_ble_eq_true rfl) (Nat.le_of_ble_eq_true rfl)
        · exact absurd ((lg_cmp_eq _ _).mpr (qx_w1 c_106 c_100225 (fun q => q.1.elim (fun z => absurd (c_100238.symm.trans z) (by decide)) (fun z => absurd (c_100238.symm.trans z) (by decide))) (by rw [c_100238]; decide))) c_100790
    · exact absurd (by decide) c_100788
  · exact absurd c_111 hz.2.2.2.2.2.2.2.2.2.2.2.2.2.2.2.2.2.1
  · obtain ⟨c_100265, c_100266, c_100267, c_100268, c_100269, c_100270, c_100271, c_100272, c_100273, c_100274, c_100275, c_100276, c_100277, c_100278, c_100279, c_100280, c_100281, w_100282, w_100283⟩ := hz
    subst w_100282
    subst w_100283
    obtain ⟨hP, hD⟩ := va_join (wr := [(h0, .inr (10, [.ref x0, .int 0, .ref x1, .ref x2, .ref x3, .ref x4, .ref x5, .ref x6, .ref x7, .ref x8, .int 0, .int 3000])), (o0, .inl (kA 1, 1, .inr (.inl (vp_updL (fun _ => 0) 0 (n_cut (xs 2) (n_combine (xs 1) 1 (n_cut (xs 2) ((((xs 4).toInt64) <<< ((32 : Int32).toInt64 &&& 63)) ||| (((xs 5).toInt64) &&& 4294967295))) (n_cut (xs 3) ((((xs 6).toInt64) <<< ((32 : Int32).toInt64 &&& 63)) ||| (((xs 7).toInt64) &&& 4294967295)))))))))]) (w1 := [(m0, .inr (11, y0.set 9 (.int 0)))]) hP hD [0] [1, 2] rfl rfl (by decide) (by decide) hk1 hFc hP1 hD1
    generalize H1 = H at hP hS ⊢
    have hP : va_P D vwCl [(h0, .inr (10, [.ref x0, .int 0, .ref x1, .ref x2, .ref x3, .ref x4, .ref x5, .ref x6, .ref x7, .ref x8, .int 0, .int 3000])), (o0, .inl (kA 1, 1, .inr (.inl (vp_updL (fun _ => 0) 0 (n_cut (xs 2) (n_combine (xs 1) 1 (n_cut (xs 2) ((((xs 4).toInt64) <<< ((32 : Int32).toInt64 &&& 63)) ||| (((xs 5).toInt64) &&& 4294967295))) (n_cut (xs 3) ((((xs 6).toInt64) <<< ((32 : Int32).toInt64 &&& 63)) ||| (((xs 7).toInt64) &&& 4294967295))))))))), (m0, .inr (11, y0.set 9 (.int 0)))] H := hP
    have hD : va_D A [(h0, .inr (10, [.ref x0, .int 0, .ref x1, .ref x2, .ref x3, .ref x4, .ref x5, .ref x6, .ref x7, .ref x8, .int 0, .int 3000])), (o0, .inl (kA 1, 1, .inr (.inl (vp_updL (fun _ => 0) 0 (n_cut (xs 2) (n_combine (xs 1) 1 (n_cut (xs 2) ((((xs 4).toInt64) <<< ((32 : Int32).toInt64 &&& 63)) ||| (((xs 5).toInt64) &&& 4294967295))) (n_cut (xs 3) ((((xs 6).toInt64) <<< ((32 : Int32).toInt64 &&& 63)) ||| (((xs 7).toInt64) &&& 4294967295))))))))), (m0, .inr (11, y0.set 9 (.int 0)))] := hD
    refine lv_lstore (lv' := [(6, .long (n_cut (xs 2) (r_two 236 1 (n_cut (xs 2) ((((xs 4).toInt64) <<< ((32 : Int32).toInt64 &&& 63)) ||| (((xs 5).toInt64) &&& 4294967295))) (n_cut (xs 3) ((((xs 6).toInt64) <<< ((32 : Int32).toInt64 &&& 63)) ||| (((xs 7).toInt64) &&& 4294967295)))))), (5, .int 0), (0, .ref b), (1, .ref h0), (2, .ref m0), (3, .ref o0), (4, .int 0)]) hx hb dL_law_1601 hl (by decide) rfl (fun ls hl => ?_)
    refine lv_aload_n hx hb dL_law_1603 rfl (lv_at hl 4 rfl) ?_
    have hPc := hP.sub (ws' := [(m0, .inr (11, y0.set 9 (.int 0)))]) [2] rfl
    have hDc := hD.sub (ws' := [(m0, .inr (11, y0.set 9 (.int 0)))]) [2] (by decide) rfl
    have hFc := va_free (wc := [(m0, .inr (11, y0.set 9 (.int 0)))]) hD hS hA [2] rfl
    refine va_calli (va_runV (As := []) (rest := []) ⟨hx, hb, hml, hown, hts⟩ (a94_X12_thrown l  D kA V H.size m0 (y0.set 9 (.int 0)) (fun k hk => (by rw [List.length_set]; exact (hq k hk))) (List.getElem?_set_self (hq 9 (by decide)))) (cwV 0 hts (gw_V gw_1879 gw_1880 gw_1881 gw_16 gw_1882) rfl rfl rfl (by decide +kernel) ⟨(Nat.le_of_ble_eq_true rfl), (Nat.le_of_ble_eq_true rfl)⟩) ⟨aP.blind, va_recv hK hP (ci := 11) (q0 := 2) rfl rfl, aP.pre hE hS hPc hK hDc hFc⟩ rfl rfl hl.1 rfl (lv_room (Nat.le_of_ble_eq_true rfl)) dL_law_1604 ⟨(Nat.le_of_ble_eq_true rfl), (Nat.le_of_ble_eq_true rfl)⟩) hS (fun q _ h => hFc q h) hFc (fun r_100791 u t H1 locs ht hvm hw hB hz1 hk1 hS => ?_)
    obtain ⟨hP1, hD1⟩ := hB
    rw [ht] at hP1
    try dsimp only at hw hP1 hD1
    have w_100792 := hw
    subst w_100792
    obtain ⟨hP, hD⟩ := va_join (wr := [(h0, .inr (10, [.ref x0, .int 0, .ref x1, .ref x2, .ref x3, .ref x4, .ref x5, .ref x6, .ref x7, .ref x8, .int 0, .int 3000])), (o0, .inl (kA 1, 1, .inr (.inl (vp_updL (fun _ => 0) 0 (n_cut (xs 2) (n_combine (xs 1) 1 (n_cut (xs 2) ((((xs 4).toInt64) <<< ((32 : Int32).toInt64 &&& 63)) ||| (((xs 5).toInt64) &&& 4294967295))) (n_cut (xs 3) ((((xs 6).toInt64) <<< ((32 : Int32).toInt64 &&& 63)) ||| (((xs 7).toInt64) &&& 4294967295)))))))))]) (w1 := [(m0, .inr (11, (y0.set 9 (.int 0))))]) hP hD [2] [0, 1] rfl rfl (by decide) (by decide) hk1 hFc hP1 hD1
    generalize H1 = H at hP hS ⊢
    have hP : va_P D vwCl [(h0, .inr (10, [.ref x0, .int 0, .ref x1, .ref x2, .ref x3, .ref x4, .ref x5, .ref x6, .ref x7, .ref x8, .int 0, .int 3000])), (o0, .inl (kA 1, 1, .inr (.inl (vp_updL (fun _ => 0) 0 (n_cut (xs 2) (n_combine (xs 1) 1 (n_cut (xs 2) ((((xs 4).toInt64) <<< ((32 : Int32).toInt64 &&& 63)) ||| (((xs 5).toInt64) &&& 4294967295))) (n_cut (xs 3) ((((xs 6).toInt64) <<< ((32 : Int32).toInt64 &&& 63)) ||| (((xs 7).toInt64) &&& 4294967295))))))))), (m0, .inr (11, (y0.set 9 (.int 0))))] H := hP
    have hD : va_D A [(h0, .inr (10, [.ref x0, .int 0, .ref x1, .ref x2, .ref x3, .ref x4, .ref x5, .ref x6, .ref x7, .ref x8, .int 0, .int 3000])), (o0, .inl (kA 1, 1, .inr (.inl (vp_updL (fun _ => 0) 0 (n_cut (xs 2) (n_combine (xs 1) 1 (n_cut (xs 2) ((((xs 4).toInt64) <<< ((32 : Int32).toInt64 &&& 63)) ||| (((xs 5).toInt64) &&& 4294967295))) (n_cut (xs 3) ((((xs 6).toInt64) <<< ((32 : Int32).toInt64 &&& 63)) ||| (((xs 7).toInt64) &&& 4294967295))))))))), (m0, .inr (11, (y0.set 9 (.int 0))))] := hD
    refine lv_iload hx hb dL_law_1607 (lv_at hl 1 rfl) ?_
    refine lv_icmp_eq (tgt := 1614) hx hb dL_law_1609 (by decide) (fun c_100793 => ?_) (fun c_100793 => ?_)
    · skip
      refine lv_iload hx hb dL_law_1614 (lv_at hl 1 rfl) ?_
      refine lv_if_ne (tgt := 1630) hx hb dL_law_1616 (by decide) (fun c_100794 => ?_) (fun c_100794 => ?_)
      · exact absurd (by decide) c_100794
      · skip
        refine lv_aload_n hx hb dL_law_1619 rfl (lv_at hl 5 rfl) ?_
        refine lv_iconst (v := 0) hx hb dL_law_1620 (by decide) ?_
        refine va_lald hx hb hK hP 1 1 rfl rfl (show vp_in 0 1 by unfold vp_in; decide) dL_law_1621 ?_
        refine W.eq (g2 := F0 m 1622 ls [.long (n_cut (xs 2) (n_combine (xs 1) 1 (n_cut (xs 2) ((((xs 4).toInt64) <<< ((32 : Int32).toInt64 &&& 63)) ||| (((xs 5).toInt64) &&& 4294967295))) (n_cut (xs 3) ((((xs 6).toInt64) <<< ((32 : Int32).toInt64 &&& 63)) ||| (((xs 7).toInt64) &&& 4294967295)))))]) rfl ?_
        refine lv_lload hx hb dL_law_1622 (lv_at hl 0 rfl) ?_
        refine W.lcmp hx hb dL_law_1624 ?_
        refine lv_if_eq (tgt := 1630) hx hb dL_law_1625 (by decide) (fun c_100795 => ?_) (fun c_100795 => ?_)
        · skip
          refine lv_goto (tgt := 1804) hx hb dL_law_1630 (by decide) ?_
          exact lk_tail hC hA2 (lv_sub hl [2, 6] rfl) hS (Nat.le_of_ble_eq_true rfl) (Nat.le_of_ble_eq_true rfl)
        · exact absurd ((lg_cmp_eq _ _).mpr (qx_w1 c_106 c_100266 (fun q => q.1.elim (fun z => absurd (c_100278.symm.trans z) (by decide)) (fun z => absurd (c_100278.symm.trans z) (by decide))) (by rw [c_100278]; decide))) c_100795
    · exact absurd (by decide) c_100793
  · exact absurd c_111 hz.2.2.2.2.2.2.2.2.2.2.2.2.2.2.2.2.1
  · exact absurd c_111 hz.2.2.2.2.2.2.2.2.2.2.2.2.2.2.2.2.1
  · obtain ⟨c_100326, c_100327, c_100328, c_100329, c_100330, c_100331, c_100332, c_100333, c_100334, c_100335, c_100336, c_100337, c_100338, c_100339, c_100340, c_100341, w_100342, w_100343⟩ := hz
    subst w_100342
    subst w_100343
    obtain ⟨hP, hD⟩ := va_join (wr := [(h0, .inr (10, [.ref x0, .int 0, .ref x1, .ref x2, .ref x3, .ref x4, .ref x5, .ref x6, .ref x7, .ref x8, .int 0, .int 3000])), (o0, .inl (kA 1, 1, .inr (.inl (vp_updL (fun _ => 0) 0 (n_cut (xs 2) (n_combine (xs 1) 1 (n_cut (xs 2) ((((xs 4).toInt64) <<< ((32 : Int32).toInt64 &&& 63)) ||| (((xs 5).toInt64) &&& 4294967295))) (n_cut (xs 3) ((((xs 6).toInt64) <<< ((32 : Int32).toInt64 &&& 63)) ||| (((xs 7).toInt64) &&& 4294967295)))))))))]) (w1 := [(m0, .inr (11, y0.set 9 (.int 0)))]) hP hD [0] [1, 2] rfl rfl (by decide) (by decide) hk1 hFc hP1 hD1
    generalize H1 = H at hP hS ⊢
    have hP : va_P D vwCl [(h0, .inr (10, [.ref x0, .int 0, .ref x1, .ref x2, .ref x3, .ref x4, .ref x5, .ref x6, .ref x7, .ref x8, .int 0, .int 3000])), (o0, .inl (kA 1, 1, .inr (.inl (vp_updL (fun _ => 0) 0 (n_cut (xs 2) (n_combine (xs 1) 1 (n_cut (xs 2) ((((xs 4).toInt64) <<< ((32 : Int32).toInt64 &&& 63)) ||| (((xs 5).toInt64) &&& 4294967295))) (n_cut (xs 3) ((((xs 6).toInt64) <<< ((32 : Int32).toInt64 &&& 63)) ||| (((xs 7).toInt64) &&& 4294967295))))))))), (m0, .inr (11, y0.set 9 (.int 0)))] H := hP
    have hD : va_D A [(h0, .inr (10, [.ref x0, .int 0, .ref x1, .ref x2, .ref x3, .ref x4, .ref x5, .ref x6, .ref x7, .ref x8, .int 0, .int 3000])), (o0, .inl (kA 1, 1, .inr (.inl (vp_updL (fun _ => 0) 0 (n_cut (xs 2) (n_combine (xs 1) 1 (n_cut (xs 2) ((((xs 4).toInt64) <<< ((32 : Int32).toInt64 &&& 63)) ||| (((xs 5).toInt64) &&& 4294967295))) (n_cut (xs 3) ((((xs 6).toInt64) <<< ((32 : Int32).toInt64 &&& 63)) ||| (((xs 7).toInt64) &&& 4294967295))))))))), (m0, .inr (11, y0.set 9 (.int 0)))] := hD
    refine lv_lstore (lv' := [(6, .long (n_cut (xs 2) (r_two 235 1 (n_cut (xs 2) ((((xs 4).toInt64) <<< ((32 : Int32).toInt64 &&& 63)) ||| (((xs 5).toInt64) &&& 4294967295))) (n_cut (xs 3) ((((xs 6).toInt64) <<< ((32 : Int32).toInt64 &&& 63)) ||| (((xs 7).toInt64) &&& 4294967295)))))), (5, .int 0), (0, .ref b), (1, .ref h0), (2, .ref m0), (3, .ref o0), (4, .int 0)]) hx hb dL_law_1601 hl (by decide) rfl (fun ls hl => ?_)
    refine lv_aload_n hx hb dL_law_1603 rfl (lv_at hl 4 rfl) ?_
    have hPc := hP.sub (ws' := [(m0, .inr (11, y0.set 9 (.int 0)))]) [2] rfl
    have hDc := hD.sub (ws' := [(m0, .inr (11, y0.set 9 (.int 0)))]) [2] (by decide) rfl
    have hFc := va_free (wc := [(m0, .inr (11, y0.set 9 (.int 0)))]) hD hS hA [2] rfl
    refine va_calli (va_runV (As := []) (rest := []) ⟨hx, hb, hml, hown, hts⟩ (a94_X12_thrown l  D kA V H.size m0 (y0.set 9 (.int 0)) (fun k hk => (by rw [List.length_set]; exact (hq k hk))) (List.getElem?_set_self (hq 9 (by decide)))) (cwV 0 hts (gw_V gw_1879 gw_1880 gw_1881 gw_16 gw_1882) rfl rfl rfl (by decide +kernel) ⟨(Nat.le_of_ble_eq_true rfl), (Nat.le_of_ble_eq_true rfl)⟩) ⟨aP.blind, va_recv hK hP (ci := 11) (q0 := 2) rfl rfl, aP.pre hE hS hPc hK hDc hFc⟩ rfl rfl hl.1 rfl (lv_room (Nat.le_of_ble_eq_true rfl)) dL_law_1604 ⟨(Nat.le_of_ble_eq_true rfl), (Nat.le_of_ble_eq_true rfl)⟩) hS (fun q _ h => hFc q h) hFc (fun r_100796 u t H1 locs ht hvm hw hB hz1 hk1 hS => ?_)
    obtain ⟨hP1, hD1⟩ := hB
    rw [ht] at hP1
    try dsimp only at hw hP1 hD1
    have w_100797 := hw
    subst w_100797
    obtain ⟨hP, hD⟩ := va_join (wr := [(h0, .inr (10, [.ref x0, .int 0, .ref x1, .ref x2, .ref x3, .ref x4, .ref x5, .ref x6, .ref x7, .ref x8, .int 0, .int 3000])), (o0, .inl (kA 1, 1, .inr (.inl (vp_updL (fun _ => 0) 0 (n_cut (xs 2) (n_combine (xs 1) 1 (n_cut (xs 2) ((((xs 4).toInt64) <<< ((32 : Int32).toInt64 &&& 63)) ||| (((xs 5).toInt64) &&& 4294967295))) (n_cut (xs 3) ((((xs 6).toInt64) <<< ((32 : Int32).toInt64 &&& 63)) ||| (((xs 7).toInt64) &&& 4294967295)))))))))]) (w1 := [(m0, .inr (11, (y0.set 9 (.int 0))))]) hP hD [2] [0, 1] rfl rfl (by decide) (by decide) hk1 hFc hP1 hD1
    generalize H1 = H at hP hS ⊢
    have hP : va_P D vwCl [(h0, .inr (10, [.ref x0, .int 0, .ref x1, .ref x2, .ref x3, .ref x4, .ref x5, .ref x6, .ref x7, .ref x8, .int 0, .int 3000])), (o0, .inl (kA 1, 1, .inr (.inl (vp_updL (fun _ => 0) 0 (n_cut (xs 2) (n_combine (xs 1) 1 (n_cut (xs 2) ((((xs 4).toInt64) <<< ((32 : Int32).toInt64 &&& 63)) ||| (((xs 5).toInt64) &&& 4294967295))) (n_cut (xs 3) ((((xs 6).toInt64) <<< ((32 : Int32).toInt64 &&& 63)) ||| (((xs 7).toInt64) &&& 4294967295))))))))), (m0, .inr (11, (y0.set 9 (.int 0))))] H := hP
    have hD : va_D A [(h0, .inr (10, [.ref x0, .int 0, .ref x1, .ref x2, .ref x3, .ref x4, .ref x5, .ref x6, .ref x7, .ref x8, .int 0, .int 3000])), (o0, .inl (kA 1, 1, .inr (.inl (vp_updL (fun _ => 0) 0 (n_cut (xs 2) (n_combine (xs 1) 1 (n_cut (xs 2) ((((xs 4).toInt64) <<< ((32 : Int32).toInt64 &&& 63)) ||| (((xs 5).toInt64) &&& 4294967295))) (n_cut (xs 3) ((((xs 6).toInt64) <<< ((32 : Int32).toInt64 &&& 63)) ||| (((xs 7).toInt64) &&& 4294967295))))))))), (m0, .inr (11, (y0.set 9 (.int 0))))] := hD
    refine lv_iload hx hb dL_law_1607 (lv_at hl 1 rfl) ?_
    refine lv_icmp_eq (tgt := 1614) hx hb dL_law_1609 (by decide) (fun c_100798 => ?_) (fun c_100798 => ?_)
    · skip
      refine lv_iload hx hb dL_law_1614 (lv_at hl 1 rfl) ?_
      refine lv_if_ne (tgt := 1630) hx hb dL_law_1616 (by decide) (fun c_100799 => ?_) (fun c_100799 => ?_)
      · exact absurd (by decide) c_100799
      · skip
        refine lv_aload_n hx hb dL_law_1619 rfl (lv_at hl 5 rfl) ?_
        refine lv_iconst (v := 0) hx hb dL_law_1620 (by decide) ?_
        refine va_lald hx hb hK hP 1 1 rfl rfl (show vp_in 0 1 by unfold vp_in; decide) dL_law_1621 ?_
        refine W.eq (g2 := F0 m 1622 ls [.long (n_cut (xs 2) (n_combine (xs 1) 1 (n_cut (xs 2) ((((xs 4).toInt64) <<< ((32 : Int32).toInt64 &&& 63)) ||| (((xs 5).toInt64) &&& 4294967295))) (n_cut (xs 3) ((((xs 6).toInt64) <<< ((32 : Int32).toInt64 &&& 63)) ||| (((xs 7).toInt64) &&& 4294967295)))))]) rfl ?_
        refine lv_lload hx hb dL_law_1622 (lv_at hl 0 rfl) ?_
        refine W.lcmp hx hb dL_law_1624 ?_
        refine lv_if_eq (tgt := 1630) hx hb dL_law_1625 (by decide) (fun c_100800 => ?_) (fun c_100800 => ?_)
        · skip
          refine lv_goto (tgt := 1804) hx hb dL_law_1630 (by decide) ?_
          exact lk_tail hC hA2 (lv_sub hl [2, 6] rfl) hS (Nat.le_of_ble_eq_true rfl) (Nat.le_of_ble_eq_true rfl)
        · exact absurd ((lg_cmp_eq _ _).mpr (qx_w1 c_106 c_100327 (fun q => q.1.elim (fun z => absurd (c_100338.symm.trans z) (by decide)) (fun z => absurd (c_100338.symm.trans z) (by decide))) (by rw [c_100338]; decide))) c_100800
    · exact absurd (by decide) c_100798
  · exact absurd c_111 hz.2.2.2.2.2.2.2.2.2.2.2.2.2.2.2.1
  · exact absurd c_111 hz.2.2.2.2.2.2.2.2.2.2.2.2.2.2.2.1
  · obtain ⟨c_100384, c_100385, c_100386, c_100387, c_100388, c_100389, c_100390, c_100391, c_100392, c_100393, c_100394, c_100395, c_100396, c_100397, c_100398, w_100399, w_100400⟩ := hz
    subst w_100399
    subst w_100400
    obtain ⟨hP, hD⟩ := va_join (wr := [(h0, .inr (10, [.ref x0, .int 0, .ref x1, .ref x2, .ref x3, .ref x4, .ref x5, .ref x6, .ref x7, .ref x8, .int 0, .int 3000])), (o0, .inl (kA 1, 1, .inr (.inl (vp_updL (fun _ => 0) 0 (n_cut (xs 2) (n_combine (xs 1) 1 (n_cut (xs 2) ((((xs 4).toInt64) <<< ((32 : Int32).toInt64 &&& 63)) ||| (((xs 5).toInt64) &&& 4294967295))) (n_cut (xs 3) ((((xs 6).toInt64) <<< ((32 : Int32).toInt64 &&& 63)) ||| (((xs 7).toInt64) &&& 4294967295)))))))))]) (w1 := [(m0, .inr (11, y0.set 9 (.int 0)))]) hP hD [0] [1, 2] rfl rfl (by decide) (by decide) hk1 hFc hP1 hD1
    generalize H1 = H at hP hS ⊢
    have hP : va_P D vwCl [(h0, .inr (10, [.ref x0, .int 0, .ref x1, .ref x2, .ref x3, .ref x4, .ref x5, .ref x6, .ref x7, .ref x8, .int 0, .int 3000])), (o0, .inl (kA 1, 1, .inr (.inl (vp_updL (fun _ => 0) 0 (n_cut (xs 2) (n_combine (xs 1) 1 (n_cut (xs 2) ((((xs 4).toInt64) <<< ((32 : Int32).toInt64 &&& 63)) ||| (((xs 5).toInt64) &&& 4294967295))) (n_cut (xs 3) ((((xs 6).toInt64) <<< ((32 : Int32).toInt64 &&& 63)) ||| (((xs 7).toInt64) &&& 4294967295))))))))), (m0, .inr (11, y0.set 9 (.int 0)))] H := hP
    have hD : va_D A [(h0, .inr (10, [.ref x0, .int 0, .ref x1, .ref x2, .ref x3, .ref x4, .ref x5, .ref x6, .ref x7, .ref x8, .int 0, .int 3000])), (o0, .inl (kA 1, 1, .inr (.inl (vp_updL (fun _ => 0) 0 (n_cut (xs 2) (n_combine (xs 1) 1 (n_cut (xs 2) ((((xs 4).toInt64) <<< ((32 : Int32).toInt64 &&& 63)) ||| (((xs 5).toInt64) &&& 4294967295))) (n_cut (xs 3) ((((xs 6).toInt64) <<< ((32 : Int32).toInt64 &&& 63)) ||| (((xs 7).toInt64) &&& 4294967295))))))))), (m0, .inr (11, y0.set 9 (.int 0)))] := hD
    refine lv_lstore (lv' := [(6, .long (n_cut (xs 2) (r_two 237 1 (n_cut (xs 2) ((((xs 4).toInt64) <<< ((32 : Int32).toInt64 &&& 63)) ||| (((xs 5).toInt64) &&& 4294967295))) (n_cut (xs 3) ((((xs 6).toInt64) <<< ((32 : Int32).toInt64 &&& 63)) ||| (((xs 7).toInt64) &&& 4294967295)))))), (5, .int 0), (0, .ref b), (1, .ref h0), (2, .ref m0), (3, .ref o0), (4, .int 0)]) hx hb dL_law_1601 hl (by decide) rfl (fun ls hl => ?_)
    refine lv_aload_n hx hb dL_law_1603 rfl (lv_at hl 4 rfl) ?_
    have hPc := hP.sub (ws' := [(m0, .inr (11, y0.set 9 (.int 0)))]) [2] rfl
    have hDc := hD.sub (ws' := [(m0, .inr (11, y0.set 9 (.int 0)))]) [2] (by decide) rfl
    have hFc := va_free (wc := [(m0, .inr (11, y0.set 9 (.int 0)))]) hD hS hA [2] rfl
    refine va_calli (va_runV (As := []) (rest := []) ⟨hx, hb, hml, hown, hts⟩ (a94_X12_thrown l  D kA V H.size m0 (y0.set 9 (.int 0)) (fun k hk => (by rw [List.length_set]; exact (hq k hk))) (List.getElem?_set_self (hq 9 (by decide)))) (cwV 0 hts (gw_V gw_1879 gw_1880 gw_1881 gw_16 gw_1882) rfl rfl rfl (by decide +kernel) ⟨(Nat.le_of_ble_eq_true rfl), (Nat.le_of_ble_eq_true rfl)⟩) ⟨aP.blind, va_recv hK hP (ci := 11) (q0 := 2) rfl rfl, aP.pre hE hS hPc hK hDc hFc⟩ rfl rfl hl.1 rfl (lv_room (Nat.le_of_ble_eq_true rfl)) dL_law_1604 ⟨(Nat.le_of_ble_eq_true rfl), (Nat.le_of_ble_eq_true rfl)⟩) hS (fun q _ h => hFc q h) hFc (fun r_100801 u t H1 locs ht hvm hw hB hz1 hk1 hS => ?_)
    obtain ⟨hP1, hD1⟩ := hB
    rw [ht] at hP1
    try dsimp only at hw hP1 hD1
    have w_100802 := hw
    subst w_100802
    obtain ⟨hP, hD⟩ := va_join (wr := [(h0, .inr (10, [.ref x0, .int 0, .ref x1, .ref x2, .ref x3, .ref x4, .ref x5, .ref x6, .ref x7, .ref x8, .int 0, .int 3000])), (o0, .inl (kA 1, 1, .inr (.inl (vp_updL (fun _ => 0) 0 (n_cut (xs 2) (n_combine (xs 1) 1 (n_cut (xs 2) ((((xs 4).toInt64) <<< ((32 : Int32).toInt64 &&& 63)) ||| (((xs 5).toInt64) &&& 4294967295))) (n_cut (xs 3) ((((xs 6).toInt64) <<< ((32 : Int32).toInt64 &&& 63)) ||| (((xs 7).toInt64) &&& 4294967295)))))))))]) (w1 := [(m0, .inr (11, (y0.set 9 (.int 0))))]) hP hD [2] [0, 1] rfl rfl (by decide) (by decide) hk1 hFc hP1 hD1
    generalize H1 = H at hP hS ⊢
    have hP : va_P D vwCl [(h0, .inr (10, [.ref x0, .int 0, .ref x1, .ref x2, .ref x3, .ref x4, .ref x5, .ref x6, .ref x7, .ref x8, .int 0, .int 3000])), (o0, .inl (kA 1, 1, .inr (.inl (vp_updL (fun _ => 0) 0 (n_cut (xs 2) (n_combine (xs 1) 1 (n_cut (xs 2) ((((xs 4).toInt64) <<< ((32 : Int32).toInt64 &&& 63)) ||| (((xs 5).toInt64) &&& 4294967295))) (n_cut (xs 3) ((((xs 6).toInt64) <<< ((32 : Int32).toInt64 &&& 63)) ||| (((xs 7).toInt64) &&& 4294967295))))))))), (m0, .inr (11, (y0.set 9 (.int 0))))] H := hP
    have hD : va_D A [(h0, .inr (10, [.ref x0, .int 0, .ref x1, .ref x2, .ref x3, .ref x4, .ref x5, .ref x6, .ref x7, .ref x8, .int 0, .int 3000])), (o0, .inl (kA 1, 1, .inr (.inl (vp_updL (fun _ => 0) 0 (n_cut (xs 2) (n_combine (xs 1) 1 (n_cut (xs 2) ((((xs 4).toInt64) <<< ((32 : Int32).toInt64 &&& 63)) ||| (((xs 5).toInt64) &&& 4294967295))) (n_cut (xs 3) ((((xs 6).toInt64) <<< ((32 : Int32).toInt64 &&& 63)) ||| (((xs 7).toInt64) &&& 4294967295))))))))), (m0, .inr (11, (y0.set 9 (.int 0))))] := hD
    refine lv_iload hx hb dL_law_1607 (lv_at hl 1 rfl) ?_
    refine lv_icmp_eq (tgt := 1614) hx hb dL_law_1609 (by decide) (fun c_100803 => ?_) (fun c_100803 => ?_)
    · skip
      refine lv_iload hx hb dL_law_1614 (lv_at hl 1 rfl) ?_
      refine lv_if_ne (tgt := 1630) hx hb dL_law_1616 (by decide) (fun c_100804 => ?_) (fun c_100804 => ?_)
      · exact absurd (by decide) c_100804
      · skip
        refine lv_aload_n hx hb dL_law_1619 rfl (lv_at hl 5 rfl) ?_
        refine lv_iconst (v := 0) hx hb dL_law_1620 (by decide) ?_
        refine va_lald hx hb hK hP 1 1 rfl rfl (show vp_in 0 1 by unfold vp_in; decide) dL_law_1621 ?_
        refine W.eq (g2 := F0 m 1622 ls [.long (n_cut (xs 2) (n_combine (xs 1) 1 (n_cut (xs 2) ((((xs 4).toInt64) <<< ((32 : Int32).toInt64 &&& 63)) ||| (((xs 5).toInt64) &&& 4294967295))) (n_cut (xs 3) ((((xs 6).toInt64) <<< ((32 : Int32).toInt64 &&& 63)) ||| (((xs 7).toInt64) &&& 4294967295)))))]) rfl ?_
        refine lv_lload hx hb dL_law_1622 (lv_at hl 0 rfl) ?_
        refine W.lcmp hx hb dL_law_1624 ?_
        refine lv_if_eq (tgt := 1630) hx hb dL_law_1625 (by decide) (fun c_100805 => ?_) (fun c_100805 => ?_)
        · skip
          refine lv_goto (tgt := 1804) hx hb dL_law_1630 (by decide) ?_
          exact lk_tail hC hA2 (lv_sub hl [2, 6] rfl) hS (Nat.le_of_ble_eq_true rfl) (Nat.le_of_ble_eq_true rfl)
        · exact absurd ((lg_cmp_eq _ _).mpr (qx_w1 c_106 c_100385 (fun q => q.1.elim (fun z => absurd (c_100395.symm.trans z) (by decide)) (fun z => absurd (c_100395.symm.trans z) (by decide))) (by rw [c_100395]; decide))) c_100805
    · exact absurd (by decide) c_100803
  · exact absurd c_111 hz.2.2.2.2.2.2.2.2.2.2.2.2.2.2.1
  · exact absurd c_111 hz.2.2.2.2.2.2.2.2.2.2.2.2.2.2.1
  · exact absurd hz.2.2.2.2.2.2.2.2.2.2.1 c_110
  · exact absurd hz.2.2.2.2.2.2.2.2.2.2.1 c_110
  · exact absurd hz.2.2.2.2.2.2.2.2.2.2.1 c_110
  · exact absurd hz.2.2.2.2.2.2.2.2.2.2.1 c_110
  · exact absurd hz.2.2.2.2.2.2.2.2.2.2.1 c_110
  · exact absurd hz.2.2.2.2.2.2.2.2.2.2.1 c_110
  · exact absurd hz.2.2.2.2.2.2.2.2.2.1 c_109
  · exact absurd hz.2.2.2.2.2.2.2.2.2.1 c_109
  · exact absurd hz.2.2.2.2.2.2.2.2.2.1 c_109
  · exact absurd hz.2.2.2.2.2.2.2.2.2.1 c_109
  · exact absurd hz.2.2.2.2.2.2.2.2.2.1 c_109
  · exact absurd hz.2.2.2.2.2.2.2.2.2.1 c_109
  · obtain ⟨c_100647, c_100648, c_100649, c_100650, c_100651, c_100652, c_100653, c_100654, c_100655, c_100656, c_100657, c_100658, w_100659, w_100660⟩ := hz
    subst w_100659
    subst w_100660
    obtain ⟨hP, hD⟩ := va_join (wr := [(h0, .inr (10, [.ref x0, .int 0, .ref x1, .ref x2, .ref x3, .ref x4, .ref x5, .ref x6, .ref x7, .ref x8, .int 0, .int 3000])), (o0, .inl (kA 1, 1, .inr (.inl (vp_updL (fun _ => 0) 0 (n_cut (xs 2) (n_combine (xs 1) 1 (n_cut (xs 2) ((((xs 4).toInt64) <<< ((32 : Int32).toInt64 &&& 63)) ||| (((xs 5).toInt64) &&& 4294967295))) (n_cut (xs 3) ((((xs 6).toInt64) <<< ((32 : Int32).toInt64 &&& 63)) ||| (((xs 7).toInt64) &&& 4294967295)))))))))]) (w1 := [(m0, .inr (11, y0.set 9 (.int 0)))]) hP hD [0] [1, 2] rfl rfl (by decide) (by decide) hk1 hFc hP1 hD1
    generalize H1 = H at hP hS ⊢
    have hP : va_P D vwCl [(h0, .inr (10, [.ref x0, .int 0, .ref x1, .ref x2, .ref x3, .ref x4, .ref x5, .ref x6, .ref x7, .ref x8, .int 0, .int 3000])), (o0, .inl (kA 1, 1, .inr (.inl (vp_updL (fun _ => 0) 0 (n_cut (xs 2) (n_combine (xs 1) 1 (n_cut (xs 2) ((((xs 4).toInt64) <<< ((32 : Int32).toInt64 &&& 63)) ||| (((xs 5).toInt64) &&& 4294967295))) (n_cut (xs 3) ((((xs 6).toInt64) <<< ((32 : Int32).toInt64 &&& 63)) ||| (((xs 7).toInt64) &&& 4294967295))))))))), (m0, .inr (11, y0.set 9 (.int 0)))] H := hP
    have hD : va_D A [(h0, .inr (10, [.ref x0, .int 0, .ref x1, .ref x2, .ref x3, .ref x4, .ref x5, .ref x6, .ref x7, .ref x8, .int 0, .int 3000])), (o0, .inl (kA 1, 1, .inr (.inl (vp_updL (fun _ => 0) 0 (n_cut (xs 2) (n_combine (xs 1) 1 (n_cut (xs 2) ((((xs 4).toInt64) <<< ((32 : Int32).toInt64 &&& 63)) ||| (((xs 5).toInt64) &&& 4294967295))) (n_cut (xs 3) ((((xs 6).toInt64) <<< ((32 : Int32).toInt64 &&& 63)) ||| (((xs 7).toInt64) &&& 4294967295))))))))), (m0, .inr (11, y0.set 9 (.int 0)))] := hD
    refine lv_lstore (lv' := [(6, .long (n_cut (xs 2) (r_two 242 1 (n_cut (xs 2) ((((xs 4).toInt64) <<< ((32 : Int32).toInt64 &&& 63)) ||| (((xs 5).toInt64) &&& 4294967295))) (n_cut (xs 3) ((((xs 6).toInt64) <<< ((32 : Int32).toInt64 &&& 63)) ||| (((xs 7).toInt64) &&& 4294967295)))))), (5, .int 0), (0, .ref b), (1, .ref h0), (2, .ref m0), (3, .ref o0), (4, .int 0)]) hx hb dL_law_1601 hl (by decide) rfl (fun ls hl => ?_)
    refine lv_aload_n hx hb dL_law_1603 rfl (lv_at hl 4 rfl) ?_
    have hPc := hP.sub (ws' := [(m0, .inr (11, y0.set 9 (.int 0)))]) [2] rfl
    have hDc := hD.sub (ws' := [(m0, .inr (11, y0.set 9 (.int 0)))]) [2] (by decide) rfl
    have hFc := va_free (wc := [(m0, .inr (11, y0.set 9 (.int 0)))]) hD hS hA [2] rfl
    refine va_calli (va_runV (As := []) (rest := []) ⟨hx, hb, hml, hown, hts⟩ (a94_X12_thrown l  D kA V H.size m0 (y0.set 9 (.int 0)) (fun k hk => (by rw [List.length_set]; exact (hq k hk))) (List.getElem?_set_self (hq 9 (by decide)))) (cwV 0 hts (gw_V gw_1879 gw_1880 gw_1881 gw_16 gw_1882) rfl rfl rfl (by decide +kernel) ⟨(Nat.le_of_ble_eq_true rfl), (Nat.le_of_ble_eq_true rfl)⟩) ⟨aP.blind, va_recv hK hP (ci := 11) (q0 := 2) rfl rfl, aP.pre hE hS hPc hK hDc hFc⟩ rfl rfl hl.1 rfl (lv_room (Nat.le_of_ble_eq_true rfl)) dL_law_1604 ⟨(Nat.le_of_ble_eq_true rfl), (Nat.le_of_ble_eq_true rfl)⟩) hS (fun q _ h => hFc q h) hFc (fun r_100806 u t H1 locs ht hvm hw hB hz1 hk1 hS => ?_)
    obtain ⟨hP1, hD1⟩ := hB
    rw [ht] at hP1
    try dsimp only at hw hP1 hD1
    have w_100807 := hw
    subst w_100807
    obtain ⟨hP, hD⟩ := va_join (wr := [(h0, .inr (10, [.ref x0, .int 0, .ref x1, .ref x2, .ref x3, .ref x4, .ref x5, .ref x6, .ref x7, .ref x8, .int 0, .int 3000])), (o0, .inl (kA 1, 1, .inr (.inl (vp_updL (fun _ => 0) 0 (n_cut (xs 2) (n_combine (xs 1) 1 (n_cut (xs 2) ((((xs 4).toInt64) <<< ((32 : Int32).toInt64 &&& 63)) ||| (((xs 5).toInt64) &&& 4294967295))) (n_cut (xs 3) ((((xs 6).toInt64) <<< ((32 : Int32).toInt64 &&& 63)) ||| (((xs 7).toInt64) &&& 4294967295)))))))))]) (w1 := [(m0, .inr (11, (y0.set 9 (.int 0))))]) hP hD [2] [0, 1] rfl rfl (by decide) (by decide) hk1 hFc hP1 hD1
    generalize H1 = H at hP hS ⊢
    have hP : va_P D vwCl [(h0, .inr (10, [.ref x0, .int 0, .ref x1, .ref x2, .ref x3, .ref x4, .ref x5, .ref x6, .ref x7, .ref x8, .int 0, .int 3000])), (o0, .inl (kA 1, 1, .inr (.inl (vp_updL (fun _ => 0) 0 (n_cut (xs 2) (n_combine (xs 1) 1 (n_cut (xs 2) ((((xs 4).toInt64) <<< ((32 : Int32).toInt64 &&& 63)) ||| (((xs 5).toInt64) &&& 4294967295))) (n_cut (xs 3) ((((xs 6).toInt64) <<< ((32 : Int32).toInt64 &&& 63)) ||| (((xs 7).toInt64) &&& 4294967295))))))))), (m0, .inr (11, (y0.set 9 (.int 0))))] H := hP
    have hD : va_D A [(h0, .inr (10, [.ref x0, .int 0, .ref x1, .ref x2, .ref x3, .ref x4, .ref x5, .ref x6, .ref x7, .ref x8, .int 0, .int 3000])), (o0, .inl (kA 1, 1, .inr (.inl (vp_updL (fun _ => 0) 0 (n_cut (xs 2) (n_combine (xs 1) 1 (n_cut (xs 2) ((((xs 4).toInt64) <<< ((32 : Int32).toInt64 &&& 63)) ||| (((xs 5).toInt64) &&& 4294967295))) (n_cut (xs 3) ((((xs 6).toInt64) <<< ((32 : Int32).toInt64 &&& 63)) ||| (((xs 7).toInt64) &&& 4294967295))))))))), (m0, .inr (11, (y0.set 9 (.int 0))))] := hD
    refine lv_iload hx hb dL_law_1607 (lv_at hl 1 rfl) ?_
    refine lv_icmp_eq (tgt := 1614) hx hb dL_law_1609 (by decide) (fun c_100808 => ?_) (fun c_100808 => ?_)
    · skip
      refine lv_iload hx hb dL_law_1614 (lv_at hl 1 rfl) ?_
      refine lv_if_ne (tgt := 1630) hx hb dL_law_1616 (by decide) (fun c_100809 => ?_) (fun c_100809 => ?_)
      · exact absurd (by decide) c_100809
      · skip
        refine lv_aload_n hx hb dL_law_1619 rfl (lv_at hl 5 rfl) ?_
        refine lv_iconst (v := 0) hx hb dL_law_1620 (by decide) ?_
        refine va_lald hx hb hK hP 1 1 rfl rfl (show vp_in 0 1 by unfold vp_in; decide) dL_law_1621 ?_
        refine W.eq (g2 := F0 m 1622 ls [.long (n_cut (xs 2) (n_combine (xs 1) 1 (n_cut (xs 2) ((((xs 4).toInt64) <<< ((32 : Int32).toInt64 &&& 63)) ||| (((xs 5).toInt64) &&& 4294967295))) (n_cut (xs 3) ((((xs 6).toInt64) <<< ((32 : Int32).toInt64 &&& 63)) ||| (((xs 7).toInt64) &&& 4294967295)))))]) rfl ?_
        refine lv_lload hx hb dL_law_1622 (lv_at hl 0 rfl) ?_
        refine W.lcmp hx hb dL_law_1624 ?_
        refine lv_if_eq (tgt := 1630) hx hb dL_law_1625 (by decide) (fun c_100810 => ?_) (fun c_100810 => ?_)
        · skip
          refine lv_goto (tgt := 1804) hx hb dL_law_1630 (by decide) ?_
          exact lk_tail hC hA2 (lv_sub hl [2, 6] rfl) hS (Nat.le_of_ble_eq_true rfl) (Nat.le_of_ble_eq_true rfl)
        · exact absurd ((lg_cmp_eq _ _).mpr (qx_w1 c_106 c_100648 (fun q => q.1.elim (fun z => absurd (c_100655.symm.trans z) (by decide)) (fun z => absurd (c_100655.symm.trans z) (by decide))) (by rw [c_100655]; decide))) c_100810
    · exact absurd (by decide) c_100808
  · exact absurd c_111 hz.2.2.2.2.2.2.2.2.2.2.2.1
  · exact absurd c_111 hz.2.2.2.2.2.2.2.2.2.2.2.1
  · obtain ⟨c_100693, c_100694, c_100695, c_100696, c_100697, c_100698, c_100699, c_100700, c_100701, c_100702, c_100703, w_100704, w_100705⟩ := hz
    subst w_100704
    subst w_100705
    obtain ⟨hP, hD⟩ := va_join (wr := [(h0, .inr (10, [.ref x0, .int 0, .ref x1, .ref x2, .ref x3, .ref x4, .ref x5, .ref x6, .ref x7, .ref x8, .int 0, .int 3000])), (o0, .inl (kA 1, 1, .inr (.inl (vp_updL (fun _ => 0) 0 (n_cut (xs 2) (n_combine (xs 1) 1 (n_cut (xs 2) ((((xs 4).toInt64) <<< ((32 : Int32).toInt64 &&& 63)) ||| (((xs 5).toInt64) &&& 4294967295))) (n_cut (xs 3) ((((xs 6).toInt64) <<< ((32 : Int32).toInt64 &&& 63)) ||| (((xs 7).toInt64) &&& 4294967295)))))))))]) (w1 := [(m0, .inr (11, y0.set 9 (.int 0)))]) hP hD [0] [1, 2] rfl rfl (by decide) (by decide) hk1 hFc hP1 hD1
    generalize H1 = H at hP hS ⊢
    have hP : va_P D vwCl [(h0, .inr (10, [.ref x0, .int 0, .ref x1, .ref x2, .ref x3, .ref x4, .ref x5, .ref x6, .ref x7, .ref x8, .int 0, .int 3000])), (o0, .inl (kA 1, 1, .inr (.inl (vp_updL (fun _ => 0) 0 (n_cut (xs 2) (n_combine (xs 1) 1 (n_cut (xs 2) ((((xs 4).toInt64) <<< ((32 : Int32).toInt64 &&& 63)) ||| (((xs 5).toInt64) &&& 4294967295))) (n_cut (xs 3) ((((xs 6).toInt64) <<< ((32 : Int32).toInt64 &&& 63)) ||| (((xs 7).toInt64) &&& 4294967295))))))))), (m0, .inr (11, y0.set 9 (.int 0)))] H := hP
    have hD : va_D A [(h0, .inr (10, [.ref x0, .int 0, .ref x1, .ref x2, .ref x3, .ref x4, .ref x5, .ref x6, .ref x7, .ref x8, .int 0, .int 3000])), (o0, .inl (kA 1, 1, .inr (.inl (vp_updL (fun _ => 0) 0 (n_cut (xs 2) (n_combine (xs 1) 1 (n_cut (xs 2) ((((xs 4).toInt64) <<< ((32 : Int32).toInt64 &&& 63)) ||| (((xs 5).toInt64) &&& 4294967295))) (n_cut (xs 3) ((((xs 6).toInt64) <<< ((32 : Int32).toInt64 &&& 63)) ||| (((xs 7).toInt64) &&& 4294967295))))))))), (m0, .inr (11, y0.set 9 (.int 0)))] := hD
    refine lv_lstore (lv' := [(6, .long (n_cut (xs 2) (r_two 241 1 (n_cut (xs 2) ((((xs 4).toInt64) <<< ((32 : Int32).toInt64 &&& 63)) ||| (((xs 5).toInt64) &&& 4294967295))) (n_cut (xs 3) ((((xs 6).toInt64) <<< ((32 : Int32).toInt64 &&& 63)) ||| (((xs 7).toInt64) &&& 4294967295)))))), (5, .int 0), (0, .ref b), (1, .ref h0), (2, .ref m0), (3, .ref o0), (4, .int 0)]) hx hb dL_law_1601 hl (by decide) rfl (fun ls hl => ?_)
    refine lv_aload_n hx hb dL_law_1603 rfl (lv_at hl 4 rfl) ?_
    have hPc := hP.sub (ws' := [(m0, .inr (11, y0.set 9 (.int 0)))]) [2] rfl
    have hDc := hD.sub (ws' := [(m0, .inr (11, y0.set 9 (.int 0)))]) [2] (by decide) rfl
    have hFc := va_free (wc := [(m0, .inr (11, y0.set 9 (.int 0)))]) hD hS hA [2] rfl
    refine va_calli (va_runV (As := []) (rest := []) ⟨hx, hb, hml, hown, hts⟩ (a94_X12_thrown l  D kA V H.size m0 (y0.set 9 (.int 0)) (fun k hk => (by rw [List.length_set]; exact (hq k hk))) (List.getElem?_set_self (hq 9 (by decide)))) (cwV 0 hts (gw_V gw_1879 gw_1880 gw_1881 gw_16 gw_1882) rfl rfl rfl (by decide +kernel) ⟨(Nat.le_of_ble_eq_true rfl), (Nat.le_of_ble_eq_true rfl)⟩) ⟨aP.blind, va_recv hK hP (ci := 11) (q0 := 2) rfl rfl, aP.pre hE hS hPc hK hDc hFc⟩ rfl rfl hl.1 rfl (lv_room (Nat.le_of_ble_eq_true rfl)) dL_law_1604 ⟨(Nat.le_of_ble_eq_true rfl), (Nat.le_of_ble_eq_true rfl)⟩) hS (fun q _ h => hFc q h) hFc (fun r_100811 u t H1 locs ht hvm hw hB hz1 hk1 hS => ?_)
    obtain ⟨hP1, hD1⟩ := hB
    rw [ht] at hP1
    try dsimp only at hw hP1 hD1
    have w_100812 := hw
    subst w_100812
    obtain ⟨hP, hD⟩ := va_join (wr := [(h0, .inr (10, [.ref x0, .int 0, .ref x1, .ref x2, .ref x3, .ref x4, .ref x5, .ref x6, .ref x7, .ref x8, .int 0, .int 3000])), (o0, .inl (kA 1, 1, .inr (.inl (vp_updL (fun _ => 0) 0 (n_cut (xs 2) (n_combine (xs 1) 1 (n_cut (xs 2) ((((xs 4).toInt64) <<< ((32 : Int32).toInt64 &&& 63)) ||| (((xs 5).toInt64) &&& 4294967295))) (n_cut (xs 3) ((((xs 6).toInt64) <<< ((32 : Int32).toInt64 &&& 63)) ||| (((xs 7).toInt64) &&& 4294967295)))))))))]) (w1 := [(m0, .inr (11, (y0.set 9 (.int 0))))]) hP hD [2] [0, 1] rfl rfl (by decide) (by decide) hk1 hFc hP1 hD1
    generalize H1 = H at hP hS ⊢
    have hP : va_P D vwCl [(h0, .inr (10, [.ref x0, .int 0, .ref x1, .ref x2, .ref x3, .ref x4, .ref x5, .ref x6, .ref x7, .ref x8, .int 0, .int 3000])), (o0, .inl (kA 1, 1, .inr (.inl (vp_updL (fun _ => 0) 0 (n_cut (xs 2) (n_combine (xs 1) 1 (n_cut (xs 2) ((((xs 4).toInt64) <<< ((32 : Int32).toInt64 &&& 63)) ||| (((xs 5).toInt64) &&& 4294967295))) (n_cut (xs 3) ((((xs 6).toInt64) <<< ((32 : Int32).toInt64 &&& 63)) ||| (((xs 7).toInt64) &&& 4294967295))))))))), (m0, .inr (11, (y0.set 9 (.int 0))))] H := hP
    have hD : va_D A [(h0, .inr (10, [.ref x0, .int 0, .ref x1, .ref x2, .ref x3, .ref x4, .ref x5, .ref x6, .ref x7, .ref x8, .int 0, .int 3000])), (o0, .inl (kA 1, 1, .inr (.inl (vp_updL (fun _ => 0) 0 (n_cut (xs 2) (n_combine (xs 1) 1 (n_cut (xs 2) ((((xs 4).toInt64) <<< ((32 : Int32).toInt64 &&& 63)) ||| (((xs 5).toInt64) &&& 4294967295))) (n_cut (xs 3) ((((xs 6).toInt64) <<< ((32 : Int32).toInt64 &&& 63)) ||| (((xs 7).toInt64) &&& 4294967295))))))))), (m0, .inr (11, (y0.set 9 (.int 0))))] := hD
    refine lv_iload hx hb dL_law_1607 (lv_at hl 1 rfl) ?_
    refine lv_icmp_eq (tgt := 1614) hx hb dL_law_1609 (by decide) (fun c_100813 => ?_) (fun c_100813 => ?_)
    · skip
      refine lv_iload hx hb dL_law_1614 (lv_at hl 1 rfl) ?_
      refine lv_if_ne (tgt := 1630) hx hb dL_law_1616 (by decide) (fun c_100814 => ?_) (fun c_100814 => ?_)
      · exact absurd (by decide) c_100814
      · skip
        refine lv_aload_n hx hb dL_law_1619 rfl (lv_at hl 5 rfl) ?_
        refine lv_iconst (v := 0) hx hb dL_law_1620 (by decide) ?_
        refine va_lald hx hb hK hP 1 1 rfl rfl (show vp_in 0 1 by unfold vp_in; decide) dL_law_1621 ?_
        refine W.eq (g2 := F0 m 1622 ls [.long (n_cut (xs 2) (n_combine (xs 1) 1 (n_cut (xs 2) ((((xs 4).toInt64) <<< ((32 : Int32).toInt64 &&& 63)) ||| (((xs 5).toInt64) &&& 4294967295))) (n_cut (xs 3) ((((xs 6).toInt64) <<< ((32 : Int32).toInt64 &&& 63)) ||| (((xs 7).toInt64) &&& 4294967295)))))]) rfl ?_
        refine lv_lload hx hb dL_law_1622 (lv_at hl 0 rfl) ?_
        refine W.lcmp hx hb dL_law_1624 ?_
        refine lv_if_eq (tgt := 1630) hx hb dL_law_1625 (by decide) (fun c_100815 => ?_) (fun c_100815 => ?_)
        · skip
          refine lv_goto (tgt := 1804) hx hb dL_law_1630 (by decide) ?_
          exact lk_tail hC hA2 (lv_sub hl [2, 6] rfl) hS (Nat.le_of_ble_eq_true rfl) (Nat.le_of_ble_eq_true rfl)
        · exact absurd ((lg_cmp_eq _ _).mpr (qx_w1 c_106 c_100694 (fun q => q.1.elim (fun z => absurd (c_100700.symm.trans z) (by decide)) (fun z => absurd (c_100700.symm.trans z) (by decide))) (by rw [c_100700]; decide))) c_100815
    · exact absurd (by decide) c_100813
  · exact absurd c_111 hz.2.2.2.2.2.2.2.2.2.2.1
  · exact absurd c_111 hz.2.2.2.2.2.2.2.2.2.2.1
  · obtain ⟨c_100736, c_100737, c_100738, c_100739, c_100740, c_100741, c_100742, c_100743, c_100744, c_100745, w_100746, w_100747⟩ := hz
    subst w_100746
    subst w_100747
    obtain ⟨hP, hD⟩ := va_join (wr := [(h0, .inr (10, [.ref x0, .int 0, .ref x1, .ref x2, .ref x3, .ref x4, .ref x5, .ref x6, .ref x7, .ref x8, .int 0, .int 3000])), (o0, .inl (kA 1, 1, .inr (.inl (vp_updL (fun _ => 0) 0 (n_cut (xs 2) (n_combine (xs 1) 1 (n_cut (xs 2) ((((xs 4).toInt64) <<< ((32 : Int32).toInt64 &&& 63)) ||| (((xs 5).toInt64) &&& 4294967295))) (n_cut (xs 3) ((((xs 6).toInt64) <<< ((32 : Int32).toInt64 &&& 63)) ||| (((xs 7).toInt64) &&& 4294967295)))))))))]) (w1 := [(m0, .inr (11, y0.set 9 (.int 0)))]) hP hD [0] [1, 2] rfl rfl (by decide) (by decide) hk1 hFc hP1 hD1
    generalize H1 = H at hP hS ⊢
    have hP : va_P D vwCl [(h0, .inr (10, [.ref x0, .int 0, .ref x1, .ref x2, .ref x3, .ref x4, .ref x5, .ref x6, .ref x7, .ref x8, .int 0, .int 3000])), (o0, .inl (kA 1, 1, .inr (.inl (vp_updL (fun _ => 0) 0 (n_cut (xs 2) (n_combine (xs 1) 1 (n_cut (xs 2) ((((xs 4).toInt64) <<< ((32 : Int32).toInt64 &&& 63)) ||| (((xs 5).toInt64) &&& 4294967295))) (n_cut (xs 3) ((((xs 6).toInt64) <<< ((32 : Int32).toInt64 &&& 63)) ||| (((xs 7).toInt64) &&& 4294967295))))))))), (m0, .inr (11, y0.set 9 (.int 0)))] H := hP
    have hD : va_D A [(h0, .inr (10, [.ref x0, .int 0, .ref x1, .ref x2, .ref x3, .ref x4, .ref x5, .ref x6, .ref x7, .ref x8, .int 0, .int 3000])), (o0, .inl (kA 1, 1, .inr (.inl (vp_updL (fun _ => 0) 0 (n_cut (xs 2) (n_combine (xs 1) 1 (n_cut (xs 2) ((((xs 4).toInt64) <<< ((32 : Int32).toInt64 &&& 63)) ||| (((xs 5).toInt64) &&& 4294967295))) (n_cut (xs 3) ((((xs 6).toInt64) <<< ((32 : Int32).toInt64 &&& 63)) ||| (((xs 7).toInt64) &&& 4294967295))))))))), (m0, .inr (11, y0.set 9 (.int 0)))] := hD
    refine lv_lstore (lv' := [(6, .long (n_cut (xs 2) (r_two 240 1 (n_cut (xs 2) ((((xs 4).toInt64) <<< ((32 : Int32).toInt64 &&& 63)) ||| (((xs 5).toInt64) &&& 4294967295))) (n_cut (xs 3) ((((xs 6).toInt64) <<< ((32 : Int32).toInt64 &&& 63)) ||| (((xs 7).toInt64) &&& 4294967295)))))), (5, .int 0), (0, .ref b), (1, .ref h0), (2, .ref m0), (3, .ref o0), (4, .int 0)]) hx hb dL_law_1601 hl (by decide) rfl (fun ls hl => ?_)
    refine lv_aload_n hx hb dL_law_1603 rfl (lv_at hl 4 rfl) ?_
    have hPc := hP.sub (ws' := [(m0, .inr (11, y0.set 9 (.int 0)))]) [2] rfl
    have hDc := hD.sub (ws' := [(m0, .inr (11, y0.set 9 (.int 0)))]) [2] (by decide) rfl
    have hFc := va_free (wc := [(m0, .inr (11, y0.set 9 (.int 0)))]) hD hS hA [2] rfl
    refine va_calli (va_runV (As := []) (rest := []) ⟨hx, hb, hml, hown, hts⟩ (a94_X12_thrown l  D kA V H.size m0 (y0.set 9 (.int 0)) (fun k hk => (by rw [List.length_set]; exact (hq k hk))) (List.getElem?_set_self (hq 9 (by decide)))) (cwV 0 hts (gw_V gw_1879 gw_1880 gw_1881 gw_16 gw_1882) rfl rfl rfl (by decide +kernel) ⟨(Nat.le_of_ble_eq_true rfl), (Nat.le_of_ble_eq_true rfl)⟩) ⟨aP.blind, va_recv hK hP (ci := 11) (q0 := 2) rfl rfl, aP.pre hE hS hPc hK hDc hFc⟩ rfl rfl hl.1 rfl (lv_room (Nat.le_of_ble_eq_true rfl)) dL_law_1604 ⟨(Nat.le_of_ble_eq_true rfl), (Nat.le_of_ble_eq_true rfl)⟩) hS (fun q _ h => hFc q h) hFc (fun r_100816 u t H1 locs ht hvm hw hB hz1 hk1 hS => ?_)
    obtain ⟨hP1, hD1⟩ := hB
    rw [ht] at hP1
    try dsimp only at hw hP1 hD1
    have w_100817 := hw
    subst w_100817
    obtain ⟨hP, hD⟩ := va_join (wr := [(h0, .inr (10, [.ref x0, .int 0, .ref x1, .ref x2, .ref x3, .ref x4, .ref x5, .ref x6, .ref x7, .ref x8, .int 0, .int 3000])), (o0, .inl (kA 1, 1, .inr (.inl (vp_updL (fun _ => 0) 0 (n_cut (xs 2) (n_combine (xs 1) 1 (n_cut (xs 2) ((((xs 4).toInt64) <<< ((32 : Int32).toInt64 &&& 63)) ||| (((xs 5).toInt64) &&& 4294967295))) (n_cut (xs 3) ((((xs 6).toInt64) <<< ((32 : Int32).toInt64 &&& 63)) ||| (((xs 7).toInt64) &&& 4294967295)))))))))]) (w1 := [(m0, .inr (11, (y0.set 9 (.int 0))))]) hP hD [2] [0, 1] rfl rfl (by decide) (by decide) hk1 hFc hP1 hD1
    generalize H1 = H at hP hS ⊢
    have hP : va_P D vwCl [(h0, .inr (10, [.ref x0, .int 0, .ref x1, .ref x2, .ref x3, .ref x4, .ref x5, .ref x6, .ref x7, .ref x8, .int 0, .int 3000])), (o0, .inl (kA 1, 1, .inr (.inl (vp_updL (fun _ => 0) 0 (n_cut (xs 2) (n_combine (xs 1) 1 (n_cut (xs 2) ((((xs 4).toInt64) <<< ((32 : Int32).toInt64 &&& 63)) ||| (((xs 5).toInt64) &&& 4294967295))) (n_cut (xs 3) ((((xs 6).toInt64) <<< ((32 : Int32).toInt64 &&& 63)) ||| (((xs 7).toInt64) &&& 4294967295))))))))), (m0, .inr (11, (y0.set 9 (.int 0))))] H := hP
    have hD : va_D A [(h0, .inr (10, [.ref x0, .int 0, .ref x1, .ref x2, .ref x3, .ref x4, .ref x5, .ref x6, .ref x7, .ref x8, .int 0, .int 3000])), (o0, .inl (kA 1, 1, .inr (.inl (vp_updL (fun _ => 0) 0 (n_cut (xs 2) (n_combine (xs 1) 1 (n_cut (xs 2) ((((xs 4).toInt64) <<< ((32 : Int32).toInt64 &&& 63)) ||| (((xs 5).toInt64) &&& 4294967295))) (n_cut (xs 3) ((((xs 6).toInt64) <<< ((32 : Int32).toInt64 &&& 63)) ||| (((xs 7).toInt64) &&& 4294967295))))))))), (m0, .inr (11, (y0.set 9 (.int 0))))] := hD
    refine lv_iload hx hb dL_law_1607 (lv_at hl 1 rfl) ?_
    refine lv_icmp_eq (tgt := 1614) hx hb dL_law_1609 (by decide) (fun c_100818 => ?_) (fun c_100818 => ?_)
    · skip
      refine lv_iload hx hb dL_law_1614 (lv_at hl 1 rfl) ?_
      refine lv_if_ne (tgt := 1630) hx hb dL_law_1616 (by decide) (fun c_100819 => ?_) (fun c_100819 => ?_)
      · exact absurd (by decide) c_100819
      · skip
        refine lv_aload_n hx hb dL_law_1619 rfl (lv_at hl 5 rfl) ?_
        refine lv_iconst (v := 0) hx hb dL_law_1620 (by decide) ?_
        refine va_lald hx hb hK hP 1 1 rfl rfl (show vp_in 0 1 by unfold vp_in; decide) dL_law_1621 ?_
        refine W.eq (g2 := F0 m 1622 ls [.long (n_cut (xs 2) (n_combine (xs 1) 1 (n_cut (xs 2) ((((xs 4).toInt64) <<< ((32 : Int32).toInt64 &&& 63)) ||| (((xs 5).toInt64) &&& 4294967295))) (n_cut (xs 3) ((((xs 6).toInt64) <<< ((32 : Int32).toInt64 &&& 63)) ||| (((xs 7).toInt64) &&& 4294967295)))))]) rfl ?_
        refine lv_lload hx hb dL_law_1622 (lv_at hl 0 rfl) ?_
        refine W.lcmp hx hb dL_law_1624 ?_
        refine lv_if_eq (tgt := 1630) hx hb dL_law_1625 (by decide) (fun c_100820 => ?_) (fun c_100820 => ?_)
        · skip
          refine lv_goto (tgt := 1804) hx hb dL_law_1630 (by decide) ?_
          exact lk_tail hC hA2 (lv_sub hl [2, 6] rfl) hS (Nat.le_of_ble_eq_true rfl) (Nat.le_of_ble_eq_true rfl)
        · exact absurd ((lg_cmp_eq _ _).mpr (qx_w1 c_106 c_100737 (fun q => q.1.elim (fun z => absurd (c_100742.symm.trans z) (by decide)) (fun z => absurd (c_100742.symm.trans z) (by decide))) (by rw [c_100742]; decide))) c_100820
    · exact absurd (by decide) c_100818
  · exact absurd c_111 hz.2.2.2.2.2.2.2.2.2.1
  · exact absurd c_111 hz.2.2.2.2.2.2.2.2.2.1
set_option maxHeartbeats 4000000 in
set_option maxRecDepth 100000 in
theorem lk_22_13 {p : Program} {l : Launch} {e : Env} {s : State} {m : MethodId} {below : List Frame} {meth : Method} {c : Code} {D : va_G} {kA : Nat → ClassId} {V : Nat → Nat} {b : Nat} {xs : Nat → Int32} {A : Nat → Prop} (hC : lw_C p l s m meth c b 8 xs D kA V A) (hA2 : ∀ q, A q → s.heap.size ≤ q) (h0 : Nat) (m0 : Nat) (o0 : Nat) (x0 : Nat) (x1 : Nat) (x2 : Nat) (x3 : Nat) (x4 : Nat) (x5 : Nat) (x6 : Nat) (x7 : Nat) (x8 : Nat) (y0 : List Value) (hq : ∀ k, k < 121 → k < y0.length) (hq9 : y0[9]? = some (.int 0)) (c_114 : ¬ (xs 2) < 0) (c_115 : ¬ 4 < (xs 2)) (c_116 : ¬ (xs 3) < 0) (c_117 : ¬ 4 < (xs 3)) (c_118 : ¬ (xs 1) < 0) (c_119 : (xs 1) ≤ 10) (c_120 : (n_cut (xs 3) ((((xs 6).toInt64) <<< ((32 : Int32).toInt64 &&& 63)) ||| (((xs 7).toInt64) &&& 4294967295))) = 0) (c_121 : ¬ (xs 1) = 3) (c_122 : ¬ (xs 1) = 4) (c_123 : ¬ (xs 2) = 4) (c_124 : 8 ≤ (xs 1)) {H : Heap} {locs : List Loc} {ls : Array Slot} (hl : lv_has ls 8 [(0, .ref b), (1, .ref h0), (2, .ref m0), (3, .ref o0), (4, .int 0)]) (hS : va_S A s.heap H locs) (hP : va_P D vwCl [(m0, .inr (11, y0)), (h0, .inr (10, [.ref x0, .int 0, .ref x1, .ref x2, .ref x3, .ref x4, .ref x5, .ref x6, .ref x7, .ref x8, .int 0, .int 3000])), (o0, .inl (kA 1, 1, .inr (.inl (vp_updL (fun _ => 0) 0 (n_cut (xs 2) (n_combine (xs 1) 0 (n_cut (xs 2) ((((xs 4).toInt64) <<< ((32 : Int32).toInt64 &&& 63)) ||| (((xs 5).toInt64) &&& 4294967295))) (n_cut (xs 3) ((((xs 6).toInt64) <<< ((32 : Int32).toInt64 &&& 63)) ||| (((xs 7).toInt64) &&& 4294967295)))))))))] H) (hD : va_D A [(m0, .inr (11, y0)), (h0, .inr (10, [.ref x0, .int 0, .ref x1, .ref x2, .ref x3, .ref x4, .ref x5, .ref x6, .ref x7, .ref x8, .int 0, .int 3000])), (o0, .inl (kA 1, 1, .inr (.inl (vp_updL (fun _ => 0) 0 (n_cut (xs 2) (n_combine (xs 1) 0 (n_cut (xs 2) ((((xs 4).toInt64) <<< ((32 : Int32).toInt64 &&& 63)) ||| (((xs 5).toInt64) &&& 4294967295))) (n_cut (xs 3) ((((xs 6).toInt64) <<< ((32 : Int32).toInt64 &&& 63)) ||| (((xs 7).toInt64) &&& 4294967295)))))))))]) : W p l e room_1 s m #[Value.ref b] below meth c H locs 515 172799 (lw_Z below #[Value.ref b] s) (F0 m 1531 ls [.int 0]) := by
  have ⟨hst, hx, hb, hr, hml, hown, hts, hG, hX, hbl, hbA, hlocks, hE, hK, hA⟩ := hC
  refine lv_istore (lv' := [(5, .int 0), (0, .ref b), (1, .ref h0), (2, .ref m0), (3, .ref o0), (4, .int 0)]) hx hb dL_law_1531 hl (by decide) rfl (fun ls hl => ?_)
  refine lv_aload_n hx hb dL_law_1533 rfl (lv_at hl 3 rfl) ?_
  refine lv_aload_n hx hb dL_law_1534 rfl (lv_at hl 1 rfl) ?_
  refine lv_iload hx hb dL_law_1535 (lv_at hl 5 rfl) ?_
  refine lv_iconst (v := 1) hx hb dL_law_1537 (by decide) ?_
  refine lv_iadd hx hb dL_law_1538 ?_
  refine W.eq (g2 := F0 m 1539 ls [.int 1, .ref b, .ref m0]) rfl ?_
  refine va_sld hx hb hX hbl hbA hS (show vp_in 1 8 by unfold vp_in; decide) dL_law_1539 ?_
  refine W.eq (g2 := F0 m 1540 ls [.int (xs 1), .ref m0]) rfl ?_
  refine lv_aload_n hx hb dL_law_1540 rfl (lv_at hl 1 rfl) ?_
  refine lv_iload hx hb dL_law_1541 (lv_at hl 5 rfl) ?_
  refine lv_iconst (v := 2) hx hb dL_law_1543 (by decide) ?_
  refine lv_iadd hx hb dL_law_1544 ?_
  refine W.eq (g2 := F0 m 1545 ls [.int 2, .ref b, .int (xs 1), .ref m0]) rfl ?_
  refine va_sld hx hb hX hbl hbA hS (show vp_in 2 8 by unfold vp_in; decide) dL_law_1545 ?_
  refine W.eq (g2 := F0 m 1546 ls [.int (xs 2), .int (xs 1), .ref m0]) rfl ?_
  refine lv_aload_n hx hb dL_law_1546 rfl (lv_at hl 1 rfl) ?_
  refine lv_iload hx hb dL_law_1547 (lv_at hl 5 rfl) ?_
  refine lv_iconst (v := 3) hx hb dL_law_1549 (by decide) ?_
  refine lv_iadd hx hb dL_law_1550 ?_
  refine W.eq (g2 := F0 m 1551 ls [.int 3, .ref b, .int (xs 2), .int (xs 1), .ref m0]) rfl ?_
  refine va_sld hx hb hX hbl hbA hS (show vp_in 3 8 by unfold vp_in; decide) dL_law_1551 ?_
  refine W.eq (g2 := F0 m 1552 ls [.int (xs 3), .int (xs 2), .int (xs 1), .ref m0]) rfl ?_
  refine lv_aload_n hx hb dL_law_1552 rfl (lv_at hl 1 rfl) ?_
  refine lv_iload hx hb dL_law_1553 (lv_at hl 5 rfl) ?_
  refine lv_iconst (v := 4) hx hb dL_law_1555 (by decide) ?_
  refine lv_iadd hx hb dL_law_1556 ?_
  refine W.eq (g2 := F0 m 1557 ls [.int 4, .ref b, .int (xs 3), .int (xs 2), .int (xs 1), .ref m0]) rfl ?_
  refine va_sld hx hb hX hbl hbA hS (show vp_in 4 8 by unfold vp_in; decide) dL_law_1557 ?_
  refine W.eq (g2 := F0 m 1558 ls [.int (xs 4), .int (xs 3), .int (xs 2), .int (xs 1), .ref m0]) rfl ?_
  refine lv_i2l (v := (xs 4).toInt64) hx hb dL_law_1558 rfl ?_
  refine lv_bipush (v := 32) hx hb dL_law_1559 (by decide) ?_
  refine lv_lshl (v := ((xs 4).toInt64) <<< ((32 : Int32).toInt64 &&& 63)) hx hb dL_law_1561 rfl ?_
  refine lv_aload_n hx hb dL_law_1562 rfl (lv_at hl 1 rfl) ?_
  refine lv_iload hx hb dL_law_1563 (lv_at hl 5 rfl) ?_
  refine lv_iconst (v := 5) hx hb dL_law_1565 (by decide) ?_
  refine lv_iadd hx hb dL_law_1566 ?_
  refine W.eq (g2 := F0 m 1567 ls [.int 5, .ref b, .long (((xs 4).toInt64) <<< ((32 : Int32).toInt64 &&& 63)), .int (xs 3), .int (xs 2), .int (xs 1), .ref m0]) rfl ?_
  refine va_sld hx hb hX hbl hbA hS (show vp_in 5 8 by unfold vp_in; decide) dL_law_1567 ?_
  refine W.eq (g2 := F0 m 1568 ls [.int (xs 5), .long (((xs 4).toInt64) <<< ((32 : Int32).toInt64 &&& 63)), .int (xs 3), .int (xs 2), .int (xs 1), .ref m0]) rfl ?_
  refine lv_i2l (v := (xs 5).toInt64) hx hb dL_law_1568 rfl ?_
  refine lv_ldc2 (v := 4294967295) hx hb hown (hG _ gw_2764) dL_law_1569 ?_
  refine lv_land hx hb dL_law_1572 ?_
  refine lv_lor hx hb dL_law_1573 ?_
  refine lv_aload_n hx hb dL_law_1574 rfl (lv_at hl 1 rfl) ?_
  refine lv_iload hx hb dL_law_1575 (lv_at hl 5 rfl) ?_
  refine lv_bipush (v := 6) hx hb dL_law_1577 (by decide) ?_
  refine lv_iadd hx hb dL_law_1579 ?_
  refine W.eq (g2 := F0 m 1580 ls [.int 6, .ref b, .long ((((xs 4).toInt64) <<< ((32 : Int32).toInt64 &&& 63)) ||| (((xs 5).toInt64) &&& 4294967295)), .int (xs 3), .int (xs 2), .int (xs 1), .ref m0]) rfl ?_
  refine va_sld hx hb hX hbl hbA hS (show vp_in 6 8 by unfold vp_in; decide) dL_law_1580 ?_
  refine W.eq (g2 := F0 m 1581 ls [.int (xs 6), .long ((((xs 4).toInt64) <<< ((32 : Int32).toInt64 &&& 63)) ||| (((xs 5).toInt64) &&& 4294967295)), .int (xs 3), .int (xs 2), .int (xs 1), .ref m0]) rfl ?_
  refine lv_i2l (v := (xs 6).toInt64) hx hb dL_law_1581 rfl ?_
  refine lv_bipush (v := 32) hx hb dL_law_1582 (by decide) ?_
  refine lv_lshl (v := ((xs 6).toInt64) <<< ((32 : Int32).toInt64 &&& 63)) hx hb dL_law_1584 rfl ?_
  refine lv_aload_n hx hb dL_law_1585 rfl (lv_at hl 1 rfl) ?_
  refine lv_iload hx hb dL_law_1586 (lv_at hl 5 rfl) ?_
  refine lv_bipush (v := 7) hx hb dL_law_1588 (by decide) ?_
  refine lv_iadd hx hb dL_law_1590 ?_
  refine W.eq (g2 := F0 m 1591 ls [.int 7, .ref b, .long (((xs 6).toInt64) <<< ((32 : Int32).toInt64 &&& 63)), .long ((((xs 4).toInt64) <<< ((32 : Int32).toInt64 &&& 63)) ||| (((xs 5).toInt64) &&& 4294967295)), .int (xs 3), .int (xs 2), .int (xs 1), .ref m0]) rfl ?_
  refine va_sld hx hb hX hbl hbA hS (show vp_in 7 8 by unfold vp_in; decide) dL_law_1591 ?_
  refine W.eq (g2 := F0 m 1592 ls [.int (xs 7), .long (((xs 6).toInt64) <<< ((32 : Int32).toInt64 &&& 63)), .long ((((xs 4).toInt64) <<< ((32 : Int32).toInt64 &&& 63)) ||| (((xs 5).toInt64) &&& 4294967295)), .int (xs 3), .int (xs 2), .int (xs 1), .ref m0]) rfl ?_
  refine lv_i2l (v := (xs 7).toInt64) hx hb dL_law_1592 rfl ?_
  refine lv_ldc2 (v := 4294967295) hx hb hown (hG _ gw_2764) dL_law_1593 ?_
  refine lv_land hx hb dL_law_1596 ?_
  refine lv_lor hx hb dL_law_1597 ?_
  have hPc := hP.sub (ws' := [(m0, .inr (11, y0))]) [0] rfl
  have hDc := hD.sub (ws' := [(m0, .inr (11, y0))]) [0] (by decide) rfl
  have hFc := va_free (wc := [(m0, .inr (11, y0))]) hD hS hA [0] rfl
  refine va_calll (va_runV (As := [.int (xs 1), .int (xs 2), .int (xs 3), .long ((((xs 4).toInt64) <<< ((32 : Int32).toInt64 &&& 63)) ||| (((xs 5).toInt64) &&& 4294967295)), .long ((((xs 6).toInt64) <<< ((32 : Int32).toInt64 &&& 63)) ||| (((xs 7).toInt64) &&& 4294967295))]) (rest := []) ⟨hx, hb, hml, hown, hts⟩ (a153_X12_work l  D kA V H.size m0 (xs 1) (xs 2) (xs 3) ((((xs 4).toInt64) <<< ((32 : Int32).toInt64 &&& 63)) ||| (((xs 5).toInt64) &&& 4294967295)) ((((xs 6).toInt64) <<< ((32 : Int32).toInt64 &&& 63)) ||| (((xs 7).toInt64) &&& 4294967295)) y0 (fun k hk => (hq k hk)) hq9) (cwV 5 hts (gw_V gw_2756 gw_2757 gw_2758 gw_16 gw_2759) rfl rfl rfl (by decide +kernel) ⟨(Nat.le_of_ble_eq_true rfl), (Nat.le_of_ble_eq_true rfl)⟩) ⟨aP.blind, va_recv hK hP (ci := 11) (q0 := 0) rfl rfl, aP.pre hE hS hPc hK hDc hFc⟩ rfl rfl hl.1 rfl (lv_room (Nat.le_of_ble_eq_true rfl)) dL_law_1598 ⟨(Nat.le_of_ble_eq_true rfl), (Nat.le_of_ble_eq_true rfl)⟩) hS (fun q _ h => hFc q h) hFc (fun r_100001 u t H1 locs ht hvm hw hB hz1 hk1 hS => ?_)
  obtain ⟨u_100002, rfl⟩ : ∃ z, z = u := ⟨u, rfl⟩
  obtain ⟨hP1, hD1⟩ := hB
  rw [ht] at hP1
  try dsimp only at hw hP1 hD1
  rcases hw with hz | hz | hz | hz | hz | hz | hz | hz | hz | hz | hz | hz | hz | hz | hz | hz | hz | hz | hz | hz | hz | hz | hz | hz | hz | hz | hz | hz | hz | hz | hz | hz | hz | hz | hz | hz | hz | hz | hz | hz | hz | hz | hz | hz | hz | hz | hz | hz | hz | hz | hz | hz
  · exact absurd hz.1 c_118
  · exact absurd hz.1 c_118
  · exact absurd hz.1 c_118
  · exact absurd hz.1 c_118
  · exact absurd hz.1 c_118
  · exact absurd hz.2.1 (Int32.not_lt.mpr c_119)
  · exact absurd hz.2.1 (Int32.not_lt.mpr c_119)
  · exact absurd hz.2.1 (Int32.not_lt.mpr c_119)
  · exact absurd hz.2.1 (Int32.not_lt.mpr c_119)
  · exact absurd hz.2.1 (Int32.not_lt.mpr c_119)
  · exact absurd hz.2.2.1 c_114
  · exact absurd hz.2.2.2.1 c_115
  · exact absurd hz.2.2.2.2.1 c_116
  · exact absurd hz.2.2.2.2.2.1 c_117
  · exact absurd hz.2.2.2.2.2.2.2.2.2.2.2.2.2.2.2.2.2.2.1 c_123
  · obtain ⟨c_100113, c_100114, c_100115, c_100116, c_100117, c_100118, c_100119, c_100120, c_100121, c_100122, c_100123, c_100124, c_100125, c_100126, c_100127, c_100128, c_100129, c_100130, c_100131, c_100132, w_100133, w_100134⟩ := hz
    subst w_100133
    subst w_100134
    obtain ⟨hP, hD⟩ := va_join (wr := [(h0, .inr (10, [.ref x0, .int 0, .ref x1, .ref x2, .ref x3, .ref x4, .ref x5, .ref x6, .ref x7, .ref x8, .int 0, .int 3000])), (o0, .inl (kA 1, 1, .inr (.inl (vp_updL (fun _ => 0) 0 (n_cut (xs 2) (n_combine (xs 1) 0 (n_cut (xs 2) ((((xs 4).toInt64) <<< ((32 : Int32).toInt64 &&& 63)) ||| (((xs 5).toInt64) &&& 4294967295))) (n_cut (xs 3) ((((xs 6).toInt64) <<< ((32 : Int32).toInt64 &&& 63)) ||| (((xs 7).toInt64) &&& 4294967295)))))))))]) (w1 := [(m0, .inr (11, y0.set 9 (.int 0)))]) hP hD [0] [1, 2] rfl rfl (by decide) (by decide) hk1 hFc hP1 hD1
    generalize H1 = H at hP hS ⊢
    have hP : va_P D vwCl [(h0, .inr (10, [.ref x0, .int 0, .ref x1, .ref x2, .ref x3, .ref x4, .ref x5, .ref x6, .ref x7, .ref x8, .int 0, .int 3000])), (o0, .inl (kA 1, 1, .inr (.inl (vp_updL (fun _ => 0) 0 (n_cut (xs 2) (n_combine (xs 1) 0 (n_cut (xs 2) ((((xs 4).toInt64) <<< ((32 : Int32).toInt64 &&& 63)) ||| (((xs 5).toInt64) &&& 4294967295))) (n_cut (xs 3) ((((xs 6).toInt64) <<< ((32 : Int32).toInt64 &&& 63)) ||| (((xs 7).toInt64) &&& 4294967295))))))))), (m0, .inr (11, y0.set 9 (.int 0)))] H := hP
    have hD : va_D A [(h0, .inr (10, [.ref x0, .int 0, .ref x1, .ref x2, .ref x3, .ref x4, .ref x5, .ref x6, .ref x7, .ref x8, .int 0, .int 3000])), (o0, .inl (kA 1, 1, .inr (.inl (vp_updL (fun _ => 0) 0 (n_cut (xs 2) (n_combine (xs 1) 0 (n_cut (xs 2) ((((xs 4).toInt64) <<< ((32 : Int32).toInt64 &&& 63)) ||| (((xs 5).toInt64) &&& 4294967295))) (n_cut (xs 3) ((((xs 6).toInt64) <<< ((32 : Int32).toInt64 &&& 63)) ||| (((xs 7).toInt64) &&& 4294967295))))))))), (m0, .inr (11, y0.set 9 (.int 0)))] := hD
    refine lv_lstore (lv' := [(6, .long (n_cut (xs 2) (r_two 203 0 (n_cut (xs 2) ((((xs 4).toInt64) <<< ((32 : Int32).toInt64 &&& 63)) ||| (((xs 5).toInt64) &&& 4294967295))) (n_cut (xs 3) ((((xs 6).toInt64) <<< ((32 : Int32).toInt64 &&& 63)) ||| (((xs 7).toInt64) &&& 4294967295)))))), (5, .int 0), (0, .ref b), (1, .ref h0), (2, .ref m0), (3, .ref o0), (4, .int 0)]) hx hb dL_law_1601 hl (by decide) rfl (fun ls hl => ?_)
    refine lv_aload_n hx hb dL_law_1603 rfl (lv_at hl 4 rfl) ?_
    have hPc := hP.sub (ws' := [(m0, .inr (11, y0.set 9 (.int 0)))]) [2] rfl
    have hDc := hD.sub (ws' := [(m0, .inr (11, y0.set 9 (.int 0)))]) [2] (by decide) rfl
    have hFc := va_free (wc := [(m0, .inr (11, y0.set 9 (.int 0)))]) hD hS hA [2] rfl
    refine va_calli (va_runV (As := []) (rest := []) ⟨hx, hb, hml, hown, hts⟩ (a94_X12_thrown l  D kA V H.size m0 (y0.set 9 (.int 0)) (fun k hk => (by rw [List.length_set]; exact (hq k hk))) (List.getElem?_set_self (hq 9 (by decide)))) (cwV 0 hts (gw_V gw_1879 gw_1880 gw_1881 gw_16 gw_1882) rfl rfl rfl (by decide +kernel) ⟨(Nat.le_of_ble_eq_true rfl), (Nat.le_of_ble_eq_true rfl)⟩) ⟨aP.blind, va_recv hK hP (ci := 11) (q0 := 2) rfl rfl, aP.pre hE hS hPc hK hDc hFc⟩ rfl rfl hl.1 rfl (lv_room (Nat.le_of_ble_eq_true rfl)) dL_law_1604 ⟨(Nat.le_of_ble_eq_true rfl), (Nat.le_of_ble_eq_true rfl)⟩) hS (fun q _ h => hFc q h) hFc (fun r_100776 u t H1 locs ht hvm hw hB hz1 hk1 hS => ?_)
    obtain ⟨hP1, hD1⟩ := hB
    rw [ht] at hP1
    try dsimp only at hw hP1 hD1
    have w_100777 := hw
    subst w_100777
    obtain ⟨hP, hD⟩ := va_join (wr := [(h0, .inr (10, [.ref x0, .int 0, .ref x1, .ref x2, .ref x3, .ref x4, .ref x5, .ref x6, .ref x7, .ref x8, .int 0, .int 3000])), (o0, .inl (kA 1, 1, .inr (.inl (vp_updL (fun _ => 0) 0 (n_cut (xs 2) (n_combine (xs 1) 0 (n_cut (xs 2) ((((xs 4).toInt64) <<< ((32 : Int32).toInt64 &&& 63)) ||| (((xs 5).toInt64) &&& 4294967295))) (n_cut (xs 3) ((((xs 6).toInt64) <<< ((32 : Int32).toInt64 &&& 63)) ||| (((xs 7).toInt64) &&& 4294967295)))))))))]) (w1 := [(m0, .inr (11, (y0.set 9 (.int 0))))]) hP hD [2] [0, 1] rfl rfl (by decide) (by decide) hk1 hFc hP1 hD1
    generalize H1 = H at hP hS ⊢
    have hP : va_P D vwCl [(h0, .inr (10, [.ref x0, .int 0, .ref x1, .ref x2, .ref x3, .ref x4, .ref x5, .ref x6, .ref x7, .ref x8, .int 0, .int 3000])), (o0, .inl (kA 1, 1, .inr (.inl (vp_updL (fun _ => 0) 0 (n_cut (xs 2) (n_combine (xs 1) 0 (n_cut (xs 2) ((((xs 4).toInt64) <<< ((32 : Int32).toInt64 &&& 63)) ||| (((xs 5).toInt64) &&& 4294967295))) (n_cut (xs 3) ((((xs 6).toInt64) <<< ((32 : Int32).toInt64 &&& 63)) ||| (((xs 7).toInt64) &&& 4294967295))))))))), (m0, .inr (11, (y0.set 9 (.int 0))))] H := hP
    have hD : va_D A [(h0, .inr (10, [.ref x0, .int 0, .ref x1, .ref x2, .ref x3, .ref x4, .ref x5, .ref x6, .ref x7, .ref x8, .int 0, .int 3000])), (o0, .inl (kA 1, 1, .inr (.inl (vp_updL (fun _ => 0) 0 (n_cut (xs 2) (n_combine (xs 1) 0 (n_cut (xs 2) ((((xs 4).toInt64) <<< ((32 : Int32).toInt64 &&& 63)) ||| (((xs 5).toInt64) &&& 4294967295))) (n_cut (xs 3) ((((xs 6).toInt64) <<< ((32 : Int32).toInt64 &&& 63)) ||| (((xs 7).toInt64) &&& 4294967295))))))))), (m0, .inr (11, (y0.set 9 (.int 0))))] := hD
    refine lv_iload hx hb dL_law_1607 (lv_at hl 1 rfl) ?_
    refine lv_icmp_eq (tgt := 1614) hx hb dL_law_1609 (by decide) (fun c_100778 => ?_) (fun c_100778 => ?_)
    · skip
      refine lv_iload hx hb dL_law_1614 (lv_at hl 1 rfl) ?_
      refine lv_if_ne (tgt := 1630) hx hb dL_law_1616 (by decide) (fun c_100779 => ?_) (fun c_100779 => ?_)
      · exact absurd (by decide) c_100779
      · skip
        refine lv_aload_n hx hb dL_law_1619 rfl (lv_at hl 5 rfl) ?_
        refine lv_iconst (v := 0) hx hb dL_law_1620 (by decide) ?_
        refine va_lald hx hb hK hP 1 1 rfl rfl (show vp_in 0 1 by unfold vp_in; decide) dL_law_1621 ?_
        refine W.eq (g2 := F0 m 1622 ls [.long (n_cut (xs 2) (n_combine (xs 1) 0 (n_cut (xs 2) ((((xs 4).toInt64) <<< ((32 : Int32).toInt64 &&& 63)) ||| (((xs 5).toInt64) &&& 4294967295))) (n_cut (xs 3) ((((xs 6).toInt64) <<< ((32 : Int32).toInt64 &&& 63)) ||| (((xs 7).toInt64) &&& 4294967295)))))]) rfl ?_
        refine lv_lload hx hb dL_law_1622 (lv_at hl 0 rfl) ?_
        refine W.lcmp hx hb dL_law_1624 ?_
        refine lv_if_eq (tgt := 1630) hx hb dL_law_1625 (by decide) (fun c_100780 => ?_) (fun c_100780 => ?_)
        · skip
          refine lv_goto (tgt := 1804) hx hb dL_law_1630 (by decide) ?_
          exact lk_tail hC hA2 (lv_sub hl [2, 6] rfl) hS (Nat.le_of_ble_eq_true rfl) (Nat.le_of_ble_eq_true rfl)
        · exact absurd ((lg_cmp_eq _ _).mpr (qx_w0 c_118 c_100114 c_114 c_115 c_123 c_116 c_117 (fun q => absurd q (Int32.not_lt.mpr c_124)) (fun q => q.1.elim c_121 c_122) (by unfold q_sign; rw [if_neg c_100119, if_neg c_100120, if_neg c_100121, if_neg c_121, if_neg c_122, if_neg c_100124, if_neg c_100125, if_neg c_100126, if_neg c_100127, if_neg c_100128]))) c_100780
    · exact absurd (by decide) c_100778
  · exact absurd c_124 hz.2.2.2.2.2.2.2.2.2.2.2.2.2.2.2.2.2.2.2.1
  · exact absurd c_124 hz.2.2.2.2.2.2.2.2.2.2.2.2.2.2.2.2.2.2.2.1
  · exact absurd hz.2.2.2.2.2.2.2.2.2.2.2.2.2.2.2.2.2.2.1 c_123
  · obtain ⟨c_100202, c_100203, c_100204, c_100205, c_100206, c_100207, c_100208, c_100209, c_100210, c_100211, c_100212, c_100213, c_100214, c_100215, c_100216, c_100217, c_100218, c_100219, c_100220, c_100221, w_100222, w_100223⟩ := hz
    subst w_100222
    subst w_100223
    obtain ⟨hP, hD⟩ := va_join (wr := [(h0, .inr (10, [.ref x0, .int 0, .ref x1, .ref x2, .ref x3, .ref x4, .ref x5, .ref x6, .ref x7, .ref x8, .int 0, .int 3000])), (o0, .inl (kA 1, 1, .inr (.inl (vp_updL (fun _ => 0) 0 (n_cut (xs 2) (n_combine (xs 1) 0 (n_cut (xs 2) ((((xs 4).toInt64) <<< ((32 : Int32).toInt64 &&& 63)) ||| (((xs 5).toInt64) &&& 4294967295))) (n_cut (xs 3) ((((xs 6).toInt64) <<< ((32 : Int32).toInt64 &&& 63)) ||| (((xs 7).toInt64) &&& 4294967295)))))))))]) (w1 := [(m0, .inr (11, y0.set 9 (.int 0)))]) hP hD [0] [1, 2] rfl rfl (by decide) (by decide) hk1 hFc hP1 hD1
    generalize H1 = H at hP hS ⊢
    have hP : va_P D vwCl [(h0, .inr (10, [.ref x0, .int 0, .ref x1, .ref x2, .ref x3, .ref x4, .ref x5, .ref x6, .ref x7, .ref x8, .int 0, .int 3000])), (o0, .inl (kA 1, 1, .inr (.inl (vp_updL (fun _ => 0) 0 (n_cut (xs 2) (n_combine (xs 1) 0 (n_cut (xs 2) ((((xs 4).toInt64) <<< ((32 : Int32).toInt64 &&& 63)) ||| (((xs 5).toInt64) &&& 4294967295))) (n_cut (xs 3) ((((xs 6).toInt64) <<< ((32 : Int32).toInt64 &&& 63)) ||| (((xs 7).toInt64) &&& 4294967295))))))))), (m0, .inr (11, y0.set 9 (.int 0)))] H := hP
    have hD : va_D A [(h0, .inr (10, [.ref x0, .int 0, .ref x1, .ref x2, .ref x3, .ref x4, .ref x5, .ref x6, .ref x7, .ref x8, .int 0, .int 3000])), (o0, .inl (kA 1, 1, .inr (.inl (vp_updL (fun _ => 0) 0 (n_cut (xs 2) (n_combine (xs 1) 0 (n_cut (xs 2) ((((xs 4).toInt64) <<< ((32 : Int32).toInt64 &&& 63)) ||| (((xs 5).toInt64) &&& 4294967295))) (n_cut (xs 3) ((((xs 6).toInt64) <<< ((32 : Int32).toInt64 &&& 63)) ||| (((xs 7).toInt64) &&& 4294967295))))))))), (m0, .inr (11, y0.set 9 (.int 0)))] := hD
    refine lv_lstore (lv' := [(6, .long (n_cut (xs 2) (r_two 222 0 (n_cut (xs 2) ((((xs 4).toInt64) <<< ((32 : Int32).toInt64 &&& 63)) ||| (((xs 5).toInt64) &&& 4294967295))) (n_cut (xs 3) ((((xs 6).toInt64) <<< ((32 : Int32).toInt64 &&& 63)) ||| (((xs 7).toInt64) &&& 4294967295)))))), (5, .int 0), (0, .ref b), (1, .ref h0), (2, .ref m0), (3, .ref o0), (4, .int 0)]) hx hb dL_law_1601 hl (by decide) rfl (fun ls hl => ?_)
    refine lv_aload_n hx hb dL_law_1603 rfl (lv_at hl 4 rfl) ?_
    have hPc := hP.sub (ws' := [(m0, .inr (11, y0.set 9 (.int 0)))]) [2] rfl
    have hDc := hD.sub (ws' := [(m0, .inr (11, y0.set 9 (.int 0)))]) [2] (by decide) rfl
    have hFc := va_free (wc := [(m0, .inr (11, y0.set 9 (.int 0)))]) hD hS hA [2] rfl
    refine va_calli (va_runV (As := []) (rest := []) ⟨hx, hb, hml, hown, hts⟩ (a94_X12_thrown l  D kA V H.size m0 (y0.set 9 (.int 0)) (fun k hk => (by rw [List.length_set]; exact (hq k hk))) (List.getElem?_set_self (hq 9 (by decide)))) (cwV 0 hts (gw_V gw_1879 gw_1880 gw_1881 gw_16 gw_1882) rfl rfl rfl (by decide +kernel) ⟨(Nat.le_of_ble_eq_true rfl), (Nat.le_of_ble_eq_true rfl)⟩) ⟨aP.blind, va_recv hK hP (ci := 11) (q0 := 2) rfl rfl, aP.pre hE hS hPc hK hDc hFc⟩ rfl rfl hl.1 rfl (lv_room (Nat.le_of_ble_eq_true rfl)) dL_law_1604 ⟨(Nat.le_of_ble_eq_true rfl), (Nat.le_of_ble_eq_true rfl)⟩) hS (fun q _ h => hFc q h) hFc (fun r_100781 u t H1 locs ht hvm hw hB hz1 hk1 hS => ?_)
    obtain ⟨hP1, hD1⟩ := hB
    rw [ht] at hP1
    try dsimp only at hw hP1 hD1
    have w_100782 := hw
    subst w_100782
    obtain ⟨hP, hD⟩ := va_join (wr := [(h0, .inr (10, [.ref x0, .int 0, .ref x1, .ref x2, .ref x3, .ref x4, .ref x5, .ref x6, .ref x7, .ref x8, .int 0, .int 3000])), (o0, .inl (kA 1, 1, .inr (.inl (vp_updL (fun _ => 0) 0 (n_cut (xs 2) (n_combine (xs 1) 0 (n_cut (xs 2) ((((xs 4).toInt64) <<< ((32 : Int32).toInt64 &&& 63)) ||| (((xs 5).toInt64) &&& 4294967295))) (n_cut (xs 3) ((((xs 6).toInt64) <<< ((32 : Int32).toInt64 &&& 63)) ||| (((xs 7).toInt64) &&& 4294967295)))))))))]) (w1 := [(m0, .inr (11, (y0.set 9 (.int 0))))]) hP hD [2] [0, 1] rfl rfl (by decide) (by decide) hk1 hFc hP1 hD1
    generalize H1 = H at hP hS ⊢
    have hP : va_P D vwCl [(h0, .inr (10, [.ref x0, .int 0, .ref x1, .ref x2, .ref x3, .ref x4, .ref x5, .ref x6, .ref x7, .ref x8, .int 0, .int 3000])), (o0, .inl (kA 1, 1, .inr (.inl (vp_updL (fun _ => 0) 0 (n_cut (xs 2) (n_combine (xs 1) 0 (n_cut (xs 2) ((((xs 4).toInt64) <<< ((32 : Int32).toInt64 &&& 63)) ||| (((xs 5).toInt64) &&& 4294967295))) (n_cut (xs 3) ((((xs 6).toInt64) <<< ((32 : Int32).toInt64 &&& 63)) ||| (((xs 7).toInt64) &&& 4294967295))))))))), (m0, .inr (11, (y0.set 9 (.int 0))))] H := hP
    have hD : va_D A [(h0, .inr (10, [.ref x0, .int 0, .ref x1, .ref x2, .ref x3, .ref x4, .ref x5, .ref x6, .ref x7, .ref x8, .int 0, .int 3000])), (o0, .inl (kA 1, 1, .inr (.inl (vp_updL (fun _ => 0) 0 (n_cut (xs 2) (n_combine (xs 1) 0 (n_cut (xs 2) ((((xs 4).toInt64) <<< ((32 : Int32).toInt64 &&& 63)) ||| (((xs 5).toInt64) &&& 4294967295))) (n_cut (xs 3) ((((xs 6).toInt64) <<< ((32 : Int32).toInt64 &&& 63)) ||| (((xs 7).toInt64) &&& 4294967295))))))))), (m0, .inr (11, (y0.set 9 (.int 0))))] := hD
    refine lv_iload hx hb dL_law_1607 (lv_at hl 1 rfl) ?_
    refine lv_icmp_eq (tgt := 1614) hx hb dL_law_1609 (by decide) (fun c_100783 => ?_) (fun c_100783 => ?_)
    · skip
      refine lv_iload hx hb dL_law_1614 (lv_at hl 1 rfl) ?_
      refine lv_if_ne (tgt := 1630) hx hb dL_law_1616 (by decide) (fun c_100784 => ?_) (fun c_100784 => ?_)
      · exact absurd (by decide) c_100784
      · skip
        refine lv_aload_n hx hb dL_law_1619 rfl (lv_at hl 5 rfl) ?_
        refine lv_iconst (v := 0) hx hb dL_law_1620 (by decide) ?_
        refine va_lald hx hb hK hP 1 1 rfl rfl (show vp_in 0 1 by unfold vp_in; decide) dL_law_1621 ?_
        refine W.eq (g2 := F0 m 1622 ls [.long (n_cut (xs 2) (n_combine (xs 1) 0 (n_cut (xs 2) ((((xs 4).toInt64) <<< ((32 : Int32).toInt64 &&& 63)) ||| (((xs 5).toInt64) &&& 4294967295))) (n_cut (xs 3) ((((xs 6).toInt64) <<< ((32 : Int32).toInt64 &&& 63)) ||| (((xs 7).toInt64) &&& 4294967295)))))]) rfl ?_
        refine lv_lload hx hb dL_law_1622 (lv_at hl 0 rfl) ?_
        refine W.lcmp hx hb dL_law_1624 ?_
        refine lv_if_eq (tgt := 1630) hx hb dL_law_1625 (by decide) (fun c_100785 => ?_) (fun c_100785 => ?_)
        · skip
          refine lv_goto (tgt := 1804) hx hb dL_law_1630 (by decide) ?_
          exact lk_tail hC hA2 (lv_sub hl [2, 6] rfl) hS (Nat.le_of_ble_eq_true rfl) (Nat.le_of_ble_eq_true rfl)
        · exact absurd ((lg_cmp_eq _ _).mpr (qx_w0 c_118 c_100203 c_114 c_115 c_123 c_116 c_117 (fun q => absurd q (Int32.not_lt.mpr c_124)) (fun q => q.1.elim (fun z => absurd (c_100217.symm.trans z) (by decide)) (fun z => absurd (c_100217.symm.trans z) (by decide))) (by rw [c_100217]; decide))) c_100785
    · exact absurd (by decide) c_100783
  · exact absurd hz.2.2.2.2.2.2.2.2.2.2.2.2.2.2.2.2.2.1 c_123
  · obtain ⟨c_100244, c_100245, c_100246, c_100247, c_100248, c_100249, c_100250, c_100251, c_100252, c_100253, c_100254, c_100255, c_100256, c_100257, c_100258, c_100259, c_100260, c_100261, c_100262, w_100263, w_100264⟩ := hz
    subst w_100263
    subst w_100264
    obtain ⟨hP, hD⟩ := va_join (wr := [(h0, .inr (10, [.ref x0, .int 0, .ref x1, .ref x2, .ref x3, .ref x4, .ref x5, .ref x6, .ref x7, .ref x8, .int 0, .int 3000])), (o0, .inl (kA 1, 1, .inr (.inl (vp_updL (fun _ => 0) 0 (n_cut (xs 2) (n_combine (xs 1) 0 (n_cut (xs 2) ((((xs 4).toInt64) <<< ((32 : Int32).toInt64 &&& 63)) ||| (((xs 5).toInt64) &&& 4294967295))) (n_cut (xs 3) ((((xs 6).toInt64) <<< ((32 : Int32).toInt64 &&& 63)) ||| (((xs 7).toInt64) &&& 4294967295)))))))))]) (w1 := [(m0, .inr (11, y0.set 9 (.int 0)))]) hP hD [0] [1, 2] rfl rfl (by decide) (by decide) hk1 hFc hP1 hD1
    generalize H1 = H at hP hS ⊢
    have hP : va_P D vwCl [(h0, .inr (10, [.ref x0, .int 0, .ref x1, .ref x2, .ref x3, .ref x4, .ref x5, .ref x6, .ref x7, .ref x8, .int 0, .int 3000])), (o0, .inl (kA 1, 1, .inr (.inl (vp_updL (fun _ => 0) 0 (n_cut (xs 2) (n_combine (xs 1) 0 (n_cut (xs 2) ((((xs 4).toInt64) <<< ((32 : Int32).toInt64 &&& 63)) ||| (((xs 5).toInt64) &&& 4294967295))) (n_cut (xs 3) ((((xs 6).toInt64) <<< ((32 : Int32).toInt64 &&& 63)) ||| (((xs 7).toInt64) &&& 4294967295))))))))), (m0, .inr (11, y0.set 9 (.int 0)))] H := hP
    have hD : va_D A [(h0, .inr (10, [.ref x0, .int 0, .ref x1, .ref x2, .ref x3, .ref x4, .ref x5, .ref x6, .ref x7, .ref x8, .int 0, .int 3000])), (o0, .inl (kA 1, 1, .inr (.inl (vp_updL (fun _ => 0) 0 (n_cut (xs 2) (n_combine (xs 1) 0 (n_cut (xs 2) ((((xs 4).toInt64) <<< ((32 : Int32).toInt64 &&& 63)) ||| (((xs 5).toInt64) &&& 4294967295))) (n_cut (xs 3) ((((xs 6).toInt64) <<< ((32 : Int32).toInt64 &&& 63)) ||| (((xs 7).toInt64) &&& 4294967295))))))))), (m0, .inr (11, y0.set 9 (.int 0)))] := hD
    refine lv_lstore (lv' := [(6, .long (n_cut (xs 2) (r_two 221 0 (n_cut (xs 2) ((((xs 4).toInt64) <<< ((32 : Int32).toInt64 &&& 63)) ||| (((xs 5).toInt64) &&& 4294967295))) (n_cut (xs 3) ((((xs 6).toInt64) <<< ((32 : Int32).toInt64 &&& 63)) ||| (((xs 7).toInt64) &&& 4294967295)))))), (5, .int 0), (0, .ref b), (1, .ref h0), (2, .ref m0), (3, .ref o0), (4, .int 0)]) hx hb dL_law_1601 hl (by decide) rfl (fun ls hl => ?_)
    refine lv_aload_n hx hb dL_law_1603 rfl (lv_at hl 4 rfl) ?_
    have hPc := hP.sub (ws' := [(m0, .inr (11, y0.set 9 (.int 0)))]) [2] rfl
    have hDc := hD.sub (ws' := [(m0, .inr (11, y0.set 9 (.int 0)))]) [2] (by decide) rfl
    have hFc := va_free (wc := [(m0, .inr (11, y0.set 9 (.int 0)))]) hD hS hA [2] rfl
    refine va_calli (va_runV (As := []) (rest := []) ⟨hx, hb, hml, hown, hts⟩ (a94_X12_thrown l  D kA V H.size m0 (y0.set 9 (.int 0)) (fun k hk => (by rw [List.length_set]; exact (hq k hk))) (List.getElem?_set_self (hq 9 (by decide)))) (cwV 0 hts (gw_V gw_1879 gw_1880 gw_1881 gw_16 gw_1882) rfl rfl rfl (by decide +kernel) ⟨(Nat.le_of_ble_eq_true rfl), (Nat.le_of_ble_eq_true rfl)⟩) ⟨aP.blind, va_recv hK hP (ci := 11) (q0 := 2) rfl rfl, aP.pre hE hS hPc hK hDc hFc⟩ rfl rfl hl.1 rfl (lv_room (Nat.le_of_ble_eq_true rfl)) dL_law_1604 ⟨(Nat.le_of_ble_eq_true rfl), (Nat.le_of_ble_eq_true rfl)⟩) hS (fun q _ h => hFc q h) hFc (fun r_100786 u t H1 locs ht hvm hw hB hz1 hk1 hS => ?_)
    obtain ⟨hP1, hD1⟩ := hB
    rw [ht] at hP1
    try dsimp only at hw hP1 hD1
    have w_100787 := hw
    subst w_100787
    obtain ⟨hP, hD⟩ := va_join (wr := [(h0, .inr (10, [.ref x0, .int 0, .ref x1, .ref x2, .ref x3, .ref x4, .ref x5, .ref x6, .ref x7, .ref x8, .int 0, .int 3000])), (o0, .inl (kA 1, 1, .inr (.inl (vp_updL (fun _ => 0) 0 (n_cut (xs 2) (n_combine (xs 1) 0 (n_cut (xs 2) ((((xs 4).toInt64) <<< ((32 : Int32).toInt64 &&& 63)) ||| (((xs 5).toInt64) &&& 4294967295))) (n_cut (xs 3) ((((xs 6).toInt64) <<< ((32 : Int32).toInt64 &&& 63)) ||| (((xs 7).toInt64) &&& 4294967295)))))))))]) (w1 := [(m0, .inr (11, (y0.set 9 (.int 0))))]) hP hD [2] [0, 1] rfl rfl (by decide) (by decide) hk1 hFc hP1 hD1
    generalize H1 = H at hP hS ⊢
    have hP : va_P D vwCl [(h0, .inr (10, [.ref x0, .int 0, .ref x1, .ref x2, .ref x3, .ref x4, .ref x5, .ref x6, .ref x7, .ref x8, .int 0, .int 3000])), (o0, .inl (kA 1, 1, .inr (.inl (vp_updL (fun _ => 0) 0 (n_cut (xs 2) (n_combine (xs 1) 0 (n_cut (xs 2) ((((xs 4).toInt64) <<< ((32 : Int32).toInt64 &&& 63)) ||| (((xs 5).toInt64) &&& 4294967295))) (n_cut (xs 3) ((((xs 6).toInt64) <<< ((32 : Int32).toInt64 &&& 63)) ||| (((xs 7).toInt64) &&& 4294967295))))))))), (m0, .inr (11, (y0.set 9 (.int 0))))] H := hP
    have hD : va_D A [(h0, .inr (10, [.ref x0, .int 0, .ref x1, .ref x2, .ref x3, .ref x4, .ref x5, .ref x6, .ref x7, .ref x8, .int 0, .int 3000])), (o0, .inl (kA 1, 1, .inr (.inl (vp_updL (fun _ => 0) 0 (n_cut (xs 2) (n_combine (xs 1) 0 (n_cut (xs 2) ((((xs 4).toInt64) <<< ((32 : Int32).toInt64 &&& 63)) ||| (((xs 5).toInt64) &&& 4294967295))) (n_cut (xs 3) ((((xs 6).toInt64) <<< ((32 : Int32).toInt64 &&& 63)) ||| (((xs 7).toInt64) &&& 4294967295))))))))), (m0, .inr (11, (y0.set 9 (.int 0))))] := hD
    refine lv_iload hx hb dL_law_1607 (lv_at hl 1 rfl) ?_
    refine lv_icmp_eq (tgt := 1614) hx hb dL_law_1609 (by decide) (fun c_100788 => ?_) (fun c_100788 => ?_)
    · skip
      refine lv_iload hx hb dL_law_1614 (lv_at hl 1 rfl) ?_
      refine lv_if_ne (tgt := 1630) hx hb dL_law_1616 (by decide) (fun c_100789 => ?_) (fun c_100789 => ?_)
      · exact absurd (by decide) c_100789
      · skip
        refine lv_aload_n hx hb dL_law_1619 rfl (lv_at hl 5 rfl) ?_
        refine lv_iconst (v := 0) hx hb dL_law_1620 (by decide) ?_
        refine va_lald hx hb hK hP 1 1 rfl rfl (show vp_in 0 1 by unfold vp_in; decide) dL_law_1621 ?_
        refine W.eq (g2 := F0 m 1622 ls [.long (n_cut (xs 2) (n_combine (xs 1) 0 (n_cut (xs 2) ((((xs 4).toInt64) <<< ((32 : Int32).toInt64 &&& 63)) ||| (((xs 5).toInt64) &&& 4294967295))) (n_cut (xs 3) ((((xs 6).toInt64) <<< ((32 : Int32).toInt64 &&& 63)) ||| (((xs 7).toInt64) &&& 4294967295)))))]) rfl ?_
        refine lv_lload hx hb dL_law_1622 (lv_at hl 0 rfl) ?_
        refine W.lcmp hx hb dL_law_1624 ?_
        refine lv_if_eq (tgt := 1630) hx hb dL_law_1625 (by decide) (fun c_100790 => ?_) (fun c_100790 => ?_)
        · skip
          refine lv_goto (tgt := 1804) hx hb dL_law_1630 (by decide) ?_
          exact lk_tail hC hA2 (lv_sub hl [2, 6] rfl) hS (Nat.le_of_ble_eq_true rfl) (Nat.le_of_ble_eq_true rfl)
        · exact absurd ((lg_cmp_eq _ _).mpr (qx_w0 c_118 c_100245 c_114 c_115 c_123 c_116 c_117 (fun q => absurd q (Int32.not_lt.mpr c_124)) (fun q => q.1.elim (fun z => absurd (c_100258.symm.trans z) (by decide)) (fun z => absurd (c_100258.symm.trans z) (by decide))) (by rw [c_100258]; decide))) c_100790
    · exact absurd (by decide) c_100788
  · exact False.elim (by have a1 := (iyE (n := 7) hz.2.2.2.2.2.2.2.2.2.2.2.2.2.1 (by decide)); have a2 := (iyB (n := 8) c_124 (by decide)); omega)
  · exact False.elim (by have a1 := (iyE (n := 7) hz.2.2.2.2.2.2.2.2.2.2.2.2.2.1 (by decide)); have a2 := (iyB (n := 8) c_124 (by decide)); omega)
  · exact False.elim (by have a1 := (iyE (n := 7) hz.2.2.2.2.2.2.2.2.2.2.2.2.2.1 (by decide)); have a2 := (iyB (n := 8) c_124 (by decide)); omega)
  · exact False.elim (by have a1 := (iyE (n := 6) hz.2.2.2.2.2.2.2.2.2.2.2.2.1 (by decide)); have a2 := (iyB (n := 8) c_124 (by decide)); omega)
  · exact False.elim (by have a1 := (iyE (n := 6) hz.2.2.2.2.2.2.2.2.2.2.2.2.1 (by decide)); have a2 := (iyB (n := 8) c_124 (by decide)); omega)
  · exact False.elim (by have a1 := (iyE (n := 6) hz.2.2.2.2.2.2.2.2.2.2.2.2.1 (by decide)); have a2 := (iyB (n := 8) c_124 (by decide)); omega)
  · exact False.elim (by have a1 := (iyE (n := 5) hz.2.2.2.2.2.2.2.2.2.2.2.1 (by decide)); have a2 := (iyB (n := 8) c_124 (by decide)); omega)
  · exact False.elim (by have a1 := (iyE (n := 5) hz.2.2.2.2.2.2.2.2.2.2.2.1 (by decide)); have a2 := (iyB (n := 8) c_124 (by decide)); omega)
  · exact False.elim (by have a1 := (iyE (n := 5) hz.2.2.2.2.2.2.2.2.2.2.2.1 (by decide)); have a2 := (iyB (n := 8) c_124 (by decide)); omega)
  · exact absurd hz.2.2.2.2.2.2.2.2.2.2.1 c_122
  · exact absurd hz.2.2.2.2.2.2.2.2.2.2.1 c_122
  · exact absurd hz.2.2.2.2.2.2.2.2.2.2.1 c_122
  · exact absurd hz.2.2.2.2.2.2.2.2.2.2.1 c_122
  · exact absurd hz.2.2.2.2.2.2.2.2.2.2.1 c_122
  · exact absurd hz.2.2.2.2.2.2.2.2.2.2.1 c_122
  · exact absurd hz.2.2.2.2.2.2.2.2.2.1 c_121
  · exact absurd hz.2.2.2.2.2.2.2.2.2.1 c_121
  · exact absurd hz.2.2.2.2.2.2.2.2.2.1 c_121
  · exact absurd hz.2.2.2.2.2.2.2.2.2.1 c_121
  · exact absurd hz.2.2.2.2.2.2.2.2.2.1 c_121
  · exact absurd hz.2.2.2.2.2.2.2.2.2.1 c_121
  · exact False.elim (by have a1 := (iyE (n := 2) hz.2.2.2.2.2.2.2.2.1 (by decide)); have a2 := (iyB (n := 8) c_124 (by decide)); omega)
  · exact False.elim (by have a1 := (iyE (n := 2) hz.2.2.2.2.2.2.2.2.1 (by decide)); have a2 := (iyB (n := 8) c_124 (by decide)); omega)
  · exact False.elim (by have a1 := (iyE (n := 2) hz.2.2.2.2.2.2.2.2.1 (by decide)); have a2 := (iyB (n := 8) c_124 (by decide)); omega)
  · exact False.elim (by have a1 := (iyE (n := 1) hz.2.2.2.2.2.2.2.1 (by decide)); have a2 := (iyB (n := 8) c_124 (by decide)); omega)
  · exact False.elim (by have a1 := (iyE (n := 1) hz.2.2.2.2.2.2.2.1 (by decide)); have a2 := (iyB (n := 8) c_124 (by decide)); omega)
  · exact False.elim (by have a1 := (iyE (n := 1) hz.2.2.2.2.2.2.2.1 (by decide)); have a2 := (iyB (n := 8) c_124 (by decide)); omega)
  · exact False.elim (by have a1 := (iyE (n := 0) hz.2.2.2.2.2.2.1 (by decide)); have a2 := (iyB (n := 8) c_124 (by decide)); omega)
  · exact False.elim (by have a1 := (iyE (n := 0) hz.2.2.2.2.2.2.1 (by decide)); have a2 := (iyB (n := 8) c_124 (by decide)); omega)
  · exact False.elim (by have a1 := (iyE (n := 0) hz.2.2.2.2.2.2.1 (by decide)); have a2 := (iyB (n := 8) c_124 (by decide)); omega)
set_option maxHeartbeats 4000000 in
set_option maxRecDepth 100000 in
theorem lk_22_14 {p : Program} {l : Launch} {e : Env} {s : State} {m : MethodId} {below : List Frame} {meth : Method} {c : Code} {D : va_G} {kA : Nat → ClassId} {V : Nat → Nat} {b : Nat} {xs : Nat → Int32} {A : Nat → Prop} (hC : lw_C p l s m meth c b 8 xs D kA V A) (hA2 : ∀ q, A q → s.heap.size ≤ q) (h0 : Nat) (m0 : Nat) (o0 : Nat) (x0 : Nat) (x1 : Nat) (x2 : Nat) (x3 : Nat) (x4 : Nat) (x5 : Nat) (x6 : Nat) (x7 : Nat) (x8 : Nat) (y0 : List Value) (hq : ∀ k, k < 121 → k < y0.length) (hq9 : y0[9]? = some (.int 0)) (c_127 : ¬ (xs 2) < 0) (c_128 : ¬ 4 < (xs 2)) (c_129 : ¬ (xs 3) < 0) (c_130 : ¬ 4 < (xs 3)) (c_131 : ¬ (xs 1) < 0) (c_132 : (xs 1) ≤ 10) (c_133 : (n_cut (xs 3) ((((xs 6).toInt64) <<< ((32 : Int32).toInt64 &&& 63)) ||| (((xs 7).toInt64) &&& 4294967295))) = 0) (c_134 : ¬ (xs 1) = 3) (c_135 : ¬ (xs 1) = 4) (c_136 : ¬ (xs 2) = 4) (c_137 : ¬ 8 ≤ (xs 1)) (c_138 : ¬ (xs 3) = 4) {H : Heap} {locs : List Loc} {ls : Array Slot} (hl : lv_has ls 8 [(0, .ref b), (1, .ref h0), (2, .ref m0), (3, .ref o0), (4, .int 0)]) (hS : va_S A s.heap H locs) (hP : va_P D vwCl [(m0, .inr (11, y0)), (h0, .inr (10, [.ref x0, .int 0, .ref x1, .ref x2, .ref x3, .ref x4, .ref x5, .ref x6, .ref x7, .ref x8, .int 0, .int 3000])), (o0, .inl (kA 1, 1, .inr (.inl (vp_updL (fun _ => 0) 0 (n_cut (xs 2) (n_combine (xs 1) 0 (n_cut (xs 2) ((((xs 4).toInt64) <<< ((32 : Int32).toInt64 &&& 63)) ||| (((xs 5).toInt64) &&& 4294967295))) (n_cut (xs 3) ((((xs 6).toInt64) <<< ((32 : Int32).toInt64 &&& 63)) ||| (((xs 7).toInt64) &&& 4294967295)))))))))] H) (hD : va_D A [(m0, .inr (11, y0)), (h0, .inr (10, [.ref x0, .int 0, .ref x1, .ref x2, .ref x3, .ref x4, .ref x5, .ref x6, .ref x7, .ref x8, .int 0, .int 3000])), (o0, .inl (kA 1, 1, .inr (.inl (vp_updL (fun _ => 0) 0 (n_cut (xs 2) (n_combine (xs 1) 0 (n_cut (xs 2) ((((xs 4).toInt64) <<< ((32 : Int32).toInt64 &&& 63)) ||| (((xs 5).toInt64) &&& 4294967295))) (n_cut (xs 3) ((((xs 6).toInt64) <<< ((32 : Int32).toInt64 &&& 63)) ||| (((xs 7).toInt64) &&& 4294967295)))))))))]) : W p l e room_1 s m #[Value.ref b] below meth c H locs 515 172799 (lw_Z below #[Value.ref b] s) (F0 m 1531 ls [.int 0]) := by
  have ⟨hst, hx, hb, hr, hml, hown, hts, hG, hX, hbl, hbA, hlocks, hE, hK, hA⟩ := hC
  refine lv_istore (lv' := [(5, .int 0), (0, .ref b), (1, .ref h0), (2, .ref m0), (3, .ref o0), (4, .int 0)]) hx hb dL_law_1531 hl (by decide) rfl (fun ls hl => ?_)
  refine lv_aload_n hx hb dL_law_1533 rfl (lv_at hl 3 rfl) ?_
  refine lv_aload_n hx hb dL_law_1534 rfl (lv_at hl 1 rfl) ?_
  refine lv_iload hx hb dL_law_1535 (lv_at hl 5 rfl) ?_
  refine lv_iconst (v := 1) hx hb dL_law_1537 (by decide) ?_
  refine lv_iadd hx hb dL_law_1538 ?_
  refine W.eq (g2 := F0 m 1539 ls [.int 1, .ref b, .ref m0]) rfl ?_
  refine va_sld hx hb hX hbl hbA hS (show vp_in 1 8 by unfold vp_in; decide) dL_law_1539 ?_
  refine W.eq (g2 := F0 m 1540 ls [.int (xs 1), .ref m0]) rfl ?_
  refine lv_aload_n hx hb dL_law_1540 rfl (lv_at hl 1 rfl) ?_
  refine lv_iload hx hb dL_law_1541 (lv_at hl 5 rfl) ?_
  refine lv_iconst (v := 2) hx hb dL_law_1543 (by decide) ?_
  refine lv_iadd hx hb dL_law_1544 ?_
  refine W.eq (g2 := F0 m 1545 ls [.int 2, .ref b, .int (xs 1), .ref m0]) rfl ?_
  refine va_sld hx hb hX hbl hbA hS (show vp_in 2 8 by unfold vp_in; decide) dL_law_1545 ?_
  refine W.eq (g2 := F0 m 1546 ls [.int (xs 2), .int (xs 1), .ref m0]) rfl ?_
  refine lv_aload_n hx hb dL_law_1546 rfl (lv_at hl 1 rfl) ?_
  refine lv_iload hx hb dL_law_1547 (lv_at hl 5 rfl) ?_
  refine lv_iconst (v := 3) hx hb dL_law_1549 (by decide) ?_
  refine lv_iadd hx hb dL_law_1550 ?_
  refine W.eq (g2 := F0 m 1551 ls [.int 3, .ref b, .int (xs 2), .int (xs 1), .ref m0]) rfl ?_
  refine va_sld hx hb hX hbl hbA hS (show vp_in 3 8 by unfold vp_in; decide) dL_law_1551 ?_
  refine W.eq (g2 := F0 m 1552 ls [.int (xs 3), .int (xs 2), .int (xs 1), .ref m0]) rfl ?_
  refine lv_aload_n hx hb dL_law_1552 rfl (lv_at hl 1 rfl) ?_
  refine lv_iload hx hb dL_law_1553 (lv_at hl 5 rfl) ?_
  refine lv_iconst (v := 4) hx hb dL_law_1555 (by decide) ?_
  refine lv_iadd hx hb dL_law_1556 ?_
  refine W.eq (g2 := F0 m 1557 ls [.int 4, .ref b, .int (xs 3), .int (xs 2), .int (xs 1), .ref m0]) rfl ?_
  refine va_sld hx hb hX hbl hbA hS (show vp_in 4 8 by unfold vp_in; decide) dL_law_1557 ?_
  refine W.eq (g2 := F0 m 1558 ls [.int (xs 4), .int (xs 3), .int (xs 2), .int (xs 1), .ref m0]) rfl ?_
  refine lv_i2l (v := (xs 4).toInt64) hx hb dL_law_1558 rfl ?_
  refine lv_bipush (v := 32) hx hb dL_law_1559 (by decide) ?_
  refine lv_lshl (v := ((xs 4).toInt64) <<< ((32 : Int32).toInt64 &&& 63)) hx hb dL_law_1561 rfl ?_
  refine lv_aload_n hx hb dL_law_1562 rfl (lv_at hl 1 rfl) ?_
  refine lv_iload hx hb dL_law_1563 (lv_at hl 5 rfl) ?_
  refine lv_iconst (v := 5) hx hb dL_law_1565 (by decide) ?_
  refine lv_iadd hx hb dL_law_1566 ?_
  refine W.eq (g2 := F0 m 1567 ls [.int 5, .ref b, .long (((xs 4).toInt64) <<< ((32 : Int32).toInt64 &&& 63)), .int (xs 3), .int (xs 2), .int (xs 1), .ref m0]) rfl ?_
  refine va_sld hx hb hX hbl hbA hS (show vp_in 5 8 by unfold vp_in; decide) dL_law_1567 ?_
  refine W.eq (g2 := F0 m 1568 ls [.int (xs 5), .long (((xs 4).toInt64) <<< ((32 : Int32).toInt64 &&& 63)), .int (xs 3), .int (xs 2), .int (xs 1), .ref m0]) rfl ?_
  refine lv_i2l (v := (xs 5).toInt64) hx hb dL_law_1568 rfl ?_
  refine lv_ldc2 (v := 4294967295) hx hb hown (hG _ gw_2764) dL_law_1569 ?_
  refine lv_land hx hb dL_law_1572 ?_
  refine lv_lor hx hb dL_law_1573 ?_
  refine lv_aload_n hx hb dL_law_1574 rfl (lv_at hl 1 rfl) ?_
  refine lv_iload hx hb dL_law_1575 (lv_at hl 5 rfl) ?_
  refine lv_bipush (v := 6) hx hb dL_law_1577 (by decide) ?_
  refine lv_iadd hx hb dL_law_1579 ?_
  refine W.eq (g2 := F0 m 1580 ls [.int 6, .ref b, .long ((((xs 4).toInt64) <<< ((32 : Int32).toInt64 &&& 63)) ||| (((xs 5).toInt64) &&& 4294967295)), .int (xs 3), .int (xs 2), .int (xs 1), .ref m0]) rfl ?_
  refine va_sld hx hb hX hbl hbA hS (show vp_in 6 8 by unfold vp_in; decide) dL_law_1580 ?_
  refine W.eq (g2 := F0 m 1581 ls [.int (xs 6), .long ((((xs 4).toInt64) <<< ((32 : Int32).toInt64 &&& 63)) ||| (((xs 5).toInt64) &&& 4294967295)), .int (xs 3), .int (xs 2), .int (xs 1), .ref m0]) rfl ?_
  refine lv_i2l (v := (xs 6).toInt64) hx hb dL_law_1581 rfl ?_
  refine lv_bipush (v := 32) hx hb dL_law_1582 (by decide) ?_
  refine lv_lshl (v := ((xs 6).toInt64) <<< ((32 : Int32).toInt64 &&& 63)) hx hb dL_law_1584 rfl ?_
  refine lv_aload_n hx hb dL_law_1585 rfl (lv_at hl 1 rfl) ?_
  refine lv_iload hx hb dL_law_1586 (lv_at hl 5 rfl) ?_
  refine lv_bipush (v := 7) hx hb dL_law_1588 (by decide) ?_
  refine lv_iadd hx hb dL_law_1590 ?_
  refine W.eq (g2 := F0 m 1591 ls [.int 7, .ref b, .long (((xs 6).toInt64) <<< ((32 : Int32).toInt64 &&& 63)), .long ((((xs 4).toInt64) <<< ((32 : Int32).toInt64 &&& 63)) ||| (((xs 5).toInt64) &&& 4294967295)), .int (xs 3), .int (xs 2), .int (xs 1), .ref m0]) rfl ?_
  refine va_sld hx hb hX hbl hbA hS (show vp_in 7 8 by unfold vp_in; decide) dL_law_1591 ?_
  refine W.eq (g2 := F0 m 1592 ls [.int (xs 7), .long (((xs 6).toInt64) <<< ((32 : Int32).toInt64 &&& 63)), .long ((((xs 4).toInt64) <<< ((32 : Int32).toInt64 &&& 63)) ||| (((xs 5).toInt64) &&& 4294967295)), .int (xs 3), .int (xs 2), .int (xs 1), .ref m0]) rfl ?_
  refine lv_i2l (v := (xs 7).toInt64) hx hb dL_law_1592 rfl ?_
  refine lv_ldc2 (v := 4294967295) hx hb hown (hG _ gw_2764) dL_law_1593 ?_
  refine lv_land hx hb dL_law_1596 ?_
  refine lv_lor hx hb dL_law_1597 ?_
  have hPc := hP.sub (ws' := [(m0, .inr (11, y0))]) [0] rfl
  have hDc := hD.sub (ws' := [(m0, .inr (11, y0))]) [0] (by decide) rfl
  have hFc := va_free (wc := [(m0, .inr (11, y0))]) hD hS hA [0] rfl
  refine va_calll (va_runV (As := [.int (xs 1), .int (xs 2), .int (xs 3), .long ((((xs 4).toInt64) <<< ((32 : Int32).toInt64 &&& 63)) ||| (((xs 5).toInt64) &&& 4294967295)), .long ((((xs 6).toInt64) <<< ((32 : Int32).toInt64 &&& 63)) ||| (((xs 7).toInt64) &&& 4294967295))]) (rest := []) ⟨hx, hb, hml, hown, hts⟩ (a153_X12_work l  D kA V H.size m0 (xs 1) (xs 2) (xs 3) ((((xs 4).toInt64) <<< ((32 : Int32).toInt64 &&& 63)) ||| (((xs 5).toInt64) &&& 4294967295)) ((((xs 6).toInt64) <<< ((32 : Int32).toInt64 &&& 63)) ||| (((xs 7).toInt64) &&& 4294967295)) y0 (fun k hk => (hq k hk)) hq9) (cwV 5 hts (gw_V gw_2756 gw_2757 gw_2758 gw_16 gw_2759) rfl rfl rfl (by decide +kernel) ⟨(Nat.le_of_ble_eq_true rfl), (Nat.le_of_ble_eq_true rfl)⟩) ⟨aP.blind, va_recv hK hP (ci := 11) (q0 := 0) rfl rfl, aP.pre hE hS hPc hK hDc hFc⟩ rfl rfl hl.1 rfl (lv_room (Nat.le_of_ble_eq_true rfl)) dL_law_1598 ⟨(Nat.le_of_ble_eq_true rfl), (Nat.le_of_ble_eq_true rfl)⟩) hS (fun q _ h => hFc q h) hFc (fun r_100001 u t H1 locs ht hvm hw hB hz1 hk1 hS => ?_)
  obtain ⟨u_100002, rfl⟩ : ∃ z, z = u := ⟨u, rfl⟩
  obtain ⟨hP1, hD1⟩ := hB
  rw [ht] at hP1
  try dsimp only at hw hP1 hD1
  rcases hw with hz | hz | hz | hz | hz | hz | hz | hz | hz | hz | hz | hz | hz | hz | hz | hz | hz | hz | hz | hz | hz | hz | hz | hz | hz | hz | hz | hz | hz | hz | hz | hz | hz | hz | hz | hz | hz | hz | hz | hz | hz | hz | hz | hz | hz | hz | hz | hz | hz | hz | hz | hz
  · exact absurd hz.1 c_131
  · exact absurd hz.1 c_131
  · exact absurd hz.1 c_131
  · exact absurd hz.1 c_131
  · exact absurd hz.1 c_131
  · exact absurd hz.2.1 (Int32.not_lt.mpr c_132)
  · exact absurd hz.2.1 (Int32.not_lt.mpr c_132)
  · exact absurd hz.2.1 (Int32.not_lt.mpr c_132)
  · exact absurd hz.2.1 (Int32.not_lt.mpr c_132)
  · exact absurd hz.2.1 (Int32.not_lt.mpr c_132)
  · exact absurd hz.2.2.1 c_127
  · exact absurd hz.2.2.2.1 c_128
  · exact absurd hz.2.2.2.2.1 c_129
  · exact absurd hz.2.2.2.2.2.1 c_130
  · exact absurd hz.2.2.2.2.2.2.2.2.2.2.2.2.2.2.2.2.2.2.1 c_136
  · exact absurd hz.2.2.2.2.2.2.2.2.2.2.2.2.2.2.2.2.2.2.2.1 c_137
  · obtain ⟨c_100135, c_100136, c_100137, c_100138, c_100139, c_100140, c_100141, c_100142, c_100143, c_100144, c_100145, c_100146, c_100147, c_100148, c_100149, c_100150, c_100151, c_100152, c_100153, c_100154, c_100155, w_100156, w_100157⟩ := hz
    subst w_100156
    subst w_100157
    obtain ⟨hP, hD⟩ := va_join (wr := [(h0, .inr (10, [.ref x0, .int 0, .ref x1, .ref x2, .ref x3, .ref x4, .ref x5, .ref x6, .ref x7, .ref x8, .int 0, .int 3000])), (o0, .inl (kA 1, 1, .inr (.inl (vp_updL (fun _ => 0) 0 (n_cut (xs 2) (n_combine (xs 1) 0 (n_cut (xs 2) ((((xs 4).toInt64) <<< ((32 : Int32).toInt64 &&& 63)) ||| (((xs 5).toInt64) &&& 4294967295))) (n_cut (xs 3) ((((xs 6).toInt64) <<< ((32 : Int32).toInt64 &&& 63)) ||| (((xs 7).toInt64) &&& 4294967295)))))))))]) (w1 := [(m0, .inr (11, y0.set 9 (.int 0)))]) hP hD [0] [1, 2] rfl rfl (by decide) (by decide) hk1 hFc hP1 hD1
    generalize H1 = H at hP hS ⊢
    have hP : va_P D vwCl [(h0, .inr (10, [.ref x0, .int 0, .ref x1, .ref x2, .ref x3, .ref x4, .ref x5, .ref x6, .ref x7, .ref x8, .int 0, .int 3000])), (o0, .inl (kA 1, 1, .inr (.inl (vp_updL (fun _ => 0) 0 (n_cut (xs 2) (n_combine (xs 1) 0 (n_cut (xs 2) ((((xs 4).toInt64) <<< ((32 : Int32).toInt64 &&& 63)) ||| (((xs 5).toInt64) &&& 4294967295))) (n_cut (xs 3) ((((xs 6).toInt64) <<< ((32 : Int32).toInt64 &&& 63)) ||| (((xs 7).toInt64) &&& 4294967295))))))))), (m0, .inr (11, y0.set 9 (.int 0)))] H := hP
    have hD : va_D A [(h0, .inr (10, [.ref x0, .int 0, .ref x1, .ref x2, .ref x3, .ref x4, .ref x5, .ref x6, .ref x7, .ref x8, .int 0, .int 3000])), (o0, .inl (kA 1, 1, .inr (.inl (vp_updL (fun _ => 0) 0 (n_cut (xs 2) (n_combine (xs 1) 0 (n_cut (xs 2) ((((xs 4).toInt64) <<< ((32 : Int32).toInt64 &&& 63)) ||| (((xs 5).toInt64) &&& 4294967295))) (n_cut (xs 3) ((((xs 6).toInt64) <<< ((32 : Int32).toInt64 &&& 63)) ||| (((xs 7).toInt64) &&& 4294967295))))))))), (m0, .inr (11, y0.set 9 (.int 0)))] := hD
    refine lv_lstore (lv' := [(6, .long (n_cut (xs 2) (r_two 203 0 (n_cut (xs 2) ((((xs 4).toInt64) <<< ((32 : Int32).toInt64 &&& 63)) ||| (((xs 5).toInt64) &&& 4294967295))) (n_cut (xs 3) ((((xs 6).toInt64) <<< ((32 : Int32).toInt64 &&& 63)) ||| (((xs 7).toInt64) &&& 4294967295)))))), (5, .int 0), (0, .ref b), (1, .ref h0), (2, .ref m0), (3, .ref o0), (4, .int 0)]) hx hb dL_law_1601 hl (by decide) rfl (fun ls hl => ?_)
    refine lv_aload_n hx hb dL_law_1603 rfl (lv_at hl 4 rfl) ?_
    have hPc := hP.sub (ws' := [(m0, .inr (11, y0.set 9 (.int 0)))]) [2] rfl
    have hDc := hD.sub (ws' := [(m0, .inr (11, y0.set 9 (.int 0)))]) [2] (by decide) rfl
    have hFc := va_free (wc := [(m0, .inr (11, y0.set 9 (.int 0)))]) hD hS hA [2] rfl
    refine va_calli (va_runV (As := []) (rest := []) ⟨hx, hb, hml, hown, hts⟩ (a94_X12_thrown l  D kA V H.size m0 (y0.set 9 (.int 0)) (fun k hk => (by rw [List.length_set]; exact (hq k hk))) (List.getElem?_set_self (hq 9 (by decide)))) (cwV 0 hts (gw_V gw_1879 gw_1880 gw_1881 gw_16 gw_1882) rfl rfl rfl (by decide +kernel) ⟨(Nat.le_of_ble_eq_true rfl), (Nat.le_of_ble_eq_true rfl)⟩) ⟨aP.blind, va_recv hK hP (ci := 11) (q0 := 2) rfl rfl, aP.pre hE hS hPc hK hDc hFc⟩ rfl rfl hl.1 rfl (lv_room (Nat.le_of_ble_eq_true rfl)) dL_law_1604 ⟨(Nat.le_of_ble_eq_true rfl), (Nat.le_of_ble_eq_true rfl)⟩) hS (fun q _ h => hFc q h) hFc (fun r_100776 u t H1 locs ht hvm hw hB hz1 hk1 hS => ?_)
    obtain ⟨hP1, hD1⟩ := hB
    rw [ht] at hP1
    try dsimp only at hw hP1 hD1
    have w_100777 := hw
    subst w_100777
    obtain ⟨hP, hD⟩ := va_join (wr := [(h0, .inr (10, [.ref x0, .int 0, .ref x1, .ref x2, .ref x3, .ref x4, .ref x5, .ref x6, .ref x7, .ref x8, .int 0, .int 3000])), (o0, .inl (kA 1, 1, .inr (.inl (vp_updL (fun _ => 0) 0 (n_cut (xs 2) (n_combine (xs 1) 0 (n_cut (xs 2) ((((xs 4).toInt64) <<< ((32 : Int32).toInt64 &&& 63)) ||| (((xs 5).toInt64) &&& 4294967295))) (n_cut (xs 3) ((((xs 6).toInt64) <<< ((32 : Int32).toInt64 &&& 63)) ||| (((xs 7).toInt64) &&& 4294967295)))))))))]) (w1 := [(m0, .inr (11, (y0.set 9 (.int 0))))]) hP hD [2] [0, 1] rfl rfl (by decide) (by decide) hk1 hFc hP1 hD1
    generalize H1 = H at hP hS ⊢
    have hP : va_P D vwCl [(h0, .inr (10, [.ref x0, .int 0, .ref x1, .ref x2, .ref x3, .ref x4, .ref x5, .ref x6, .ref x7, .ref x8, .int 0, .int 3000])), (o0, .inl (kA 1, 1, .inr (.inl (vp_updL (fun _ => 0) 0 (n_cut (xs 2) (n_combine (xs 1) 0 (n_cut (xs 2) ((((xs 4).toInt64) <<< ((32 : Int32).toInt64 &&& 63)) ||| (((xs 5).toInt64) &&& 4294967295))) (n_cut (xs 3) ((((xs 6).toInt64) <<< ((32 : Int32).toInt64 &&& 63)) ||| (((xs 7).toInt64) &&& 4294967295))))))))), (m0, .inr (11, (y0.set 9 (.int 0))))] H := hP
    have hD : va_D A [(h0, .inr (10, [.ref x0, .int 0, .ref x1, .ref x2, .ref x3, .ref x4, .ref x5, .ref x6, .ref x7, .ref x8, .int 0, .int 3000])), (o0, .inl (kA 1, 1, .inr (.inl (vp_updL (fun _ => 0) 0 (n_cut (xs 2) (n_combine (xs 1) 0 (n_cut (xs 2) ((((xs 4).toInt64) <<< ((32 : Int32).toInt64 &&& 63)) ||| (((xs 5).toInt64) &&& 4294967295))) (n_cut (xs 3) ((((xs 6).toInt64) <<< ((32 : Int32).toInt64 &&& 63)) ||| (((xs 7).toInt64) &&& 4294967295))))))))), (m0, .inr (11, (y0.set 9 (.int 0))))] := hD
    refine lv_iload hx hb dL_law_1607 (lv_at hl 1 rfl) ?_
    refine lv_icmp_eq (tgt := 1614) hx hb dL_law_1609 (by decide) (fun c_100778 => ?_) (fun c_100778 => ?_)
    · skip
      refine lv_iload hx hb dL_law_1614 (lv_at hl 1 rfl) ?_
      refine lv_if_ne (tgt := 1630) hx hb dL_law_1616 (by decide) (fun c_100779 => ?_) (fun c_100779 => ?_)
      · exact absurd (by decide) c_100779
      · skip
        refine lv_aload_n hx hb dL_law_1619 rfl (lv_at hl 5 rfl) ?_
        refine lv_iconst (v := 0) hx hb dL_law_1620 (by decide) ?_
        refine va_lald hx hb hK hP 1 1 rfl rfl (show vp_in 0 1 by unfold vp_in; decide) dL_law_1621 ?_
        refine W.eq (g2 := F0 m 1622 ls [.long (n_cut (xs 2) (n_combine (xs 1) 0 (n_cut (xs 2) ((((xs 4).toInt64) <<< ((32 : Int32).toInt64 &&& 63)) ||| (((xs 5).toInt64) &&& 4294967295))) (n_cut (xs 3) ((((xs 6).toInt64) <<< ((32 : Int32).toInt64 &&& 63)) ||| (((xs 7).toInt64) &&& 4294967295)))))]) rfl ?_
        refine lv_lload hx hb dL_law_1622 (lv_at hl 0 rfl) ?_
        refine W.lcmp hx hb dL_law_1624 ?_
        refine lv_if_eq (tgt := 1630) hx hb dL_law_1625 (by decide) (fun c_100780 => ?_) (fun c_100780 => ?_)
        · skip
          refine lv_goto (tgt := 1804) hx hb dL_law_1630 (by decide) ?_
          exact lk_tail hC hA2 (lv_sub hl [2, 6] rfl) hS (Nat.le_of_ble_eq_true rfl) (Nat.le_of_ble_eq_true rfl)
        · exact absurd ((lg_cmp_eq _ _).mpr (qx_w0 c_131 c_100136 c_127 c_128 c_136 c_129 c_130 (fun _ => c_138) (fun q => q.1.elim c_134 c_135) (by unfold q_sign; rw [if_neg c_100141, if_neg c_100142, if_neg c_100143, if_neg c_134, if_neg c_135, if_neg c_100146, if_neg c_100147, if_neg c_100148, if_neg c_100149, if_neg c_100150]))) c_100780
    · exact absurd (by decide) c_100778
  · exact absurd hz.2.2.2.2.2.2.2.2.2.2.2.2.2.2.2.2.2.2.2.2.1 c_138
  · exact False.elim (by have a1 := (iyE (n := 9) hz.2.2.2.2.2.2.2.2.2.2.2.2.2.2.2.1 (by decide)); have a2 := (ixA (n := 8) (Int32.not_le.mp c_137) (by decide)); omega)
  · exact False.elim (by have a1 := (iyE (n := 9) hz.2.2.2.2.2.2.2.2.2.2.2.2.2.2.2.1 (by decide)); have a2 := (ixA (n := 8) (Int32.not_le.mp c_137) (by decide)); omega)
  · exact False.elim (by have a1 := (iyE (n := 8) hz.2.2.2.2.2.2.2.2.2.2.2.2.2.2.1 (by decide)); have a2 := (ixA (n := 8) (Int32.not_le.mp c_137) (by decide)); omega)
  · exact False.elim (by have a1 := (iyE (n := 8) hz.2.2.2.2.2.2.2.2.2.2.2.2.2.2.1 (by decide)); have a2 := (ixA (n := 8) (Int32.not_le.mp c_137) (by decide)); omega)
  · exact absurd hz.2.2.2.2.2.2.2.2.2.2.2.2.2.2.2.2.1 c_136
  · obtain ⟨c_100284, c_100285, c_100286, c_100287, c_100288, c_100289, c_100290, c_100291, c_100292, c_100293, c_100294, c_100295, c_100296, c_100297, c_100298, c_100299, c_100300, c_100301, c_100302, w_100303, w_100304⟩ := hz
    subst w_100303
    subst w_100304
    obtain ⟨hP, hD⟩ := va_join (wr := [(h0, .inr (10, [.ref x0, .int 0, .ref x1, .ref x2, .ref x3, .ref x4, .ref x5, .ref x6, .ref x7, .ref x8, .int 0, .int 3000])), (o0, .inl (kA 1, 1, .inr (.inl (vp_updL (fun _ => 0) 0 (n_cut (xs 2) (n_combine (xs 1) 0 (n_cut (xs 2) ((((xs 4).toInt64) <<< ((32 : Int32).toInt64 &&& 63)) ||| (((xs 5).toInt64) &&& 4294967295))) (n_cut (xs 3) ((((xs 6).toInt64) <<< ((32 : Int32).toInt64 &&& 63)) ||| (((xs 7).toInt64) &&& 4294967295)))))))))]) (w1 := [(m0, .inr (11, y0.set 9 (.int 0)))]) hP hD [0] [1, 2] rfl rfl (by decide) (by decide) hk1 hFc hP1 hD1
    generalize H1 = H at hP hS ⊢
    have hP : va_P D vwCl [(h0, .inr (10, [.ref x0, .int 0, .ref x1, .ref x2, .ref x3, .ref x4, .ref x5, .ref x6, .ref x7, .ref x8, .int 0, .int 3000])), (o0, .inl (kA 1, 1, .inr (.inl (vp_updL (fun _ => 0) 0 (n_cut (xs 2) (n_combine (xs 1) 0 (n_cut (xs 2) ((((xs 4).toInt64) <<< ((32 : Int32).toInt64 &&& 63)) ||| (((xs 5).toInt64) &&& 4294967295))) (n_cut (xs 3) ((((xs 6).toInt64) <<< ((32 : Int32).toInt64 &&& 63)) ||| (((xs 7).toInt64) &&& 4294967295))))))))), (m0, .inr (11, y0.set 9 (.int 0)))] H := hP
    have hD : va_D A [(h0, .inr (10, [.ref x0, .int 0, .ref x1, .ref x2, .ref x3, .ref x4, .ref x5, .ref x6, .ref x7, .ref x8, .int 0, .int 3000])), (o0, .inl (kA 1, 1, .inr (.inl (vp_updL (fun _ => 0) 0 (n_cut (xs 2) (n_combine (xs 1) 0 (n_cut (xs 2) ((((xs 4).toInt64) <<< ((32 : Int32).toInt64 &&& 63)) ||| (((xs 5).toInt64) &&& 4294967295))) (n_cut (xs 3) ((((xs 6).toInt64) <<< ((32 : Int32).toInt64 &&& 63)) ||| (((xs 7).toInt64) &&& 4294967295))))))))), (m0, .inr (11, y0.set 9 (.int 0)))] := hD
    refine lv_lstore (lv' := [(6, .long (n_cut (xs 2) (r_two 236 0 (n_cut (xs 2) ((((xs 4).toInt64) <<< ((32 : Int32).toInt64 &&& 63)) ||| (((xs 5).toInt64) &&& 4294967295))) (n_cut (xs 3) ((((xs 6).toInt64) <<< ((32 : Int32).toInt64 &&& 63)) ||| (((xs 7).toInt64) &&& 4294967295)))))), (5, .int 0), (0, .ref b), (1, .ref h0), (2, .ref m0), (3, .ref o0), (4, .int 0)]) hx hb dL_law_1601 hl (by decide) rfl (fun ls hl => ?_)
    refine lv_aload_n hx hb dL_law_1603 rfl (lv_at hl 4 rfl) ?_
    have hPc := hP.sub (ws' := [(m0, .inr (11, y0.set 9 (.int 0)))]) [2] rfl
    have hDc := hD.sub (ws' := [(m0, .inr (11, y0.set 9 (.int 0)))]) [2] (by decide) rfl
    have hFc := va_free (wc := [(m0, .inr (11, y0.set 9 (.int 0)))]) hD hS hA [2] rfl
    refine va_calli (va_runV (As := []) (rest := []) ⟨hx, hb, hml, hown, hts⟩ (a94_X12_thrown l  D kA V H.size m0 (y0.set 9 (.int 0)) (fun k hk => (by rw [List.length_set]; exact (hq k hk))) (List.getElem?_set_self (hq 9 (by decide)))) (cwV 0 hts (gw_V gw_1879 gw_1880 gw_1881 gw_16 gw_1882) rfl rfl rfl (by decide +kernel) ⟨(Nat.le_of_ble_eq_true rfl), (Nat.le_of_ble_eq_true rfl)⟩) ⟨aP.blind, va_recv hK hP (ci := 11) (q0 := 2) rfl rfl, aP.pre hE hS hPc hK hDc hFc⟩ rfl rfl hl.1 rfl (lv_room (Nat.le_of_ble_eq_true rfl)) dL_law_1604 ⟨(Nat.le_of_ble_eq_true rfl), (Nat.le_of_ble_eq_true rfl)⟩) hS (fun q _ h => hFc q h) hFc (fun r_100781 u t H1 locs ht hvm hw hB hz1 hk1 hS => ?_)
    obtain ⟨hP1, hD1⟩ := hB
    rw [ht] at hP1
    try dsimp only at hw hP1 hD1
    have w_100782 := hw
    subst w_100782
    obtain ⟨hP, hD⟩ := va_join (wr := [(h0, .inr (10, [.ref x0, .int 0, .ref x1, .ref x2, .ref x3, .ref x4, .ref x5, .ref x6, .ref x7, .ref x8, .int 0, .int 3000])), (o0, .inl (kA 1, 1, .inr (.inl (vp_updL (fun _ => 0) 0 (n_cut (xs 2) (n_combine (xs 1) 0 (n_cut (xs 2) ((((xs 4).toInt64) <<< ((32 : Int32).toInt64 &&& 63)) ||| (((xs 5).toInt64) &&& 4294967295))) (n_cut (xs 3) ((((xs 6).toInt64) <<< ((32 : Int32).toInt64 &&& 63)) ||| (((xs 7).toInt64) &&& 4294967295)))))))))]) (w1 := [(m0, .inr (11, (y0.set 9 (.int 0))))]) hP hD [2] [0, 1] rfl rfl (by decide) (by decide) hk1 hFc hP1 hD1
    generalize H1 = H at hP hS ⊢
    have hP : va_P D vwCl [(h0, .inr (10, [.ref x0, .int 0, .ref x1, .ref x2, .ref x3, .ref x4, .ref x5, .ref x6, .ref x7, .ref x8, .int 0, .int 3000])), (o0, .inl (kA 1, 1, .inr (.inl (vp_updL (fun _ => 0) 0 (n_cut (xs 2) (n_combine (xs 1) 0 (n_cut (xs 2) ((((xs 4).toInt64) <<< ((32 : Int32).toInt64 &&& 63)) ||| (((xs 5).toInt64) &&& 4294967295))) (n_cut (xs 3) ((((xs 6).toInt64) <<< ((32 : Int32).toInt64 &&& 63)) ||| (((xs 7).toInt64) &&& 4294967295))))))))), (m0, .inr (11, (y0.set 9 (.int 0))))] H := hP
    have hD : va_D A [(h0, .inr (10, [.ref x0, .int 0, .ref x1, .ref x2, .ref x3, .ref x4, .ref x5, .ref x6, .ref x7, .ref x8, .int 0, .int 3000])), (o0, .inl (kA 1, 1, .inr (.inl (vp_updL (fun _ => 0) 0 (n_cut (xs 2) (n_combine (xs 1) 0 (n_cut (xs 2) ((((xs 4).toInt64) <<< ((32 : Int32).toInt64 &&& 63)) ||| (((xs 5).toInt64) &&& 4294967295))) (n_cut (xs 3) ((((xs 6).toInt64) <<< ((32 : Int32).toInt64 &&& 63)) ||| (((xs 7).toInt64) &&& 4294967295))))))))), (m0, .inr (11, (y0.set 9 (.int 0))))] := hD
    refine lv_iload hx hb dL_law_1607 (lv_at hl 1 rfl) ?_
    refine lv_icmp_eq (tgt := 1614) hx hb dL_law_1609 (by decide) (fun c_100783 => ?_) (fun c_100783 => ?_)
    · skip
      refine lv_iload hx hb dL_law_1614 (lv_at hl 1 rfl) ?_
      refine lv_if_ne (tgt := 1630) hx hb dL_law_1616 (by decide) (fun c_100784 => ?_) (fun c_100784 => ?_)
      · exact absurd (by decide) c_100784
      · skip
        refine lv_aload_n hx hb dL_law_1619 rfl (lv_at hl 5 rfl) ?_
        refine lv_iconst (v := 0) hx hb dL_law_1620 (by decide) ?_
        refine va_lald hx hb hK hP 1 1 rfl rfl (show vp_in 0 1 by unfold vp_in; decide) dL_law_1621 ?_
        refine W.eq (g2 := F0 m 1622 ls [.long (n_cut (xs 2) (n_combine (xs 1) 0 (n_cut (xs 2) ((((xs 4).toInt64) <<< ((32 : Int32).toInt64 &&& 63)) ||| (((xs 5).toInt64) &&& 4294967295))) (n_cut (xs 3) ((((xs 6).toInt64) <<< ((32 : Int32).toInt64 &&& 63)) ||| (((xs 7).toInt64) &&& 4294967295)))))]) rfl ?_
        refine lv_lload hx hb dL_law_1622 (lv_at hl 0 rfl) ?_
        refine W.lcmp hx hb dL_law_1624 ?_
        refine lv_if_eq (tgt := 1630) hx hb dL_law_1625 (by decide) (fun c_100785 => ?_) (fun c_100785 => ?_)
        · skip
          refine lv_goto (tgt := 1804) hx hb dL_law_1630 (by decide) ?_
          exact lk_tail hC hA2 (lv_sub hl [2, 6] rfl) hS (Nat.le_of_ble_eq_true rfl) (Nat.le_of_ble_eq_true rfl)
        · exact absurd ((lg_cmp_eq _ _).mpr (qx_w0 c_131 c_100285 c_127 c_128 c_136 c_129 c_130 (fun _ => c_138) (fun q => q.1.elim (fun z => absurd (c_100297.symm.trans z) (by decide)) (fun z => absurd (c_100297.symm.trans z) (by decide))) (by rw [c_100297]; decide))) c_100785
    · exact absurd (by decide) c_100783
  · exact absurd hz.2.2.2.2.2.2.2.2.2.2.2.2.2.2.2.2.2.2.1 c_138
  · exact absurd hz.2.2.2.2.2.2.2.2.2.2.2.2.2.2.2.1 c_136
  · obtain ⟨c_100344, c_100345, c_100346, c_100347, c_100348, c_100349, c_100350, c_100351, c_100352, c_100353, c_100354, c_100355, c_100356, c_100357, c_100358, c_100359, c_100360, c_100361, w_100362, w_100363⟩ := hz
    subst w_100362
    subst w_100363
    obtain ⟨hP, hD⟩ := va_join (wr := [(h0, .inr (10, [.ref x0, .int 0, .ref x1, .ref x2, .ref x3, .ref x4, .ref x5, .ref x6, .ref x7, .ref x8, .int 0, .int 3000])), (o0, .inl (kA 1, 1, .inr (.inl (vp_updL (fun _ => 0) 0 (n_cut (xs 2) (n_combine (xs 1) 0 (n_cut (xs 2) ((((xs 4).toInt64) <<< ((32 : Int32).toInt64 &&& 63)) ||| (((xs 5).toInt64) &&& 4294967295))) (n_cut (xs 3) ((((xs 6).toInt64) <<< ((32 : Int32).toInt64 &&& 63)) ||| (((xs 7).toInt64) &&& 4294967295)))))))))]) (w1 := [(m0, .inr (11, y0.set 9 (.int 0)))]) hP hD [0] [1, 2] rfl rfl (by decide) (by decide) hk1 hFc hP1 hD1
    generalize H1 = H at hP hS ⊢
    have hP : va_P D vwCl [(h0, .inr (10, [.ref x0, .int 0, .ref x1, .ref x2, .ref x3, .ref x4, .ref x5, .ref x6, .ref x7, .ref x8, .int 0, .int 3000])), (o0, .inl (kA 1, 1, .inr (.inl (vp_updL (fun _ => 0) 0 (n_cut (xs 2) (n_combine (xs 1) 0 (n_cut (xs 2) ((((xs 4).toInt64) <<< ((32 : Int32).toInt64 &&& 63)) ||| (((xs 5).toInt64) &&& 4294967295))) (n_cut (xs 3) ((((xs 6).toInt64) <<< ((32 : Int32).toInt64 &&& 63)) ||| (((xs 7).toInt64) &&& 4294967295))))))))), (m0, .inr (11, y0.set 9 (.int 0)))] H := hP
    have hD : va_D A [(h0, .inr (10, [.ref x0, .int 0, .ref x1, .ref x2, .ref x3, .ref x4, .ref x5, .ref x6, .ref x7, .ref x8, .int 0, .int 3000])), (o0, .inl (kA 1, 1, .inr (.inl (vp_updL (fun _ => 0) 0 (n_cut (xs 2) (n_combine (xs 1) 0 (n_cut (xs 2) ((((xs 4).toInt64) <<< ((32 : Int32).toInt64 &&& 63)) ||| (((xs 5).toInt64) &&& 4294967295))) (n_cut (xs 3) ((((xs 6).toInt64) <<< ((32 : Int32).toInt64 &&& 63)) ||| (((xs 7).toInt64) &&& 4294967295))))))))), (m0, .inr (11, y0.set 9 (.int 0)))] := hD
    refine lv_lstore (lv' := [(6, .long (n_cut (xs 2) (r_two 235 0 (n_cut (xs 2) ((((xs 4).toInt64) <<< ((32 : Int32).toInt64 &&& 63)) ||| (((xs 5).toInt64) &&& 4294967295))) (n_cut (xs 3) ((((xs 6).toInt64) <<< ((32 : Int32).toInt64 &&& 63)) ||| (((xs 7).toInt64) &&& 4294967295)))))), (5, .int 0), (0, .ref b), (1, .ref h0), (2, .ref m0), (3, .ref o0), (4, .int 0)]) hx hb dL_law_1601 hl (by decide) rfl (fun ls hl => ?_)
    refine lv_aload_n hx hb dL_law_1603 rfl (lv_at hl 4 rfl) ?_
    have hPc := hP.sub (ws' := [(m0, .inr (11, y0.set 9 (.int 0)))]) [2] rfl
    have hDc := hD.sub (ws' := [(m0, .inr (11, y0.set 9 (.int 0)))]) [2] (by decide) rfl
    have hFc := va_free (wc := [(m0, .inr (11, y0.set 9 (.int 0)))]) hD hS hA [2] rfl
    refine va_calli (va_runV (As := []) (rest := []) ⟨hx, hb, hml, hown, hts⟩ (a94_X12_thrown l  D kA V H.size m0 (y0.set 9 (.int 0)) (fun k hk => (by rw [List.length_set]; exact (hq k hk))) (List.getElem?_set_self (hq 9 (by decide)))) (cwV 0 hts (gw_V gw_1879 gw_1880 gw_1881 gw_16 gw_1882) rfl rfl rfl (by decide +kernel) ⟨(Nat.le_of_ble_eq_true rfl), (Nat.le_of_ble_eq_true rfl)⟩) ⟨aP.blind, va_recv hK hP (ci := 11) (q0 := 2) rfl rfl, aP.pre hE hS hPc hK hDc hFc⟩ rfl rfl hl.1 rfl (lv_room (Nat.le_of_ble_eq_true rfl)) dL_law_1604 ⟨(Nat.le_of_ble_eq_true rfl), (Nat.le_of_ble_eq_true rfl)⟩) hS (fun q _ h => hFc q h) hFc (fun r_100786 u t H1 locs ht hvm hw hB hz1 hk1 hS => ?_)
    obtain ⟨hP1, hD1⟩ := hB
    rw [ht] at hP1
    try dsimp only at hw hP1 hD1
    have w_100787 := hw
    subst w_100787
    obtain ⟨hP, hD⟩ := va_join (wr := [(h0, .inr (10, [.ref x0, .int 0, .ref x1, .ref x2, .ref x3, .ref x4, .ref x5, .ref x6, .ref x7, .ref x8, .int 0, .int 3000])), (o0, .inl (kA 1, 1, .inr (.inl (vp_updL (fun _ => 0) 0 (n_cut (xs 2) (n_combine (xs 1) 0 (n_cut (xs 2) ((((xs 4).toInt64) <<< ((32 : Int32).toInt64 &&& 63)) ||| (((xs 5).toInt64) &&& 4294967295))) (n_cut (xs 3) ((((xs 6).toInt64) <<< ((32 : Int32).toInt64 &&& 63)) ||| (((xs 7).toInt64) &&& 4294967295)))))))))]) (w1 := [(m0, .inr (11, (y0.set 9 (.int 0))))]) hP hD [2] [0, 1] rfl rfl (by decide) (by decide) hk1 hFc hP1 hD1
    generalize H1 = H at hP hS ⊢
    have hP : va_P D vwCl [(h0, .inr (10, [.ref x0, .int 0, .ref x1, .ref x2, .ref x3, .ref x4, .ref x5, .ref x6, .ref x7, .ref x8, .int 0, .int 3000])), (o0, .inl (kA 1, 1, .inr (.inl (vp_updL (fun _ => 0) 0 (n_cut (xs 2) (n_combine (xs 1) 0 (n_cut (xs 2) ((((xs 4).toInt64) <<< ((32 : Int32).toInt64 &&& 63)) ||| (((xs 5).toInt64) &&& 4294967295))) (n_cut (xs 3) ((((xs 6).toInt64) <<< ((32 : Int32).toInt64 &&& 63)) ||| (((xs 7).toInt64) &&& 4294967295))))))))), (m0, .inr (11, (y0.set 9 (.int 0))))] H := hP
    have hD : va_D A [(h0, .inr (10, [.ref x0, .int 0, .ref x1, .ref x2, .ref x3, .ref x4, .ref x5, .ref x6, .ref x7, .ref x8, .int 0, .int 3000])), (o0, .inl (kA 1, 1, .inr (.inl (vp_updL (fun _ => 0) 0 (n_cut (xs 2) (n_combine (xs 1) 0 (n_cut (xs 2) ((((xs 4).toInt64) <<< ((32 : Int32).toInt64 &&& 63)) ||| (((xs 5).toInt64) &&& 4294967295))) (n_cut (xs 3) ((((xs 6).toInt64) <<< ((32 : Int32).toInt64 &&& 63)) ||| (((xs 7).toInt64) &&& 4294967295))))))))), (m0, .inr (11, (y0.set 9 (.int 0))))] := hD
    refine lv_iload hx hb dL_law_1607 (lv_at hl 1 rfl) ?_
    refine lv_icmp_eq (tgt := 1614) hx hb dL_law_1609 (by decide) (fun c_100788 => ?_) (fun c_100788 => ?_)
    · skip
      refine lv_iload hx hb dL_law_1614 (lv_at hl 1 rfl) ?_
      refine lv_if_ne (tgt := 1630) hx hb dL_law_1616 (by decide) (fun c_100789 => ?_) (fun c_100789 => ?_)
      · exact absurd (by decide) c_100789
      · skip
        refine lv_aload_n hx hb dL_law_1619 rfl (lv_at hl 5 rfl) ?_
        refine lv_iconst (v := 0) hx hb dL_law_1620 (by decide) ?_
        refine va_lald hx hb hK hP 1 1 rfl rfl (show vp_in 0 1 by unfold vp_in; decide) dL_law_1621 ?_
        refine W.eq (g2 := F0 m 1622 ls [.long (n_cut (xs 2) (n_combine (xs 1) 0 (n_cut (xs 2) ((((xs 4).toInt64) <<< ((32 : Int32).toInt64 &&& 63)) ||| (((xs 5).toInt64) &&& 4294967295))) (n_cut (xs 3) ((((xs 6).toInt64) <<< ((32 : Int32).toInt64 &&& 63)) ||| (((xs 7).toInt64) &&& 4294967295)))))]) rfl ?_
        refine lv_lload hx hb dL_law_1622 (lv_at hl 0 rfl) ?_
        refine W.lcmp hx hb dL_law_1624 ?_
        refine lv_if_eq (tgt := 1630) hx hb dL_law_1625 (by decide) (fun c_100790 => ?_) (fun c_100790 => ?_)
        · skip
          refine lv_goto (tgt := 1804) hx hb dL_law_1630 (by decide) ?_
          exact lk_tail hC hA2 (lv_sub hl [2, 6] rfl) hS (Nat.le_of_ble_eq_true rfl) (Nat.le_of_ble_eq_true rfl)
        · exact absurd ((lg_cmp_eq _ _).mpr (qx_w0 c_131 c_100345 c_127 c_128 c_136 c_129 c_130 (fun _ => c_138) (fun q => q.1.elim (fun z => absurd (c_100356.symm.trans z) (by decide)) (fun z => absurd (c_100356.symm.trans z) (by decide))) (by rw [c_100356]; decide))) c_100790
    · exact absurd (by decide) c_100788
  · exact absurd hz.2.2.2.2.2.2.2.2.2.2.2.2.2.2.2.2.2.1 c_138
  · exact absurd hz.2.2.2.2.2.2.2.2.2.2.2.2.2.2.1 c_136
  · obtain ⟨c_100401, c_100402, c_100403, c_100404, c_100405, c_100406, c_100407, c_100408, c_100409, c_100410, c_100411, c_100412, c_100413, c_100414, c_100415, c_100416, c_100417, w_100418, w_100419⟩ := hz
    subst w_100418
    subst w_100419
    obtain ⟨hP, hD⟩ := va_join (wr := [(h0, .inr (10, [.ref x0, .int 0, .ref x1, .ref x2, .ref x3, .ref x4, .ref x5, .ref x6, .ref x7, .ref x8, .int 0, .int 3000])), (o0, .inl (kA 1, 1, .inr (.inl (vp_updL (fun _ => 0) 0 (n_cut (xs 2) (n_combine (xs 1) 0 (n_cut (xs 2) ((((xs 4).toInt64) <<< ((32 : Int32).toInt64 &&& 63)) ||| (((xs 5).toInt64) &&& 4294967295))) (n_cut (xs 3) ((((xs 6).toInt64) <<< ((32 : Int32).toInt64 &&& 63)) ||| (((xs 7).toInt64) &&& 4294967295)))))))))]) (w1 := [(m0, .inr (11, y0.set 9 (.int 0)))]) hP hD [0] [1, 2] rfl rfl (by decide) (by decide) hk1 hFc hP1 hD1
    generalize H1 = H at hP hS ⊢
    have hP : va_P D vwCl [(h0, .inr (10, [.ref x0, .int 0, .ref x1, .ref x2, .ref x3, .ref x4, .ref x5, .ref x6, .ref x7, .ref x8, .int 0, .int 3000])), (o0, .inl (kA 1, 1, .inr (.inl (vp_updL (fun _ => 0) 0 (n_cut (xs 2) (n_combine (xs 1) 0 (n_cut (xs 2) ((((xs 4).toInt64) <<< ((32 : Int32).toInt64 &&& 63)) ||| (((xs 5).toInt64) &&& 4294967295))) (n_cut (xs 3) ((((xs 6).toInt64) <<< ((32 : Int32).toInt64 &&& 63)) ||| (((xs 7).toInt64) &&& 4294967295))))))))), (m0, .inr (11, y0.set 9 (.int 0)))] H := hP
    have hD : va_D A [(h0, .inr (10, [.ref x0, .int 0, .ref x1, .ref x2, .ref x3, .ref x4, .ref x5, .ref x6, .ref x7, .ref x8, .int 0, .int 3000])), (o0, .inl (kA 1, 1, .inr (.inl (vp_updL (fun _ => 0) 0 (n_cut (xs 2) (n_combine (xs 1) 0 (n_cut (xs 2) ((((xs 4).toInt64) <<< ((32 : Int32).toInt64 &&& 63)) ||| (((xs 5).toInt64) &&& 4294967295))) (n_cut (xs 3) ((((xs 6).toInt64) <<< ((32 : Int32).toInt64 &&& 63)) ||| (((xs 7).toInt64) &&& 4294967295))))))))), (m0, .inr (11, y0.set 9 (.int 0)))] := hD
    refine lv_lstore (lv' := [(6, .long (n_cut (xs 2) (r_two 237 0 (n_cut (xs 2) ((((xs 4).toInt64) <<< ((32 : Int32).toInt64 &&& 63)) ||| (((xs 5).toInt64) &&& 4294967295))) (n_cut (xs 3) ((((xs 6).toInt64) <<< ((32 : Int32).toInt64 &&& 63)) ||| (((xs 7).toInt64) &&& 4294967295)))))), (5, .int 0), (0, .ref b), (1, .ref h0), (2, .ref m0), (3, .ref o0), (4, .int 0)]) hx hb dL_law_1601 hl (by decide) rfl (fun ls hl => ?_)
    refine lv_aload_n hx hb dL_law_1603 rfl (lv_at hl 4 rfl) ?_
    have hPc := hP.sub (ws' := [(m0, .inr (11, y0.set 9 (.int 0)))]) [2] rfl
    have hDc := hD.sub (ws' := [(m0, .inr (11, y0.set 9 (.int 0)))]) [2] (by decide) rfl
    have hFc := va_free (wc := [(m0, .inr (11, y0.set 9 (.int 0)))]) hD hS hA [2] rfl
    refine va_calli (va_runV (As := []) (rest := []) ⟨hx, hb, hml, hown, hts⟩ (a94_X12_thrown l  D kA V H.size m0 (y0.set 9 (.int 0)) (fun k hk => (by rw [List.length_set]; exact (hq k hk))) (List.getElem?_set_self (hq 9 (by decide)))) (cwV 0 hts (gw_V gw_1879 gw_1880 gw_1881 gw_16 gw_1882) rfl rfl rfl (by decide +kernel) ⟨(Nat.le_of_ble_eq_true rfl), (Nat.le_of_ble_eq_true rfl)⟩) ⟨aP.blind, va_recv hK hP (ci := 11) (q0 := 2) rfl rfl, aP.pre hE hS hPc hK hDc hFc⟩ rfl rfl hl.1 rfl (lv_room (Nat.le_of_ble_eq_true rfl)) dL_law_1604 ⟨(Nat.le_of_ble_eq_true rfl), (Nat.le_of_ble_eq_true rfl)⟩) hS (fun q _ h => hFc q h) hFc (fun r_100791 u t H1 locs ht hvm hw hB hz1 hk1 hS => ?_)
    obtain ⟨hP1, hD1⟩ := hB
    rw [ht] at hP1
    try dsimp only at hw hP1 hD1
    have w_100792 := hw
    subst w_100792
    obtain ⟨hP, hD⟩ := va_join (wr := [(h0, .inr (10, [.ref x0, .int 0, .ref x1, .ref x2, .ref x3, .ref x4, .ref x5, .ref x6, .ref x7, .ref x8, .int 0, .int 3000])), (o0, .inl (kA 1, 1, .inr (.inl (vp_updL (fun _ => 0) 0 (n_cut (xs 2) (n_combine (xs 1) 0 (n_cut (xs 2) ((((xs 4).toInt64) <<< ((32 : Int32).toInt64 &&& 63)) ||| (((xs 5).toInt64) &&& 4294967295))) (n_cut (xs 3) ((((xs 6).toInt64) <<< ((32 : Int32).toInt64 &&& 63)) ||| (((xs 7).toInt64) &&& 4294967295)))))))))]) (w1 := [(m0, .inr (11, (y0.set 9 (.int 0))))]) hP hD [2] [0, 1] rfl rfl (by decide) (by decide) hk1 hFc hP1 hD1
    generalize H1 = H at hP hS ⊢
    have hP : va_P D vwCl [(h0, .inr (10, [.ref x0, .int 0, .ref x1, .ref x2, .ref x3, .ref x4, .ref x5, .ref x6, .ref x7, .ref x8, .int 0, .int 3000])), (o0, .inl (kA 1, 1, .inr (.inl (vp_updL (fun _ => 0) 0 (n_cut (xs 2) (n_combine (xs 1) 0 (n_cut (xs 2) ((((xs 4).toInt64) <<< ((32 : Int32).toInt64 &&& 63)) ||| (((xs 5).toInt64) &&& 4294967295))) (n_cut (xs 3) ((((xs 6).toInt64) <<< ((32 : Int32).toInt64 &&& 63)) ||| (((xs 7).toInt64) &&& 4294967295))))))))), (m0, .inr (11, (y0.set 9 (.int 0))))] H := hP
    have hD : va_D A [(h0, .inr (10, [.ref x0, .int 0, .ref x1, .ref x2, .ref x3, .ref x4, .ref x5, .ref x6, .ref x7, .ref x8, .int 0, .int 3000])), (o0, .inl (kA 1, 1, .inr (.inl (vp_updL (fun _ => 0) 0 (n_cut (xs 2) (n_combine (xs 1) 0 (n_cut (xs 2) ((((xs 4).toInt64) <<< ((32 : Int32).toInt64 &&& 63)) ||| (((xs 5).toInt64) &&& 4294967295))) (n_cut (xs 3) ((((xs 6).toInt64) <<< ((32 : Int32).toInt64 &&& 63)) ||| (((xs 7).toInt64) &&& 4294967295))))))))), (m0, .inr (11, (y0.set 9 (.int 0))))] := hD
    refine lv_iload hx hb dL_law_1607 (lv_at hl 1 rfl) ?_
    refine lv_icmp_eq (tgt := 1614) hx hb dL_law_1609 (by decide) (fun c_100793 => ?_) (fun c_100793 => ?_)
    · skip
      refine lv_iload hx hb dL_law_1614 (lv_at hl 1 rfl) ?_
      refine lv_if_ne (tgt := 1630) hx hb dL_law_1616 (by decide) (fun c_100794 => ?_) (fun c_100794 => ?_)
      · exact absurd (by decide) c_100794
      · skip
        refine lv_aload_n hx hb dL_law_1619 rfl (lv_at hl 5 rfl) ?_
        refine lv_iconst (v := 0) hx hb dL_law_1620 (by decide) ?_
        refine va_lald hx hb hK hP 1 1 rfl rfl (show vp_in 0 1 by unfold vp_in; decide) dL_law_1621 ?_
        refine W.eq (g2 := F0 m 1622 ls [.long (n_cut (xs 2) (n_combine (xs 1) 0 (n_cut (xs 2) ((((xs 4).toInt64) <<< ((32 : Int32).toInt64 &&& 63)) ||| (((xs 5).toInt64) &&& 4294967295))) (n_cut (xs 3) ((((xs 6).toInt64) <<< ((32 : Int32).toInt64 &&& 63)) ||| (((xs 7).toInt64) &&& 4294967295)))))]) rfl ?_
        refine lv_lload hx hb dL_law_1622 (lv_at hl 0 rfl) ?_
        refine W.lcmp hx hb dL_law_1624 ?_
        refine lv_if_eq (tgt := 1630) hx hb dL_law_1625 (by decide) (fun c_100795 => ?_) (fun c_100795 => ?_)
        · skip
          refine lv_goto (tgt := 1804) hx hb dL_law_1630 (by decide) ?_
          exact lk_tail hC hA2 (lv_sub hl [2, 6] rfl) hS (Nat.le_of_ble_eq_true rfl) (Nat.le_of_ble_eq_true rfl)
        · exact absurd ((lg_cmp_eq _ _).mpr (qx_w0 c_131 c_100402 c_127 c_128 c_136 c_129 c_130 (fun _ => c_138) (fun q => q.1.elim (fun z => absurd (c_100412.symm.trans z) (by decide)) (fun z => absurd (c_100412.symm.trans z) (by decide))) (by rw [c_100412]; decide))) c_100795
    · exact absurd (by decide) c_100793
  · exact absurd hz.2.2.2.2.2.2.2.2.2.2.2.2.2.2.2.2.1 c_138
  · exact absurd hz.2.2.2.2.2.2.2.2.2.2.1 c_135
  · exact absurd hz.2.2.2.2.2.2.2.2.2.2.1 c_135
  · exact absurd hz.2.2.2.2.2.2.2.2.2.2.1 c_135
  · exact absurd hz.2.2.2.2.2.2.2.2.2.2.1 c_135
  · exact absurd hz.2.2.2.2.2.2.2.2.2.2.1 c_135
  · exact absurd hz.2.2.2.2.2.2.2.2.2.2.1 c_135
  · exact absurd hz.2.2.2.2.2.2.2.2.2.1 c_134
  · exact absurd hz.2.2.2.2.2.2.2.2.2.1 c_134
  · exact absurd hz.2.2.2.2.2.2.2.2.2.1 c_134
  · exact absurd hz.2.2.2.2.2.2.2.2.2.1 c_134
  · exact absurd hz.2.2.2.2.2.2.2.2.2.1 c_134
  · exact absurd hz.2.2.2.2.2.2.2.2.2.1 c_134
  · exact absurd hz.2.2.2.2.2.2.2.2.2.2.2.1 c_136
  · obtain ⟨c_100661, c_100662, c_100663, c_100664, c_100665, c_100666, c_100667, c_100668, c_100669, c_100670, c_100671, c_100672, c_100673, c_100674, w_100675, w_100676⟩ := hz
    subst w_100675
    subst w_100676
    obtain ⟨hP, hD⟩ := va_join (wr := [(h0, .inr (10, [.ref x0, .int 0, .ref x1, .ref x2, .ref x3, .ref x4, .ref x5, .ref x6, .ref x7, .ref x8, .int 0, .int 3000])), (o0, .inl (kA 1, 1, .inr (.inl (vp_updL (fun _ => 0) 0 (n_cut (xs 2) (n_combine (xs 1) 0 (n_cut (xs 2) ((((xs 4).toInt64) <<< ((32 : Int32).toInt64 &&& 63)) ||| (((xs 5).toInt64) &&& 4294967295))) (n_cut (xs 3) ((((xs 6).toInt64) <<< ((32 : Int32).toInt64 &&& 63)) ||| (((xs 7).toInt64) &&& 4294967295)))))))))]) (w1 := [(m0, .inr (11, y0.set 9 (.int 0)))]) hP hD [0] [1, 2] rfl rfl (by decide) (by decide) hk1 hFc hP1 hD1
    generalize H1 = H at hP hS ⊢
    have hP : va_P D vwCl [(h0, .inr (10, [.ref x0, .int 0, .ref x1, .ref x2, .ref x3, .ref x4, .ref x5, .ref x6, .ref x7, .ref x8, .int 0, .int 3000])), (o0, .inl (kA 1, 1, .inr (.inl (vp_updL (fun _ => 0) 0 (n_cut (xs 2) (n_combine (xs 1) 0 (n_cut (xs 2) ((((xs 4).toInt64) <<< ((32 : Int32).toInt64 &&& 63)) ||| (((xs 5).toInt64) &&& 4294967295))) (n_cut (xs 3) ((((xs 6).toInt64) <<< ((32 : Int32).toInt64 &&& 63)) ||| (((xs 7).toInt64) &&& 4294967295))))))))), (m0, .inr (11, y0.set 9 (.int 0)))] H := hP
    have hD : va_D A [(h0, .inr (10, [.ref x0, .int 0, .ref x1, .ref x2, .ref x3, .ref x4, .ref x5, .ref x6, .ref x7, .ref x8, .int 0, .int 3000])), (o0, .inl (kA 1, 1, .inr (.inl (vp_updL (fun _ => 0) 0 (n_cut (xs 2) (n_combine (xs 1) 0 (n_cut (xs 2) ((((xs 4).toInt64) <<< ((32 : Int32).toInt64 &&& 63)) ||| (((xs 5).toInt64) &&& 4294967295))) (n_cut (xs 3) ((((xs 6).toInt64) <<< ((32 : Int32).toInt64 &&& 63)) ||| (((xs 7).toInt64) &&& 4294967295))))))))), (m0, .inr (11, y0.set 9 (.int 0)))] := hD
    refine lv_lstore (lv' := [(6, .long (n_cut (xs 2) (r_two 242 0 (n_cut (xs 2) ((((xs 4).toInt64) <<< ((32 : Int32).toInt64 &&& 63)) ||| (((xs 5).toInt64) &&& 4294967295))) (n_cut (xs 3) ((((xs 6).toInt64) <<< ((32 : Int32).toInt64 &&& 63)) ||| (((xs 7).toInt64) &&& 4294967295)))))), (5, .int 0), (0, .ref b), (1, .ref h0), (2, .ref m0), (3, .ref o0), (4, .int 0)]) hx hb dL_law_1601 hl (by decide) rfl (fun ls hl => ?_)
    refine lv_aload_n hx hb dL_law_1603 rfl (lv_at hl 4 rfl) ?_
    have hPc := hP.sub (ws' := [(m0, .inr (11, y0.set 9 (.int 0)))]) [2] rfl
    have hDc := hD.sub (ws' := [(m0, .inr (11, y0.set 9 (.int 0)))]) [2] (by decide) rfl
    have hFc := va_free (wc := [(m0, .inr (11, y0.set 9 (.int 0)))]) hD hS hA [2] rfl
    refine va_calli (va_runV (As := []) (rest := []) ⟨hx, hb, hml, hown, hts⟩ (a94_X12_thrown l  D kA V H.size m0 (y0.set 9 (.int 0)) (fun k hk => (by rw [List.length_set]; exact (hq k hk))) (List.getElem?_set_self (hq 9 (by decide)))) (cwV 0 hts (gw_V gw_1879 gw_1880 gw_1881 gw_16 gw_1882) rfl rfl rfl (by decide +kernel) ⟨(Nat.le_of_ble_eq_true rfl), (Nat.le_of_ble_eq_true rfl)⟩) ⟨aP.blind, va_recv hK hP (ci := 11) (q0 := 2) rfl rfl, aP.pre hE hS hPc hK hDc hFc⟩ rfl rfl hl.1 rfl (lv_room (Nat.le_of_ble_eq_true rfl)) dL_law_1604 ⟨(Nat.le_of_ble_eq_true rfl), (Nat.le_of_ble_eq_true rfl)⟩) hS (fun q _ h => hFc q h) hFc (fun r_100796 u t H1 locs ht hvm hw hB hz1 hk1 hS => ?_)
    obtain ⟨hP1, hD1⟩ := hB
    rw [ht] at hP1
    try dsimp only at hw hP1 hD1
    have w_100797 := hw
    subst w_100797
    obtain ⟨hP, hD⟩ := va_join (wr := [(h0, .inr (10, [.ref x0, .int 0, .ref x1, .ref x2, .ref x3, .ref x4, .ref x5, .ref x6, .ref x7, .ref x8, .int 0, .int 3000])), (o0, .inl (kA 1, 1, .inr (.inl (vp_updL (fun _ => 0) 0 (n_cut (xs 2) (n_combine (xs 1) 0 (n_cut (xs 2) ((((xs 4).toInt64) <<< ((32 : Int32).toInt64 &&& 63)) ||| (((xs 5).toInt64) &&& 4294967295))) (n_cut (xs 3) ((((xs 6).toInt64) <<< ((32 : Int32).toInt64 &&& 63)) ||| (((xs 7).toInt64) &&& 4294967295)))))))))]) (w1 := [(m0, .inr (11, (y0.set 9 (.int 0))))]) hP hD [2] [0, 1] rfl rfl (by decide) (by decide) hk1 hFc hP1 hD1
    generalize H1 = H at hP hS ⊢
    have hP : va_P D vwCl [(h0, .inr (10, [.ref x0, .int 0, .ref x1, .ref x2, .ref x3, .ref x4, .ref x5, .ref x6, .ref x7, .ref x8, .int 0, .int 3000])), (o0, .inl (kA 1, 1, .inr (.inl (vp_updL (fun _ => 0) 0 (n_cut (xs 2) (n_combine (xs 1) 0 (n_cut (xs 2) ((((xs 4).toInt64) <<< ((32 : Int32).toInt64 &&& 63)) ||| (((xs 5).toInt64) &&& 4294967295))) (n_cut (xs 3) ((((xs 6).toInt64) <<< ((32 : Int32).toInt64 &&& 63)) ||| (((xs 7).toInt64) &&& 4294967295))))))))), (m0, .inr (11, (y0.set 9 (.int 0))))] H := hP
    have hD : va_D A [(h0, .inr (10, [.ref x0, .int 0, .ref x1, .ref x2, .ref x3, .ref x4, .ref x5, .ref x6, .ref x7, .ref x8, .int 0, .int 3000])), (o0, .inl (kA 1, 1, .inr (.inl (vp_updL (fun _ => 0) 0 (n_cut (xs 2) (n_combine (xs 1) 0 (n_cut (xs 2) ((((xs 4).toInt64) <<< ((32 : Int32).toInt64 &&& 63)) ||| (((xs 5).toInt64) &&& 4294967295))) (n_cut (xs 3) ((((xs 6).toInt64) <<< ((32 : Int32).toInt64 &&& 63)) ||| (((xs 7).toInt64) &&& 4294967295))))))))), (m0, .inr (11, (y0.set 9 (.int 0))))] := hD
    refine lv_iload hx hb dL_law_1607 (lv_at hl 1 rfl) ?_
    refine lv_icmp_eq (tgt := 1614) hx hb dL_law_1609 (by decide) (fun c_100798 => ?_) (fun c_100798 => ?_)
    · skip
      refine lv_iload hx hb dL_law_1614 (lv_at hl 1 rfl) ?_
      refine lv_if_ne (tgt := 1630) hx hb dL_law_1616 (by decide) (fun c_100799 => ?_) (fun c_100799 => ?_)
      · exact absurd (by decide) c_100799
      · skip
        refine lv_aload_n hx hb dL_law_1619 rfl (lv_at hl 5 rfl) ?_
        refine lv_iconst (v := 0) hx hb dL_law_1620 (by decide) ?_
        refine va_lald hx hb hK hP 1 1 rfl rfl (show vp_in 0 1 by unfold vp_in; decide) dL_law_1621 ?_
        refine W.eq (g2 := F0 m 1622 ls [.long (n_cut (xs 2) (n_combine (xs 1) 0 (n_cut (xs 2) ((((xs 4).toInt64) <<< ((32 : Int32).toInt64 &&& 63)) ||| (((xs 5).toInt64) &&& 4294967295))) (n_cut (xs 3) ((((xs 6).toInt64) <<< ((32 : Int32).toInt64 &&& 63)) ||| (((xs 7).toInt64) &&& 4294967295)))))]) rfl ?_
        refine lv_lload hx hb dL_law_1622 (lv_at hl 0 rfl) ?_
        refine W.lcmp hx hb dL_law_1624 ?_
        refine lv_if_eq (tgt := 1630) hx hb dL_law_1625 (by decide) (fun c_100800 => ?_) (fun c_100800 => ?_)
        · skip
          refine lv_goto (tgt := 1804) hx hb dL_law_1630 (by decide) ?_
          exact lk_tail hC hA2 (lv_sub hl [2, 6] rfl) hS (Nat.le_of_ble_eq_true rfl) (Nat.le_of_ble_eq_true rfl)
        · exact absurd ((lg_cmp_eq _ _).mpr (qx_w0 c_131 c_100662 c_127 c_128 c_136 c_129 c_130 (fun _ => c_138) (fun q => q.1.elim (fun z => absurd (c_100669.symm.trans z) (by decide)) (fun z => absurd (c_100669.symm.trans z) (by decide))) (by rw [c_100669]; decide))) c_100800
    · exact absurd (by decide) c_100798
  · exact absurd hz.2.2.2.2.2.2.2.2.2.2.2.2.2.1 c_138
  · exact absurd hz.2.2.2.2.2.2.2.2.2.2.1 c_136
  · obtain ⟨c_100706, c_100707, c_100708, c_100709, c_100710, c_100711, c_100712, c_100713, c_100714, c_100715, c_100716, c_100717, c_100718, w_100719, w_100720⟩ := hz
    subst w_100719
    subst w_100720
    obtain ⟨hP, hD⟩ := va_join (wr := [(h0, .inr (10, [.ref x0, .int 0, .ref x1, .ref x2, .ref x3, .ref x4, .ref x5, .ref x6, .ref x7, .ref x8, .int 0, .int 3000])), (o0, .inl (kA 1, 1, .inr (.inl (vp_updL (fun _ => 0) 0 (n_cut (xs 2) (n_combine (xs 1) 0 (n_cut (xs 2) ((((xs 4).toInt64) <<< ((32 : Int32).toInt64 &&& 63)) ||| (((xs 5).toInt64) &&& 4294967295))) (n_cut (xs 3) ((((xs 6).toInt64) <<< ((32 : Int32).toInt64 &&& 63)) ||| (((xs 7).toInt64) &&& 4294967295)))))))))]) (w1 := [(m0, .inr (11, y0.set 9 (.int 0)))]) hP hD [0] [1, 2] rfl rfl (by decide) (by decide) hk1 hFc hP1 hD1
    generalize H1 = H at hP hS ⊢
    have hP : va_P D vwCl [(h0, .inr (10, [.ref x0, .int 0, .ref x1, .ref x2, .ref x3, .ref x4, .ref x5, .ref x6, .ref x7, .ref x8, .int 0, .int 3000])), (o0, .inl (kA 1, 1, .inr (.inl (vp_updL (fun _ => 0) 0 (n_cut (xs 2) (n_combine (xs 1) 0 (n_cut (xs 2) ((((xs 4).toInt64) <<< ((32 : Int32).toInt64 &&& 63)) ||| (((xs 5).toInt64) &&& 4294967295))) (n_cut (xs 3) ((((xs 6).toInt64) <<< ((32 : Int32).toInt64 &&& 63)) ||| (((xs 7).toInt64) &&& 4294967295))))))))), (m0, .inr (11, y0.set 9 (.int 0)))] H := hP
    have hD : va_D A [(h0, .inr (10, [.ref x0, .int 0, .ref x1, .ref x2, .ref x3, .ref x4, .ref x5, .ref x6, .ref x7, .ref x8, .int 0, .int 3000])), (o0, .inl (kA 1, 1, .inr (.inl (vp_updL (fun _ => 0) 0 (n_cut (xs 2) (n_combine (xs 1) 0 (n_cut (xs 2) ((((xs 4).toInt64) <<< ((32 : Int32).toInt64 &&& 63)) ||| (((xs 5).toInt64) &&& 4294967295))) (n_cut (xs 3) ((((xs 6).toInt64) <<< ((32 : Int32).toInt64 &&& 63)) ||| (((xs 7).toInt64) &&& 4294967295))))))))), (m0, .inr (11, y0.set 9 (.int 0)))] := hD
    refine lv_lstore (lv' := [(6, .long (n_cut (xs 2) (r_two 241 0 (n_cut (xs 2) ((((xs 4).toInt64) <<< ((32 : Int32).toInt64 &&& 63)) ||| (((xs 5).toInt64) &&& 4294967295))) (n_cut (xs 3) ((((xs 6).toInt64) <<< ((32 : Int32).toInt64 &&& 63)) ||| (((xs 7).toInt64) &&& 4294967295)))))), (5, .int 0), (0, .ref b), (1, .ref h0), (2, .ref m0), (3, .ref o0), (4, .int 0)]) hx hb dL_law_1601 hl (by decide) rfl (fun ls hl => ?_)
    refine lv_aload_n hx hb dL_law_1603 rfl (lv_at hl 4 rfl) ?_
    have hPc := hP.sub (ws' := [(m0, .inr (11, y0.set 9 (.int 0)))]) [2] rfl
    have hDc := hD.sub (ws' := [(m0, .inr (11, y0.set 9 (.int 0)))]) [2] (by decide) rfl
    have hFc := va_free (wc := [(m0, .inr (11, y0.set 9 (.int 0)))]) hD hS hA [2] rfl
    refine va_calli (va_runV (As := []) (rest := []) ⟨hx, hb, hml, hown, hts⟩ (a94_X12_thrown l  D kA V H.size m0 (y0.set 9 (.int 0)) (fun k hk => (by rw [List.length_set]; exact (hq k hk))) (List.getElem?_set_self (hq 9 (by decide)))) (cwV 0 hts (gw_V gw_1879 gw_1880 gw_1881 gw_16 gw_1882) rfl rfl rfl (by decide +kernel) ⟨(Nat.le_of_ble_eq_true rfl), (Nat.le_of_ble_eq_true rfl)⟩) ⟨aP.blind, va_recv hK hP (ci := 11) (q0 := 2) rfl rfl, aP.pre hE hS hPc hK hDc hFc⟩ rfl rfl hl.1 rfl (lv_room (Nat.le_of_ble_eq_true rfl)) dL_law_1604 ⟨(Nat.le_of_ble_eq_true rfl), (Nat.le_of_ble_eq_true rfl)⟩) hS (fun q _ h => hFc q h) hFc (fun r_100801 u t H1 locs ht hvm hw hB hz1 hk1 hS => ?_)
    obtain ⟨hP1, hD1⟩ := hB
    rw [ht] at hP1
    try dsimp only at hw hP1 hD1
    have w_100802 := hw
    subst w_100802
    obtain ⟨hP, hD⟩ := va_join (wr := [(h0, .inr (10, [.ref x0, .int 0, .ref x1, .ref x2, .ref x3, .ref x4, .ref x5, .ref x6, .ref x7, .ref x8, .int 0, .int 3000])), (o0, .inl (kA 1, 1, .inr (.inl (vp_updL (fun _ => 0) 0 (n_cut (xs 2) (n_combine (xs 1) 0 (n_cut (xs 2) ((((xs 4).toInt64) <<< ((32 : Int32).toInt64 &&& 63)) ||| (((xs 5).toInt64) &&& 4294967295))) (n_cut (xs 3) ((((xs 6).toInt64) <<< ((32 : Int32).toInt64 &&& 63)) ||| (((xs 7).toInt64) &&& 4294967295)))))))))]) (w1 := [(m0, .inr (11, (y0.set 9 (.int 0))))]) hP hD [2] [0, 1] rfl rfl (by decide) (by decide) hk1 hFc hP1 hD1
    generalize H1 = H at hP hS ⊢
    have hP : va_P D vwCl [(h0, .inr (10, [.ref x0, .int 0, .ref x1, .ref x2, .ref x3, .ref x4, .ref x5, .ref x6, .ref x7, .ref x8, .int 0, .int 3000])), (o0, .inl (kA 1, 1, .inr (.inl (vp_updL (fun _ => 0) 0 (n_cut (xs 2) (n_combine (xs 1) 0 (n_cut (xs 2) ((((xs 4).toInt64) <<< ((32 : Int32).toInt64 &&& 63)) ||| (((xs 5).toInt64) &&& 4294967295))) (n_cut (xs 3) ((((xs 6).toInt64) <<< ((32 : Int32).toInt64 &&& 63)) ||| (((xs 7).toInt64) &&& 4294967295))))))))), (m0, .inr (11, (y0.set 9 (.int 0))))] H := hP
    have hD : va_D A [(h0, .inr (10, [.ref x0, .int 0, .ref x1, .ref x2, .ref x3, .ref x4, .ref x5, .ref x6, .ref x7, .ref x8, .int 0, .int 3000])), (o0, .inl (kA 1, 1, .inr (.inl (vp_updL (fun _ => 0) 0 (n_cut (xs 2) (n_combine (xs 1) 0 (n_cut (xs 2) ((((xs 4).toInt64) <<< ((32 : Int32).toInt64 &&& 63)) ||| (((xs 5).toInt64) &&& 4294967295))) (n_cut (xs 3) ((((xs 6).toInt64) <<< ((32 : Int32).toInt64 &&& 63)) ||| (((xs 7).toInt64) &&& 4294967295))))))))), (m0, .inr (11, (y0.set 9 (.int 0))))] := hD
    refine lv_iload hx hb dL_law_1607 (lv_at hl 1 rfl) ?_
    refine lv_icmp_eq (tgt := 1614) hx hb dL_law_1609 (by decide) (fun c_100803 => ?_) (fun c_100803 => ?_)
    · skip
      refine lv_iload hx hb dL_law_1614 (lv_at hl 1 rfl) ?_
      refine lv_if_ne (tgt := 1630) hx hb dL_law_1616 (by decide) (fun c_100804 => ?_) (fun c_100804 => ?_)
      · exact absurd (by decide) c_100804
      · skip
        refine lv_aload_n hx hb dL_law_1619 rfl (lv_at hl 5 rfl) ?_
        refine lv_iconst (v := 0) hx hb dL_law_1620 (by decide) ?_
        refine va_lald hx hb hK hP 1 1 rfl rfl (show vp_in 0 1 by unfold vp_in; decide) dL_law_1621 ?_
        refine W.eq (g2 := F0 m 1622 ls [.long (n_cut (xs 2) (n_combine (xs 1) 0 (n_cut (xs 2) ((((xs 4).toInt64) <<< ((32 : Int32).toInt64 &&& 63)) ||| (((xs 5).toInt64) &&& 4294967295))) (n_cut (xs 3) ((((xs 6).toInt64) <<< ((32 : Int32).toInt64 &&& 63)) ||| (((xs 7).toInt64) &&& 4294967295)))))]) rfl ?_
        refine lv_lload hx hb dL_law_1622 (lv_at hl 0 rfl) ?_
        refine W.lcmp hx hb dL_law_1624 ?_
        refine lv_if_eq (tgt := 1630) hx hb dL_law_1625 (by decide) (fun c_100805 => ?_) (fun c_100805 => ?_)
        · skip
          refine lv_goto (tgt := 1804) hx hb dL_law_1630 (by decide) ?_
          exact lk_tail hC hA2 (lv_sub hl [2, 6] rfl) hS (Nat.le_of_ble_eq_true rfl) (Nat.le_of_ble_eq_true rfl)
        · exact absurd ((lg_cmp_eq _ _).mpr (qx_w0 c_131 c_100707 c_127 c_128 c_136 c_129 c_130 (fun _ => c_138) (fun q => q.1.elim (fun z => absurd (c_100713.symm.trans z) (by decide)) (fun z => absurd (c_100713.symm.trans z) (by decide))) (by rw [c_100713]; decide))) c_100805
    · exact absurd (by decide) c_100803
  · exact absurd hz.2.2.2.2.2.2.2.2.2.2.2.2.1 c_138
  · exact absurd hz.2.2.2.2.2.2.2.2.2.1 c_136
  · obtain ⟨c_100748, c_100749, c_100750, c_100751, c_100752, c_100753, c_100754, c_100755, c_100756, c_100757, c_100758, c_100759, w_100760, w_100761⟩ := hz
    subst w_100760
    subst w_100761
    obtain ⟨hP, hD⟩ := va_join (wr := [(h0, .inr (10, [.ref x0, .int 0, .ref x1, .ref x2, .ref x3, .ref x4, .ref x5, .ref x6, .ref x7, .ref x8, .int 0, .int 3000])), (o0, .inl (kA 1, 1, .inr (.inl (vp_updL (fun _ => 0) 0 (n_cut (xs 2) (n_combine (xs 1) 0 (n_cut (xs 2) ((((xs 4).toInt64) <<< ((32 : Int32).toInt64 &&& 63)) ||| (((xs 5).toInt64) &&& 4294967295))) (n_cut (xs 3) ((((xs 6).toInt64) <<< ((32 : Int32).toInt64 &&& 63)) ||| (((xs 7).toInt64) &&& 4294967295)))))))))]) (w1 := [(m0, .inr (11, y0.set 9 (.int 0)))]) hP hD [0] [1, 2] rfl rfl (by decide) (by decide) hk1 hFc hP1 hD1
    generalize H1 = H at hP hS ⊢
    have hP : va_P D vwCl [(h0, .inr (10, [.ref x0, .int 0, .ref x1, .ref x2, .ref x3, .ref x4, .ref x5, .ref x6, .ref x7, .ref x8, .int 0, .int 3000])), (o0, .inl (kA 1, 1, .inr (.inl (vp_updL (fun _ => 0) 0 (n_cut (xs 2) (n_combine (xs 1) 0 (n_cut (xs 2) ((((xs 4).toInt64) <<< ((32 : Int32).toInt64 &&& 63)) ||| (((xs 5).toInt64) &&& 4294967295))) (n_cut (xs 3) ((((xs 6).toInt64) <<< ((32 : Int32).toInt64 &&& 63)) ||| (((xs 7).toInt64) &&& 4294967295))))))))), (m0, .inr (11, y0.set 9 (.int 0)))] H := hP
    have hD : va_D A [(h0, .inr (10, [.ref x0, .int 0, .ref x1, .ref x2, .ref x3, .ref x4, .ref x5, .ref x6, .ref x7, .ref x8, .int 0, .int 3000])), (o0, .inl (kA 1, 1, .inr (.inl (vp_updL (fun _ => 0) 0 (n_cut (xs 2) (n_combine (xs 1) 0 (n_cut (xs 2) ((((xs 4).toInt64) <<< ((32 : Int32).toInt64 &&& 63)) ||| (((xs 5).toInt64) &&& 4294967295))) (n_cut (xs 3) ((((xs 6).toInt64) <<< ((32 : Int32).toInt64 &&& 63)) ||| (((xs 7).toInt64) &&& 4294967295))))))))), (m0, .inr (11, y0.set 9 (.int 0)))] := hD
    refine lv_lstore (lv' := [(6, .long (n_cut (xs 2) (r_two 240 0 (n_cut (xs 2) ((((xs 4).toInt64) <<< ((32 : Int32).toInt64 &&& 63)) ||| (((xs 5).toInt64) &&& 4294967295))) (n_cut (xs 3) ((((xs 6).toInt64) <<< ((32 : Int32).toInt64 &&& 63)) ||| (((xs 7).toInt64) &&& 4294967295)))))), (5, .int 0), (0, .ref b), (1, .ref h0), (2, .ref m0), (3, .ref o0), (4, .int 0)]) hx hb dL_law_1601 hl (by decide) rfl (fun ls hl => ?_)
    refine lv_aload_n hx hb dL_law_1603 rfl (lv_at hl 4 rfl) ?_
    have hPc := hP.sub (ws' := [(m0, .inr (11, y0.set 9 (.int 0)))]) [2] rfl
    have hDc := hD.sub (ws' := [(m0, .inr (11, y0.set 9 (.int 0)))]) [2] (by decide) rfl
    have hFc := va_free (wc := [(m0, .inr (11, y0.set 9 (.int 0)))]) hD hS hA [2] rfl
    refine va_calli (va_runV (As := []) (rest := []) ⟨hx, hb, hml, hown, hts⟩ (a94_X12_thrown l  D kA V H.size m0 (y0.set 9 (.int 0)) (fun k hk => (by rw [List.length_set]; exact (hq k hk))) (List.getElem?_set_self (hq 9 (by decide)))) (cwV 0 hts (gw_V gw_1879 gw_1880 gw_1881 gw_16 gw_1882) rfl rfl rfl (by decide +kernel) ⟨(Nat.le_of_ble_eq_true rfl), (Nat.le_of_ble_eq_true rfl)⟩) ⟨aP.blind, va_recv hK hP (ci := 11) (q0 := 2) rfl rfl, aP.pre hE hS hPc hK hDc hFc⟩ rfl rfl hl.1 rfl (lv_room (Nat.le_of_ble_eq_true rfl)) dL_law_1604 ⟨(Nat.le_of_ble_eq_true rfl), (Nat.le_of_ble_eq_true rfl)⟩) hS (fun q _ h => hFc q h) hFc (fun r_100806 u t H1 locs ht hvm hw hB hz1 hk1 hS => ?_)
    obtain ⟨hP1, hD1⟩ := hB
    rw [ht] at hP1
    try dsimp only at hw hP1 hD1
    have w_100807 := hw
    subst w_100807
    obtain ⟨hP, hD⟩ := va_join (wr := [(h0, .inr (10, [.ref x0, .int 0, .ref x1, .ref x2, .ref x3, .ref x4, .ref x5, .ref x6, .ref x7, .ref x8, .int 0, .int 3000])), (o0, .inl (kA 1, 1, .inr (.inl (vp_updL (fun _ => 0) 0 (n_cut (xs 2) (n_combine (xs 1) 0 (n_cut (xs 2) ((((xs 4).toInt64) <<< ((32 : Int32).toInt64 &&& 63)) ||| (((xs 5).toInt64) &&& 4294967295))) (n_cut (xs 3) ((((xs 6).toInt64) <<< ((32 : Int32).toInt64 &&& 63)) ||| (((xs 7).toInt64) &&& 4294967295)))))))))]) (w1 := [(m0, .inr (11, (y0.set 9 (.int 0))))]) hP hD [2] [0, 1] rfl rfl (by decide) (by decide) hk1 hFc hP1 hD1
    generalize H1 = H at hP hS ⊢
    have hP : va_P D vwCl [(h0, .inr (10, [.ref x0, .int 0, .ref x1, .ref x2, .ref x3, .ref x4, .ref x5, .ref x6, .ref x7, .ref x8, .int 0, .int 3000])), (o0, .inl (kA 1, 1, .inr (.inl (vp_updL (fun _ => 0) 0 (n_cut (xs 2) (n_combine (xs 1) 0 (n_cut (xs 2) ((((xs 4).toInt64) <<< ((32 : Int32).toInt64 &&& 63)) ||| (((xs 5).toInt64) &&& 4294967295))) (n_cut (xs 3) ((((xs 6).toInt64) <<< ((32 : Int32).toInt64 &&& 63)) ||| (((xs 7).toInt64) &&& 4294967295))))))))), (m0, .inr (11, (y0.set 9 (.int 0))))] H := hP
    have hD : va_D A [(h0, .inr (10, [.ref x0, .int 0, .ref x1, .ref x2, .ref x3, .ref x4, .ref x5, .ref x6, .ref x7, .ref x8, .int 0, .int 3000])), (o0, .inl (kA 1, 1, .inr (.inl (vp_updL (fun _ => 0) 0 (n_cut (xs 2) (n_combine (xs 1) 0 (n_cut (xs 2) ((((xs 4).toInt64) <<< ((32 : Int32).toInt64 &&& 63)) ||| (((xs 5).toInt64) &&& 4294967295))) (n_cut (xs 3) ((((xs 6).toInt64) <<< ((32 : Int32).toInt64 &&& 63)) ||| (((xs 7).toInt64) &&& 4294967295))))))))), (m0, .inr (11, (y0.set 9 (.int 0))))] := hD
    refine lv_iload hx hb dL_law_1607 (lv_at hl 1 rfl) ?_
    refine lv_icmp_eq (tgt := 1614) hx hb dL_law_1609 (by decide) (fun c_100808 => ?_) (fun c_100808 => ?_)
    · skip
      refine lv_iload hx hb dL_law_1614 (lv_at hl 1 rfl) ?_
      refine lv_if_ne (tgt := 1630) hx hb dL_law_1616 (by decide) (fun c_100809 => ?_) (fun c_100809 => ?_)
      · exact absurd (by decide) c_100809
      · skip
        refine lv_aload_n hx hb dL_law_1619 rfl (lv_at hl 5 rfl) ?_
        refine lv_iconst (v := 0) hx hb dL_law_1620 (by decide) ?_
        refine va_lald hx hb hK hP 1 1 rfl rfl (show vp_in 0 1 by unfold vp_in; decide) dL_law_1621 ?_
        refine W.eq (g2 := F0 m 1622 ls [.long (n_cut (xs 2) (n_combine (xs 1) 0 (n_cut (xs 2) ((((xs 4).toInt64) <<< ((32 : Int32).toInt64 &&& 63)) ||| (((xs 5).toInt64) &&& 4294967295))) (n_cut (xs 3) ((((xs 6).toInt64) <<< ((32 : Int32).toInt64 &&& 63)) ||| (((xs 7).toInt64) &&& 4294967295)))))]) rfl ?_
        refine lv_lload hx hb dL_law_1622 (lv_at hl 0 rfl) ?_
        refine W.lcmp hx hb dL_law_1624 ?_
        refine lv_if_eq (tgt := 1630) hx hb dL_law_1625 (by decide) (fun c_100810 => ?_) (fun c_100810 => ?_)
        · skip
          refine lv_goto (tgt := 1804) hx hb dL_law_1630 (by decide) ?_
          exact lk_tail hC hA2 (lv_sub hl [2, 6] rfl) hS (Nat.le_of_ble_eq_true rfl) (Nat.le_of_ble_eq_true rfl)
        · exact absurd ((lg_cmp_eq _ _).mpr (qx_w0 c_131 c_100749 c_127 c_128 c_136 c_129 c_130 (fun _ => c_138) (fun q => q.1.elim (fun z => absurd (c_100754.symm.trans z) (by decide)) (fun z => absurd (c_100754.symm.trans z) (by decide))) (by rw [c_100754]; decide))) c_100810
    · exact absurd (by decide) c_100808
  · exact absurd hz.2.2.2.2.2.2.2.2.2.2.2.1 c_138
set_option maxHeartbeats 4000000 in
set_option maxRecDepth 100000 in
theorem lk_22_15 {p : Program} {l : Launch} {e : Env} {s : State} {m : MethodId} {below : List Frame} {meth : Method} {c : Code} {D : va_G} {kA : Nat → ClassId} {V : Nat → Nat} {b : Nat} {xs : Nat → Int32} {A : Nat → Prop} (hC : lw_C p l s m meth c b 8 xs D kA V A) (hA2 : ∀ q, A q → s.heap.size ≤ q) (h0 : Nat) (m0 : Nat) (o0 : Nat) (x0 : Nat) (x1 : Nat) (x2 : Nat) (x3 : Nat) (x4 : Nat) (x5 : Nat) (x6 : Nat) (x7 : Nat) (x8 : Nat) (y0 : List Value) (hq : ∀ k, k < 121 → k < y0.length) (hq9 : y0[9]? = some (.int 0)) (c_141 : ¬ (xs 2) < 0) (c_142 : ¬ 4 < (xs 2)) (c_143 : ¬ (xs 3) < 0) (c_144 : ¬ 4 < (xs 3)) (c_145 : ¬ (xs 1) < 0) (c_146 : (xs 1) ≤ 10) (c_147 : (n_cut (xs 3) ((((xs 6).toInt64) <<< ((32 : Int32).toInt64 &&& 63)) ||| (((xs 7).toInt64) &&& 4294967295))) = 0) (c_148 : ¬ (xs 1) = 3) (c_149 : ¬ (xs 1) = 4) (c_150 : ¬ (xs 2) = 4) (c_151 : ¬ 8 ≤ (xs 1)) (c_152 : (xs 3) = 4) {H : Heap} {locs : List Loc} {ls : Array Slot} (hl : lv_has ls 8 [(0, .ref b), (1, .ref h0), (2, .ref m0), (3, .ref o0), (4, .int 0)]) (hS : va_S A s.heap H locs) (hP : va_P D vwCl [(m0, .inr (11, y0)), (h0, .inr (10, [.ref x0, .int 0, .ref x1, .ref x2, .ref x3, .ref x4, .ref x5, .ref x6, .ref x7, .ref x8, .int 0, .int 3000])), (o0, .inl (kA 1, 1, .inr (.inl (vp_updL (fun _ => 0) 0 (n_cut (xs 2) (n_combine (xs 1) 1 (n_cut (xs 2) ((((xs 4).toInt64) <<< ((32 : Int32).toInt64 &&& 63)) ||| (((xs 5).toInt64) &&& 4294967295))) (n_cut (xs 3) ((((xs 6).toInt64) <<< ((32 : Int32).toInt64 &&& 63)) ||| (((xs 7).toInt64) &&& 4294967295)))))))))] H) (hD : va_D A [(m0, .inr (11, y0)), (h0, .inr (10, [.ref x0, .int 0, .ref x1, .ref x2, .ref x3, .ref x4, .ref x5, .ref x6, .ref x7, .ref x8, .int 0, .int 3000])), (o0, .inl (kA 1, 1, .inr (.inl (vp_updL (fun _ => 0) 0 (n_cut (xs 2) (n_combine (xs 1) 1 (n_cut (xs 2) ((((xs 4).toInt64) <<< ((32 : Int32).toInt64 &&& 63)) ||| (((xs 5).toInt64) &&& 4294967295))) (n_cut (xs 3) ((((xs 6).toInt64) <<< ((32 : Int32).toInt64 &&& 63)) ||| (((xs 7).toInt64) &&& 4294967295)))))))))]) : W p l e room_1 s m #[Value.ref b] below meth c H locs 515 172799 (lw_Z below #[Value.ref b] s) (F0 m 1531 ls [.int 0]) := by
  have ⟨hst, hx, hb, hr, hml, hown, hts, hG, hX, hbl, hbA, hlocks, hE, hK, hA⟩ := hC
  refine lv_istore (lv' := [(5, .int 0), (0, .ref b), (1, .ref h0), (2, .ref m0), (3, .ref o0), (4, .int 0)]) hx hb dL_law_1531 hl (by decide) rfl (fun ls hl => ?_)
  refine lv_aload_n hx hb dL_law_1533 rfl (lv_at hl 3 rfl) ?_
  refine lv_aload_n hx hb dL_law_1534 rfl (lv_at hl 1 rfl) ?_
  refine lv_iload hx hb dL_law_1535 (lv_at hl 5 rfl) ?_
  refine lv_iconst (v := 1) hx hb dL_law_1537 (by decide) ?_
  refine lv_iadd hx hb dL_law_1538 ?_
  refine W.eq (g2 := F0 m 1539 ls [.int 1, .ref b, .ref m0]) rfl ?_
  refine va_sld hx hb hX hbl hbA hS (show vp_in 1 8 by unfold vp_in; decide) dL_law_1539 ?_
  refine W.eq (g2 := F0 m 1540 ls [.int (xs 1), .ref m0]) rfl ?_
  refine lv_aload_n hx hb dL_law_1540 rfl (lv_at hl 1 rfl) ?_
  refine lv_iload hx hb dL_law_1541 (lv_at hl 5 rfl) ?_
  refine lv_iconst (v := 2) hx hb dL_law_1543 (by decide) ?_
  refine lv_iadd hx hb dL_law_1544 ?_
  refine W.eq (g2 := F0 m 1545 ls [.int 2, .ref b, .int (xs 1), .ref m0]) rfl ?_
  refine va_sld hx hb hX hbl hbA hS (show vp_in 2 8 by unfold vp_in; decide) dL_law_1545 ?_
  refine W.eq (g2 := F0 m 1546 ls [.int (xs 2), .int (xs 1), .ref m0]) rfl ?_
  refine lv_aload_n hx hb dL_law_1546 rfl (lv_at hl 1 rfl) ?_
  refine lv_iload hx hb dL_law_1547 (lv_at hl 5 rfl) ?_
  refine lv_iconst (v := 3) hx hb dL_law_1549 (by decide) ?_
  refine lv_iadd hx hb dL_law_1550 ?_
  refine W.eq (g2 := F0 m 1551 ls [.int 3, .ref b, .int (xs 2), .int (xs 1), .ref m0]) rfl ?_
  refine va_sld hx hb hX hbl hbA hS (show vp_in 3 8 by unfold vp_in; decide) dL_law_1551 ?_
  refine W.eq (g2 := F0 m 1552 ls [.int (xs 3), .int (xs 2), .int (xs 1), .ref m0]) rfl ?_
  refine lv_aload_n hx hb dL_law_1552 rfl (lv_at hl 1 rfl) ?_
  refine lv_iload hx hb dL_law_1553 (lv_at hl 5 rfl) ?_
  refine lv_iconst (v := 4) hx hb dL_law_1555 (by decide) ?_
  refine lv_iadd hx hb dL_law_1556 ?_
  refine W.eq (g2 := F0 m 1557 ls [.int 4, .ref b, .int (xs 3), .int (xs 2), .int (xs 1), .ref m0]) rfl ?_
  refine va_sld hx hb hX hbl hbA hS (show vp_in 4 8 by unfold vp_in; decide) dL_law_1557 ?_
  refine W.eq (g2 := F0 m 1558 ls [.int (xs 4), .int (xs 3), .int (xs 2), .int (xs 1), .ref m0]) rfl ?_
  refine lv_i2l (v := (xs 4).toInt64) hx hb dL_law_1558 rfl ?_
  refine lv_bipush (v := 32) hx hb dL_law_1559 (by decide) ?_
  refine lv_lshl (v := ((xs 4).toInt64) <<< ((32 : Int32).toInt64 &&& 63)) hx hb dL_law_1561 rfl ?_
  refine lv_aload_n hx hb dL_law_1562 rfl (lv_at hl 1 rfl) ?_
  refine lv_iload hx hb dL_law_1563 (lv_at hl 5 rfl) ?_
  refine lv_iconst (v := 5) hx hb dL_law_1565 (by decide) ?_
  refine lv_iadd hx hb dL_law_1566 ?_
  refine W.eq (g2 := F0 m 1567 ls [.int 5, .ref b, .long (((xs 4).toInt64) <<< ((32 : Int32).toInt64 &&& 63)), .int (xs 3), .int (xs 2), .int (xs 1), .ref m0]) rfl ?_
  refine va_sld hx hb hX hbl hbA hS (show vp_in 5 8 by unfold vp_in; decide) dL_law_1567 ?_
  refine W.eq (g2 := F0 m 1568 ls [.int (xs 5), .long (((xs 4).toInt64) <<< ((32 : Int32).toInt64 &&& 63)), .int (xs 3), .int (xs 2), .int (xs 1), .ref m0]) rfl ?_
  refine lv_i2l (v := (xs 5).toInt64) hx hb dL_law_1568 rfl ?_
  refine lv_ldc2 (v := 4294967295) hx hb hown (hG _ gw_2764) dL_law_1569 ?_
  refine lv_land hx hb dL_law_1572 ?_
  refine lv_lor hx hb dL_law_1573 ?_
  refine lv_aload_n hx hb dL_law_1574 rfl (lv_at hl 1 rfl) ?_
  refine lv_iload hx hb dL_law_1575 (lv_at hl 5 rfl) ?_
  refine lv_bipush (v := 6) hx hb dL_law_1577 (by decide) ?_
  refine lv_iadd hx hb dL_law_1579 ?_
  refine W.eq (g2 := F0 m 1580 ls [.int 6, .ref b, .long ((((xs 4).toInt64) <<< ((32 : Int32).toInt64 &&& 63)) ||| (((xs 5).toInt64) &&& 4294967295)), .int (xs 3), .int (xs 2), .int (xs 1), .ref m0]) rfl ?_
  refine va_sld hx hb hX hbl hbA hS (show vp_in 6 8 by unfold vp_in; decide) dL_law_1580 ?_
  refine W.eq (g2 := F0 m 1581 ls [.int (xs 6), .long ((((xs 4).toInt64) <<< ((32 : Int32).toInt64 &&& 63)) ||| (((xs 5).toInt64) &&& 4294967295)), .int (xs 3), .int (xs 2), .int (xs 1), .ref m0]) rfl ?_
  refine lv_i2l (v := (xs 6).toInt64) hx hb dL_law_1581 rfl ?_
  refine lv_bipush (v := 32) hx hb dL_law_1582 (by decide) ?_
  refine lv_lshl (v := ((xs 6).toInt64) <<< ((32 : Int32).toInt64 &&& 63)) hx hb dL_law_1584 rfl ?_
  refine lv_aload_n hx hb dL_law_1585 rfl (lv_at hl 1 rfl) ?_
  refine lv_iload hx hb dL_law_1586 (lv_at hl 5 rfl) ?_
  refine lv_bipush (v := 7) hx hb dL_law_1588 (by decide) ?_
  refine lv_iadd hx hb dL_law_1590 ?_
  refine W.eq (g2 := F0 m 1591 ls [.int 7, .ref b, .long (((xs 6).toInt64) <<< ((32 : Int32).toInt64 &&& 63)), .long ((((xs 4).toInt64) <<< ((32 : Int32).toInt64 &&& 63)) ||| (((xs 5).toInt64) &&& 4294967295)), .int (xs 3), .int (xs 2), .int (xs 1), .ref m0]) rfl ?_
  refine va_sld hx hb hX hbl hbA hS (show vp_in 7 8 by unfold vp_in; decide) dL_law_1591 ?_
  refine W.eq (g2 := F0 m 1592 ls [.int (xs 7), .long (((xs 6).toInt64) <<< ((32 : Int32).toInt64 &&& 63)), .long ((((xs 4).toInt64) <<< ((32 : Int32).toInt64 &&& 63)) ||| (((xs 5).toInt64) &&& 4294967295)), .int (xs 3), .int (xs 2), .int (xs 1), .ref m0]) rfl ?_
  refine lv_i2l (v := (xs 7).toInt64) hx hb dL_law_1592 rfl ?_
  refine lv_ldc2 (v := 4294967295) hx hb hown (hG _ gw_2764) dL_law_1593 ?_
  refine lv_land hx hb dL_law_1596 ?_
  refine lv_lor hx hb dL_law_1597 ?_
  have hPc := hP.sub (ws' := [(m0, .inr (11, y0))]) [0] rfl
  have hDc := hD.sub (ws' := [(m0, .inr (11, y0))]) [0] (by decide) rfl
  have hFc := va_free (wc := [(m0, .inr (11, y0))]) hD hS hA [0] rfl
  refine va_calll (va_runV (As := [.int (xs 1), .int (xs 2), .int (xs 3), .long ((((xs 4).toInt64) <<< ((32 : Int32).toInt64 &&& 63)) ||| (((xs 5).toInt64) &&& 4294967295)), .long ((((xs 6).toInt64) <<< ((32 : Int32).toInt64 &&& 63)) ||| (((xs 7).toInt64) &&& 4294967295))]) (rest := []) ⟨hx, hb, hml, hown, hts⟩ (a153_X12_work l  D kA V H.size m0 (xs 1) (xs 2) (xs 3) ((((xs 4).toInt64) <<< ((32 : Int32).toInt64 &&& 63)) ||| (((xs 5).toInt64) &&& 4294967295)) ((((xs 6).toInt64) <<< ((32 : Int32).toInt64 &&& 63)) ||| (((xs 7).toInt64) &&& 4294967295)) y0 (fun k hk => (hq k hk)) hq9) (cwV 5 hts (gw_V gw_2756 gw_2757 gw_2758 gw_16 gw_2759) rfl rfl rfl (by decide +kernel) ⟨(Nat.le_of_ble_eq_true rfl), (Nat.le_of_ble_eq_true rfl)⟩) ⟨aP.blind, va_recv hK hP (ci := 11) (q0 := 0) rfl rfl, aP.pre hE hS hPc hK hDc hFc⟩ rfl rfl hl.1 rfl (lv_room (Nat.le_of_ble_eq_true rfl)) dL_law_1598 ⟨(Nat.le_of_ble_eq_true rfl), (Nat.le_of_ble_eq_true rfl)⟩) hS (fun q _ h => hFc q h) hFc (fun r_100001 u t H1 locs ht hvm hw hB hz1 hk1 hS => ?_)
  obtain ⟨u_100002, rfl⟩ : ∃ z, z = u := ⟨u, rfl⟩
  obtain ⟨hP1, hD1⟩ := hB
  rw [ht] at hP1
  try dsimp only at hw hP1 hD1
  rcases hw with hz | hz | hz | hz | hz | hz | hz | hz | hz | hz | hz | hz | hz | hz | hz | hz | hz | hz | hz | hz | hz | hz | hz | hz | hz | hz | hz | hz | hz | hz | hz | hz | hz | hz | hz | hz | hz | hz | hz | hz | hz | hz | hz | hz | hz | hz | hz | hz | hz | hz | hz | hz
  · exact absurd hz.1 c_145
  · exact absurd hz.1 c_145
  · exact absurd hz.1 c_145
  · exact absurd hz.1 c_145
  · exact absurd hz.1 c_145
  · exact absurd hz.2.1 (Int32.not_lt.mpr c_146)
  · exact absurd hz.2.1 (Int32.not_lt.mpr c_146)
  · exact absurd hz.2.1 (Int32.not_lt.mpr c_146)
  · exact absurd hz.2.1 (Int32.not_lt.mpr c_146)
  · exact absurd hz.2.1 (Int32.not_lt.mpr c_146)
  · exact absurd hz.2.2.1 c_141
  · exact absurd hz.2.2.2.1 c_142
  · exact absurd hz.2.2.2.2.1 c_143
  · exact absurd hz.2.2.2.2.2.1 c_144
  · exact absurd hz.2.2.2.2.2.2.2.2.2.2.2.2.2.2.2.2.2.2.1 c_150
  · exact absurd hz.2.2.2.2.2.2.2.2.2.2.2.2.2.2.2.2.2.2.2.1 c_151
  · exact absurd c_152 hz.2.2.2.2.2.2.2.2.2.2.2.2.2.2.2.2.2.2.2.2.1
  · obtain ⟨c_100158, c_100159, c_100160, c_100161, c_100162, c_100163, c_100164, c_100165, c_100166, c_100167, c_100168, c_100169, c_100170, c_100171, c_100172, c_100173, c_100174, c_100175, c_100176, c_100177, c_100178, w_100179, w_100180⟩ := hz
    subst w_100179
    subst w_100180
    obtain ⟨hP, hD⟩ := va_join (wr := [(h0, .inr (10, [.ref x0, .int 0, .ref x1, .ref x2, .ref x3, .ref x4, .ref x5, .ref x6, .ref x7, .ref x8, .int 0, .int 3000])), (o0, .inl (kA 1, 1, .inr (.inl (vp_updL (fun _ => 0) 0 (n_cut (xs 2) (n_combine (xs 1) 1 (n_cut (xs 2) ((((xs 4).toInt64) <<< ((32 : Int32).toInt64 &&& 63)) ||| (((xs 5).toInt64) &&& 4294967295))) (n_cut (xs 3) ((((xs 6).toInt64) <<< ((32 : Int32).toInt64 &&& 63)) ||| (((xs 7).toInt64) &&& 4294967295)))))))))]) (w1 := [(m0, .inr (11, y0.set 9 (.int 0)))]) hP hD [0] [1, 2] rfl rfl (by decide) (by decide) hk1 hFc hP1 hD1
    generalize H1 = H at hP hS ⊢
    have hP : va_P D vwCl [(h0, .inr (10, [.ref x0, .int 0, .ref x1, .ref x2, .ref x3, .ref x4, .ref x5, .ref x6, .ref x7, .ref x8, .int 0, .int 3000])), (o0, .inl (kA 1, 1, .inr (.inl (vp_updL (fun _ => 0) 0 (n_cut (xs 2) (n_combine (xs 1) 1 (n_cut (xs 2) ((((xs 4).toInt64) <<< ((32 : Int32).toInt64 &&& 63)) ||| (((xs 5).toInt64) &&& 4294967295))) (n_cut (xs 3) ((((xs 6).toInt64) <<< ((32 : Int32).toInt64 &&& 63)) ||| (((xs 7).toInt64) &&& 4294967295))))))))), (m0, .inr (11, y0.set 9 (.int 0)))] H := hP
    have hD : va_D A [(h0, .inr (10, [.ref x0, .int 0, .ref x1, .ref x2, .ref x3, .ref x4, .ref x5, .ref x6, .ref x7, .ref x8, .int 0, .int 3000])), (o0, .inl (kA 1, 1, .inr (.inl (vp_updL (fun _ => 0) 0 (n_cut (xs 2) (n_combine (xs 1) 1 (n_cut (xs 2) ((((xs 4).toInt64) <<< ((32 : Int32).toInt64 &&& 63)) ||| (((xs 5).toInt64) &&& 4294967295))) (n_cut (xs 3) ((((xs 6).toInt64) <<< ((32 : Int32).toInt64 &&& 63)) ||| (((xs 7).toInt64) &&& 4294967295))))))))), (m0, .inr (11, y0.set 9 (.int 0)))] := hD
    refine lv_lstore (lv' := [(6, .long (n_cut (xs 2) (r_two 203 1 (n_cut (xs 2) ((((xs 4).toInt64) <<< ((32 : Int32).toInt64 &&& 63)) ||| (((xs 5).toInt64) &&& 4294967295))) (n_cut (xs 3) ((((xs 6).toInt64) <<< ((32 : Int32).toInt64 &&& 63)) ||| (((xs 7).toInt64) &&& 4294967295)))))), (5, .int 0), (0, .ref b), (1, .ref h0), (2, .ref m0), (3, .ref o0), (4, .int 0)]) hx hb dL_law_1601 hl (by decide) rfl (fun ls hl => ?_)
    refine lv_aload_n hx hb dL_law_1603 rfl (lv_at hl 4 rfl) ?_
    have hPc := hP.sub (ws' := [(m0, .inr (11, y0.set 9 (.int 0)))]) [2] rfl
    have hDc := hD.sub (ws' := [(m0, .inr (11, y0.set 9 (.int 0)))]) [2] (by decide) rfl
    have hFc := va_free (wc := [(m0, .inr (11, y0.set 9 (.int 0)))]) hD hS hA [2] rfl
    refine va_calli (va_runV (As := []) (rest := []) ⟨hx, hb, hml, hown, hts⟩ (a94_X12_thrown l  D kA V H.size m0 (y0.set 9 (.int 0)) (fun k hk => (by rw [List.length_set]; exact (hq k hk))) (List.getElem?_set_self (hq 9 (by decide)))) (cwV 0 hts (gw_V gw_1879 gw_1880 gw_1881 gw_16 gw_1882) rfl rfl rfl (by decide +kernel) ⟨(Nat.le_of_ble_eq_true rfl), (Nat.le_of_ble_eq_true rfl)⟩) ⟨aP.blind, va_recv hK hP (ci := 11) (q0 := 2) rfl rfl, aP.pre hE hS hPc hK hDc hFc⟩ rfl rfl hl.1 rfl (lv_room (Nat.le_of_ble_eq_true rfl)) dL_law_1604 ⟨(Nat.le_of_ble_eq_true rfl), (Nat.le_of_ble_eq_true rfl)⟩) hS (fun q _ h => hFc q h) hFc (fun r_100776 u t H1 locs ht hvm hw hB hz1 hk1 hS => ?_)
    obtain ⟨hP1, hD1⟩ := hB
    rw [ht] at hP1
    try dsimp only at hw hP1 hD1
    have w_100777 := hw
    subst w_100777
    obtain ⟨hP, hD⟩ := va_join (wr := [(h0, .inr (10, [.ref x0, .int 0, .ref x1, .ref x2, .ref x3, .ref x4, .ref x5, .ref x6, .ref x7, .ref x8, .int 0, .int 3000])), (o0, .inl (kA 1, 1, .inr (.inl (vp_updL (fun _ => 0) 0 (n_cut (xs 2) (n_combine (xs 1) 1 (n_cut (xs 2) ((((xs 4).toInt64) <<< ((32 : Int32).toInt64 &&& 63)) ||| (((xs 5).toInt64) &&& 4294967295))) (n_cut (xs 3) ((((xs 6).toInt64) <<< ((32 : Int32).toInt64 &&& 63)) ||| (((xs 7).toInt64) &&& 4294967295)))))))))]) (w1 := [(m0, .inr (11, (y0.set 9 (.int 0))))]) hP hD [2] [0, 1] rfl rfl (by decide) (by decide) hk1 hFc hP1 hD1
    generalize H1 = H at hP hS ⊢
    have hP : va_P D vwCl [(h0, .inr (10, [.ref x0, .int 0, .ref x1, .ref x2, .ref x3, .ref x4, .ref x5, .ref x6, .ref x7, .ref x8, .int 0, .int 3000])), (o0, .inl (kA 1, 1, .inr (.inl (vp_updL (fun _ => 0) 0 (n_cut (xs 2) (n_combine (xs 1) 1 (n_cut (xs 2) ((((xs 4).toInt64) <<< ((32 : Int32).toInt64 &&& 63)) ||| (((xs 5).toInt64) &&& 4294967295))) (n_cut (xs 3) ((((xs 6).toInt64) <<< ((32 : Int32).toInt64 &&& 63)) ||| (((xs 7).toInt64) &&& 4294967295))))))))), (m0, .inr (11, (y0.set 9 (.int 0))))] H := hP
    have hD : va_D A [(h0, .inr (10, [.ref x0, .int 0, .ref x1, .ref x2, .ref x3, .ref x4, .ref x5, .ref x6, .ref x7, .ref x8, .int 0, .int 3000])), (o0, .inl (kA 1, 1, .inr (.inl (vp_updL (fun _ => 0) 0 (n_cut (xs 2) (n_combine (xs 1) 1 (n_cut (xs 2) ((((xs 4).toInt64) <<< ((32 : Int32).toInt64 &&& 63)) ||| (((xs 5).toInt64) &&& 4294967295))) (n_cut (xs 3) ((((xs 6).toInt64) <<< ((32 : Int32).toInt64 &&& 63)) ||| (((xs 7).toInt64) &&& 4294967295))))))))), (m0, .inr (11, (y0.set 9 (.int 0))))] := hD
    refine lv_iload hx hb dL_law_1607 (lv_at hl 1 rfl) ?_
    refine lv_icmp_eq (tgt := 1614) hx hb dL_law_1609 (by decide) (fun c_100778 => ?_) (fun c_100778 => ?_)
    · skip
      refine lv_iload hx hb dL_law_1614 (lv_at hl 1 rfl) ?_
      refine lv_if_ne (tgt := 1630) hx hb dL_law_1616 (by decide) (fun c_100779 => ?_) (fun c_100779 => ?_)
      · exact absurd (by decide) c_100779
      · skip
        refine lv_aload_n hx hb dL_law_1619 rfl (lv_at hl 5 rfl) ?_
        refine lv_iconst (v := 0) hx hb dL_law_1620 (by decide) ?_
        refine va_lald hx hb hK hP 1 1 rfl rfl (show vp_in 0 1 by unfold vp_in; decide) dL_law_1621 ?_
        refine W.eq (g2 := F0 m 1622 ls [.long (n_cut (xs 2) (n_combine (xs 1) 1 (n_cut (xs 2) ((((xs 4).toInt64) <<< ((32 : Int32).toInt64 &&& 63)) ||| (((xs 5).toInt64) &&& 4294967295))) (n_cut (xs 3) ((((xs 6).toInt64) <<< ((32 : Int32).toInt64 &&& 63)) ||| (((xs 7).toInt64) &&& 4294967295)))))]) rfl ?_
        refine lv_lload hx hb dL_law_1622 (lv_at hl 0 rfl) ?_
        refine W.lcmp hx hb dL_law_1624 ?_
        refine lv_if_eq (tgt := 1630) hx hb dL_law_1625 (by decide) (fun c_100780 => ?_) (fun c_100780 => ?_)
        · skip
          refine lv_goto (tgt := 1804) hx hb dL_law_1630 (by decide) ?_
          exact lk_tail hC hA2 (lv_sub hl [2, 6] rfl) hS (Nat.le_of_ble_eq_true rfl) (Nat.le_of_ble_eq_true rfl)
        · exact absurd ((lg_cmp_eq _ _).mpr (qx_w1 c_145 c_100159 (fun q => q.1.elim c_148 c_149) (by unfold q_sign; rw [if_neg c_100164, if_neg c_100165, if_neg c_100166, if_neg c_148, if_neg c_149, if_neg c_100169, if_neg c_100170, if_neg c_100171, if_neg c_100172, if_neg c_100173]))) c_100780
    · exact absurd (by decide) c_100778
  · exact False.elim (by have a1 := (iyE (n := 9) hz.2.2.2.2.2.2.2.2.2.2.2.2.2.2.2.1 (by decide)); have a2 := (ixA (n := 8) (Int32.not_le.mp c_151) (by decide)); omega)
  · exact False.elim (by have a1 := (iyE (n := 9) hz.2.2.2.2.2.2.2.2.2.2.2.2.2.2.2.1 (by decide)); have a2 := (ixA (n := 8) (Int32.not_le.mp c_151) (by decide)); omega)
  · exact False.elim (by have a1 := (iyE (n := 8) hz.2.2.2.2.2.2.2.2.2.2.2.2.2.2.1 (by decide)); have a2 := (ixA (n := 8) (Int32.not_le.mp c_151) (by decide)); omega)
  · exact False.elim (by have a1 := (iyE (n := 8) hz.2.2.2.2.2.2.2.2.2.2.2.2.2.2.1 (by decide)); have a2 := (ixA (n := 8) (Int32.not_le.mp c_151) (by decide)); omega)
  · exact absurd hz.2.2.2.2.2.2.2.2.2.2.2.2.2.2.2.2.1 c_150
  · exact absurd c_152 hz.2.2.2.2.2.2.2.2.2.2.2.2.2.2.2.2.2.2.1
  · obtain ⟨c_100305, c_100306, c_100307, c_100308, c_100309, c_100310, c_100311, c_100312, c_100313, c_100314, c_100315, c_100316, c_100317, c_100318, c_100319, c_100320, c_100321, c_100322, c_100323, w_100324, w_100325⟩ := hz
    subst w_100324
    subst w_100325
    obtain ⟨hP, hD⟩ := va_join (wr := [(h0, .inr (10, [.ref x0, .int 0, .ref x1, .ref x2, .ref x3, .ref x4, .ref x5, .ref x6, .ref x7, .ref x8, .int 0, .int 3000])), (o0, .inl (kA 1, 1, .inr (.inl (vp_updL (fun _ => 0) 0 (n_cut (xs 2) (n_combine (xs 1) 1 (n_cut (xs 2) ((((xs 4).toInt64) <<< ((32 : Int32).toInt64 &&& 63)) ||| (((xs 5).toInt64) &&& 4294967295))) (n_cut (xs 3) ((((xs 6).toInt64) <<< ((32 : Int32).toInt64 &&& 63)) ||| (((xs 7).toInt64) &&& 4294967295)))))))))]) (w1 := [(m0, .inr (11, y0.set 9 (.int 0)))]) hP hD [0] [1, 2] rfl rfl (by decide) (by decide) hk1 hFc hP1 hD1
    generalize H1 = H at hP hS ⊢
    have hP : va_P D vwCl [(h0, .inr (10, [.ref x0, .int 0, .ref x1, .ref x2, .ref x3, .ref x4, .ref x5, .ref x6, .ref x7, .ref x8, .int 0, .int 3000])), (o0, .inl (kA 1, 1, .inr (.inl (vp_updL (fun _ => 0) 0 (n_cut (xs 2) (n_combine (xs 1) 1 (n_cut (xs 2) ((((xs 4).toInt64) <<< ((32 : Int32).toInt64 &&& 63)) ||| (((xs 5).toInt64) &&& 4294967295))) (n_cut (xs 3) ((((xs 6).toInt64) <<< ((32 : Int32).toInt64 &&& 63)) ||| (((xs 7).toInt64) &&& 4294967295))))))))), (m0, .inr (11, y0.set 9 (.int 0)))] H := hP
    have hD : va_D A [(h0, .inr (10, [.ref x0, .int 0, .ref x1, .ref x2, .ref x3, .ref x4, .ref x5, .ref x6, .ref x7, .ref x8, .int 0, .int 3000])), (o0, .inl (kA 1, 1, .inr (.inl (vp_updL (fun _ => 0) 0 (n_cut (xs 2) (n_combine (xs 1) 1 (n_cut (xs 2) ((((xs 4).toInt64) <<< ((32 : Int32).toInt64 &&& 63)) ||| (((xs 5).toInt64) &&& 4294967295))) (n_cut (xs 3) ((((xs 6).toInt64) <<< ((32 : Int32).toInt64 &&& 63)) ||| (((xs 7).toInt64) &&& 4294967295))))))))), (m0, .inr (11, y0.set 9 (.int 0)))] := hD
    refine lv_lstore (lv' := [(6, .long (n_cut (xs 2) (r_two 236 1 (n_cut (xs 2) ((((xs 4).toInt64) <<< ((32 : Int32).toInt64 &&& 63)) ||| (((xs 5).toInt64) &&& 4294967295))) (n_cut (xs 3) ((((xs 6).toInt64) <<< ((32 : Int32).toInt64 &&& 63)) ||| (((xs 7).toInt64) &&& 4294967295)))))), (5, .int 0), (0, .ref b), (1, .ref h0), (2, .ref m0), (3, .ref o0), (4, .int 0)]) hx hb dL_law_1601 hl (by decide) rfl (fun ls hl => ?_)
    refine lv_aload_n hx hb dL_law_1603 rfl (lv_at hl 4 rfl) ?_
    have hPc := hP.sub (ws' := [(m0, .inr (11, y0.set 9 (.int 0)))]) [2] rfl
    have hDc := hD.sub (ws' := [(m0, .inr (11, y0.set 9 (.int 0)))]) [2] (by decide) rfl
    have hFc := va_free (wc := [(m0, .inr (11, y0.set 9 (.int 0)))]) hD hS hA [2] rfl
    refine va_calli (va_runV (As := []) (rest := []) ⟨hx, hb, hml, hown, hts⟩ (a94_X12_thrown l  D kA V H.size m0 (y0.set 9 (.int 0)) (fun k hk => (by rw [List.length_set]; exact (hq k hk))) (List.getElem?_set_self (hq 9 (by decide)))) (cwV 0 hts (gw_V gw_1879 gw_1880 gw_1881 gw_16 gw_1882) rfl rfl rfl (by decide +kernel) ⟨(Nat.le_of_ble_eq_true rfl), (Nat.le_of_ble_eq_true rfl)⟩) ⟨aP.blind, va_recv hK hP (ci := 11) (q0 := 2) rfl rfl, aP.pre hE hS hPc hK hDc hFc⟩ rfl rfl hl.1 rfl (lv_room (Nat.le_of_ble_eq_true rfl)) dL_law_1604 ⟨(Nat.le_of_ble_eq_true rfl), (Nat.le_of_ble_eq_true rfl)⟩) hS (fun q _ h => hFc q h) hFc (fun r_100781 u t H1 locs ht hvm hw hB hz1 hk1 hS => ?_)
    obtain ⟨hP1, hD1⟩ := hB
    rw [ht] at hP1
    try dsimp only at hw hP1 hD1
    have w_100782 := hw
    subst w_100782
    obtain ⟨hP, hD⟩ := va_join (wr := [(h0, .inr (10, [.ref x0, .int 0, .ref x1, .ref x2, .ref x3, .ref x4, .ref x5, .ref x6, .ref x7, .ref x8, .int 0, .int 3000])), (o0, .inl (kA 1, 1, .inr (.inl (vp_updL (fun _ => 0) 0 (n_cut (xs 2) (n_combine (xs 1) 1 (n_cut (xs 2) ((((xs 4).toInt64) <<< ((32 : Int32).toInt64 &&& 63)) ||| (((xs 5).toInt64) &&& 4294967295))) (n_cut (xs 3) ((((xs 6).toInt64) <<< ((32 : Int32).toInt64 &&& 63)) ||| (((xs 7).toInt64) &&& 4294967295)))))))))]) (w1 := [(m0, .inr (11, (y0.set 9 (.int 0))))]) hP hD [2] [0, 1] rfl rfl (by decide) (by decide) hk1 hFc hP1 hD1
    generalize H1 = H at hP hS ⊢
    have hP : va_P D vwCl [(h0, .inr (10, [.ref x0, .int 0, .ref x1, .ref x2, .ref x3, .ref x4, .ref x5, .ref x6, .ref x7, .ref x8, .int 0, .int 3000])), (o0, .inl (kA 1, 1, .inr (.inl (vp_updL (fun _ => 0) 0 (n_cut (xs 2) (n_combine (xs 1) 1 (n_cut (xs 2) ((((xs 4).toInt64) <<< ((32 : Int32).toInt64 &&& 63)) ||| (((xs 5).toInt64) &&& 4294967295))) (n_cut (xs 3) ((((xs 6).toInt64) <<< ((32 : Int32).toInt64 &&& 63)) ||| (((xs 7).toInt64) &&& 4294967295))))))))), (m0, .inr (11, (y0.set 9 (.int 0))))] H := hP
    have hD : va_D A [(h0, .inr (10, [.ref x0, .int 0, .ref x1, .ref x2, .ref x3, .ref x4, .ref x5, .ref x6, .ref x7, .ref x8, .int 0, .int 3000])), (o0, .inl (kA 1, 1, .inr (.inl (vp_updL (fun _ => 0) 0 (n_cut (xs 2) (n_combine (xs 1) 1 (n_cut (xs 2) ((((xs 4).toInt64) <<< ((32 : Int32).toInt64 &&& 63)) ||| (((xs 5).toInt64) &&& 4294967295))) (n_cut (xs 3) ((((xs 6).toInt64) <<< ((32 : Int32).toInt64 &&& 63)) ||| (((xs 7).toInt64) &&& 4294967295))))))))), (m0, .inr (11, (y0.set 9 (.int 0))))] := hD
    refine lv_iload hx hb dL_law_1607 (lv_at hl 1 rfl) ?_
    refine lv_icmp_eq (tgt := 1614) hx hb dL_law_1609 (by decide) (fun c_100783 => ?_) (fun c_100783 => ?_)
    · skip
      refine lv_iload hx hb dL_law_1614 (lv_at hl 1 rfl) ?_
      refine lv_if_ne (tgt := 1630) hx hb dL_law_1616 (by decide) (fun c_100784 => ?_) (fun c_100784 => ?_)
      · exact absurd (by decide) c_100784
      · skip
        refine lv_aload_n hx hb dL_law_1619 rfl (lv_at hl 5 rfl) ?_
        refine lv_iconst (v := 0) hx hb dL_law_1620 (by decide) ?_
        refine va_lald hx hb hK hP 1 1 rfl rfl (show vp_in 0 1 by unfold vp_in; decide) dL_law_1621 ?_
        refine W.eq (g2 := F0 m 1622 ls [.long (n_cut (xs 2) (n_combine (xs 1) 1 (n_cut (xs 2) ((((xs 4).toInt64) <<< ((32 : Int32).toInt64 &&& 63)) ||| (((xs 5).toInt64) &&& 4294967295))) (n_cut (xs 3) ((((xs 6).toInt64) <<< ((32 : Int32).toInt64 &&& 63)) ||| (((xs 7).toInt64) &&& 4294967295)))))]) rfl ?_
        refine lv_lload hx hb dL_law_1622 (lv_at hl 0 rfl) ?_
        refine W.lcmp hx hb dL_law_1624 ?_
        refine lv_if_eq (tgt := 1630) hx hb dL_law_1625 (by decide) (fun c_100785 => ?_) (fun c_100785 => ?_)
        · skip
          refine lv_goto (tgt := 1804) hx hb dL_law_1630 (by decide) ?_
          exact lk_tail hC hA2 (lv_sub hl [2, 6] rfl) hS (Nat.le_of_ble_eq_true rfl) (Nat.le_of_ble_eq_true rfl)
        · exact absurd ((lg_cmp_eq _ _).mpr (qx_w1 c_145 c_100306 (fun q => q.1.elim (fun z => absurd (c_100318.symm.trans z) (by decide)) (fun z => absurd (c_100318.symm.trans z) (by decide))) (by rw [c_100318]; decide))) c_100785
    · exact absurd (by decide) c_100783
  · exact absurd hz.2.2.2.2.2.2.2.2.2.2.2.2.2.2.2.1 c_150
  · exact absurd c_152 hz.2.2.2.2.2.2.2.2.2.2.2.2.2.2.2.2.2.1
  · obtain ⟨c_100364, c_100365, c_100366, c_100367, c_100368, c_100369, c_100370, c_100371, c_100372, c_100373, c_100374, c_100375, c_100376, c_100377, c_100378, c_100379, c_100380, c_100381, w_100382, w_100383⟩ := hz
    subst w_100382
    subst w_100383
    obtain ⟨hP, hD⟩ := va_join (wr := [(h0, .inr (10, [.ref x0, .int 0, .ref x1, .ref x2, .ref x3, .ref x4, .ref x5, .ref x6, .ref x7, .ref x8, .int 0, .int 3000])), (o0, .inl (kA 1, 1, .inr (.inl (vp_updL (fun _ => 0) 0 (n_cut (xs 2) (n_combine (xs 1) 1 (n_cut (xs 2) ((((xs 4).toInt64) <<< ((32 : Int32).toInt64 &&& 63)) ||| (((xs 5).toInt64) &&& 4294967295))) (n_cut (xs 3) ((((xs 6).toInt64) <<< ((32 : Int32).toInt64 &&& 63)) ||| (((xs 7).toInt64) &&& 4294967295)))))))))]) (w1 := [(m0, .inr (11, y0.set 9 (.int 0)))]) hP hD [0] [1, 2] rfl rfl (by decide) (by decide) hk1 hFc hP1 hD1
    generalize H1 = H at hP hS ⊢
    have hP : va_P D vwCl [(h0, .inr (10, [.ref x0, .int 0, .ref x1, .ref x2, .ref x3, .ref x4, .ref x5, .ref x6, .ref x7, .ref x8, .int 0, .int 3000])), (o0, .inl (kA 1, 1, .inr (.inl (vp_updL (fun _ => 0) 0 (n_cut (xs 2) (n_combine (xs 1) 1 (n_cut (xs 2) ((((xs 4).toInt64) <<< ((32 : Int32).toInt64 &&& 63)) ||| (((xs 5).toInt64) &&& 4294967295))) (n_cut (xs 3) ((((xs 6).toInt64) <<< ((32 : Int32).toInt64 &&& 63)) ||| (((xs 7).toInt64) &&& 4294967295))))))))), (m0, .inr (11, y0.set 9 (.int 0)))] H := hP
    have hD : va_D A [(h0, .inr (10, [.ref x0, .int 0, .ref x1, .ref x2, .ref x3, .ref x4, .ref x5, .ref x6, .ref x7, .ref x8, .int 0, .int 3000])), (o0, .inl (kA 1, 1, .inr (.inl (vp_updL (fun _ => 0) 0 (n_cut (xs 2) (n_combine (xs 1) 1 (n_cut (xs 2) ((((xs 4).toInt64) <<< ((32 : Int32).toInt64 &&& 63)) ||| (((xs 5).toInt64) &&& 4294967295))) (n_cut (xs 3) ((((xs 6).toInt64) <<< ((32 : Int32).toInt64 &&& 63)) ||| (((xs 7).toInt64) &&& 4294967295))))))))), (m0, .inr (11, y0.set 9 (.int 0)))] := hD
    refine lv_lstore (lv' := [(6, .long (n_cut (xs 2) (r_two 235 1 (n_cut (xs 2) ((((xs 4).toInt64) <<< ((32 : Int32).toInt64 &&& 63)) ||| (((xs 5).toInt64) &&& 4294967295))) (n_cut (xs 3) ((((xs 6).toInt64) <<< ((32 : Int32).toInt64 &&& 63)) ||| (((xs 7).toInt64) &&& 4294967295)))))), (5, .int 0), (0, .ref b), (1, .ref h0), (2, .ref m0), (3, .ref o0), (4, .int 0)]) hx hb dL_law_1601 hl (by decide) rfl (fun ls hl => ?_)
    refine lv_aload_n hx hb dL_law_1603 rfl (lv_at hl 4 rfl) ?_
    have hPc := hP.sub (ws' := [(m0, .inr (11, y0.set 9 (.int 0)))]) [2] rfl
    have hDc := hD.sub (ws' := [(m0, .inr (11, y0.set 9 (.int 0)))]) [2] (by decide) rfl
    have hFc := va_free (wc := [(m0, .inr (11, y0.set 9 (.int 0)))]) hD hS hA [2] rfl
    refine va_calli (va_runV (As := []) (rest := []) ⟨hx, hb, hml, hown, hts⟩ (a94_X12_thrown l  D kA V H.size m0 (y0.set 9 (.int 0)) (fun k hk => (by rw [List.length_set]; exact (hq k hk))) (List.getElem?_set_self (hq 9 (by decide)))) (cwV 0 hts (gw_V gw_1879 gw_1880 gw_1881 gw_16 gw_1882) rfl rfl rfl (by decide +kernel) ⟨(Nat.le_of_ble_eq_true rfl), (Nat.le_of_ble_eq_true rfl)⟩) ⟨aP.blind, va_recv hK hP (ci := 11) (q0 := 2) rfl rfl, aP.pre hE hS hPc hK hDc hFc⟩ rfl rfl hl.1 rfl (lv_room (Nat.le_of_ble_eq_true rfl)) dL_law_1604 ⟨(Nat.le_of_ble_eq_true rfl), (Nat.le_of_ble_eq_true rfl)⟩) hS (fun q _ h => hFc q h) hFc (fun r_100786 u t H1 locs ht hvm hw hB hz1 hk1 hS => ?_)
    obtain ⟨hP1, hD1⟩ := hB
    rw [ht] at hP1
    try dsimp only at hw hP1 hD1
    have w_100787 := hw
    subst w_100787
    obtain ⟨hP, hD⟩ := va_join (wr := [(h0, .inr (10, [.ref x0, .int 0, .ref x1, .ref x2, .ref x3, .ref x4, .ref x5, .ref x6, .ref x7, .ref x8, .int 0, .int 3000])), (o0, .inl (kA 1, 1, .inr (.inl (vp_updL (fun _ => 0) 0 (n_cut (xs 2) (n_combine (xs 1) 1 (n_cut (xs 2) ((((xs 4).toInt64) <<< ((32 : Int32).toInt64 &&& 63)) ||| (((xs 5).toInt64) &&& 4294967295))) (n_cut (xs 3) ((((xs 6).toInt64) <<< ((32 : Int32).toInt64 &&& 63)) ||| (((xs 7).toInt64) &&& 4294967295)))))))))]) (w1 := [(m0, .inr (11, (y0.set 9 (.int 0))))]) hP hD [2] [0, 1] rfl rfl (by decide) (by decide) hk1 hFc hP1 hD1
    generalize H1 = H at hP hS ⊢
    have hP : va_P D vwCl [(h0, .inr (10, [.ref x0, .int 0, .ref x1, .ref x2, .ref x3, .ref x4, .ref x5, .ref x6, .ref x7, .ref x8, .int 0, .int 3000])), (o0, .inl (kA 1, 1, .inr (.inl (vp_updL (fun _ => 0) 0 (n_cut (xs 2) (n_combine (xs 1) 1 (n_cut (xs 2) ((((xs 4).toInt64) <<< ((32 : Int32).toInt64 &&& 63)) ||| (((xs 5).toInt64) &&& 4294967295))) (n_cut (xs 3) ((((xs 6).toInt64) <<< ((32 : Int32).toInt64 &&& 63)) ||| (((xs 7).toInt64) &&& 4294967295))))))))), (m0, .inr (11, (y0.set 9 (.int 0))))] H := hP
    have hD : va_D A [(h0, .inr (10, [.ref x0, .int 0, .ref x1, .ref x2, .ref x3, .ref x4, .ref x5, .ref x6, .ref x7, .ref x8, .int 0, .int 3000])), (o0, .inl (kA 1, 1, .inr (.inl (vp_updL (fun _ => 0) 0 (n_cut (xs 2) (n_combine (xs 1) 1 (n_cut (xs 2) ((((xs 4).toInt64) <<< ((32 : Int32).toInt64 &&& 63)) ||| (((xs 5).toInt64) &&& 4294967295))) (n_cut (xs 3) ((((xs 6).toInt64) <<< ((32 : Int32).toInt64 &&& 63)) ||| (((xs 7).toInt64) &&& 4294967295))))))))), (m0, .inr (11, (y0.set 9 (.int 0))))] := hD
    refine lv_iload hx hb dL_law_1607 (lv_at hl 1 rfl) ?_
    refine lv_icmp_eq (tgt := 1614) hx hb dL_law_1609 (by decide) (fun c_100788 => ?_) (fun c_100788 => ?_)
    · skip
      refine lv_iload hx hb dL_law_1614 (lv_at hl 1 rfl) ?_
      refine lv_if_ne (tgt := 1630) hx hb dL_law_1616 (by decide) (fun c_100789 => ?_) (fun c_100789 => ?_)
      · exact absurd (by decide) c_100789
      · skip
        refine lv_aload_n hx hb dL_law_1619 rfl (lv_at hl 5 rfl) ?_
        refine lv_iconst (v := 0) hx hb dL_law_1620 (by decide) ?_
        refine va_lald hx hb hK hP 1 1 rfl rfl (show vp_in 0 1 by unfold vp_in; decide) dL_law_1621 ?_
        refine W.eq (g2 := F0 m 1622 ls [.long (n_cut (xs 2) (n_combine (xs 1) 1 (n_cut (xs 2) ((((xs 4).toInt64) <<< ((32 : Int32).toInt64 &&& 63)) ||| (((xs 5).toInt64) &&& 4294967295))) (n_cut (xs 3) ((((xs 6).toInt64) <<< ((32 : Int32).toInt64 &&& 63)) ||| (((xs 7).toInt64) &&& 4294967295)))))]) rfl ?_
        refine lv_lload hx hb dL_law_1622 (lv_at hl 0 rfl) ?_
        refine W.lcmp hx hb dL_law_1624 ?_
        refine lv_if_eq (tgt := 1630) hx hb dL_law_1625 (by decide) (fun c_100790 => ?_) (fun c_100790 => ?_)
        · skip
          refine lv_goto (tgt := 1804) hx hb dL_law_1630 (by decide) ?_
          exact lk_tail hC hA2 (lv_sub hl [2, 6] rfl) hS (Nat.le_of_ble_eq_true rfl) (Nat.le_of_ble_eq_true rfl)
        · exact absurd ((lg_cmp_eq _ _).mpr (qx_w1 c_145 c_100365 (fun q => q.1.elim (fun z => absurd (c_100376.symm.trans z) (by decide)) (fun z => absurd (c_100376.symm.trans z) (by decide))) (by rw [c_100376]; decide))) c_100790
    · exact absurd (by decide) c_100788
  · exact absurd hz.2.2.2.2.2.2.2.2.2.2.2.2.2.2.1 c_150
  · exact absurd c_152 hz.2.2.2.2.2.2.2.2.2.2.2.2.2.2.2.2.1
  · obtain ⟨c_100420, c_100421, c_100422, c_100423, c_100424, c_100425, c_100426, c_100427, c_100428, c_100429, c_100430, c_100431, c_100432, c_100433, c_100434, c_100435, c_100436, w_100437, w_100438⟩ := hz
    subst w_100437
    subst w_100438
    obtain ⟨hP, hD⟩ := va_join (wr := [(h0, .inr (10, [.ref x0, .int 0, .ref x1, .ref x2, .ref x3, .ref x4, .ref x5, .ref x6, .ref x7, .ref x8, .int 0, .int 3000])), (o0, .inl (kA 1, 1, .inr (.inl (vp_updL (fun _ => 0) 0 (n_cut (xs 2) (n_combine (xs 1) 1 (n_cut (xs 2) ((((xs 4).toInt64) <<< ((32 : Int32).toInt64 &&& 63)) ||| (((xs 5).toInt64) &&& 4294967295))) (n_cut (xs 3) ((((xs 6).toInt64) <<< ((32 : Int32).toInt64 &&& 63)) ||| (((xs 7).toInt64) &&& 4294967295)))))))))]) (w1 := [(m0, .inr (11, y0.set 9 (.int 0)))]) hP hD [0] [1, 2] rfl rfl (by decide) (by decide) hk1 hFc hP1 hD1
    generalize H1 = H at hP hS ⊢
    have hP : va_P D vwCl [(h0, .inr (10, [.ref x0, .int 0, .ref x1, .ref x2, .ref x3, .ref x4, .ref x5, .ref x6, .ref x7, .ref x8, .int 0, .int 3000])), (o0, .inl (kA 1, 1, .inr (.inl (vp_updL (fun _ => 0) 0 (n_cut (xs 2) (n_combine (xs 1) 1 (n_cut (xs 2) ((((xs 4).toInt64) <<< ((32 : Int32).toInt64 &&& 63)) ||| (((xs 5).toInt64) &&& 4294967295))) (n_cut (xs 3) ((((xs 6).toInt64) <<< ((32 : Int32).toInt64 &&& 63)) ||| (((xs 7).toInt64) &&& 4294967295))))))))), (m0, .inr (11, y0.set 9 (.int 0)))] H := hP
    have hD : va_D A [(h0, .inr (10, [.ref x0, .int 0, .ref x1, .ref x2, .ref x3, .ref x4, .ref x5, .ref x6, .ref x7, .ref x8, .int 0, .int 3000])), (o0, .inl (kA 1, 1, .inr (.inl (vp_updL (fun _ => 0) 0 (n_cut (xs 2) (n_combine (xs 1) 1 (n_cut (xs 2) ((((xs 4).toInt64) <<< ((32 : Int32).toInt64 &&& 63)) ||| (((xs 5).toInt64) &&& 4294967295))) (n_cut (xs 3) ((((xs 6).toInt64) <<< ((32 : Int32).toInt64 &&& 63)) ||| (((xs 7).toInt64) &&& 4294967295))))))))), (m0, .inr (11, y0.set 9 (.int 0)))] := hD
    refine lv_lstore (lv' := [(6, .long (n_cut (xs 2) (r_two 237 1 (n_cut (xs 2) ((((xs 4).toInt64) <<< ((32 : Int32).toInt64 &&& 63)) ||| (((xs 5).toInt64) &&& 4294967295))) (n_cut (xs 3) ((((xs 6).toInt64) <<< ((32 : Int32).toInt64 &&& 63)) ||| (((xs 7).toInt64) &&& 4294967295)))))), (5, .int 0), (0, .ref b), (1, .ref h0), (2, .ref m0), (3, .ref o0), (4, .int 0)]) hx hb dL_law_1601 hl (by decide) rfl (fun ls hl => ?_)
    refine lv_aload_n hx hb dL_law_1603 rfl (lv_at hl 4 rfl) ?_
    have hPc := hP.sub (ws' := [(m0, .inr (11, y0.set 9 (.int 0)))]) [2] rfl
    have hDc := hD.sub (ws' := [(m0, .inr (11, y0.set 9 (.int 0)))]) [2] (by decide) rfl
    have hFc := va_free (wc := [(m0, .inr (11, y0.set 9 (.int 0)))]) hD hS hA [2] rfl
    refine va_calli (va_runV (As := []) (rest := []) ⟨hx, hb, hml, hown, hts⟩ (a94_X12_thrown l  D kA V H.size m0 (y0.set 9 (.int 0)) (fun k hk => (by rw [List.length_set]; exact (hq k hk))) (List.getElem?_set_self (hq 9 (by decide)))) (cwV 0 hts (gw_V gw_1879 gw_1880 gw_1881 gw_16 gw_1882) rfl rfl rfl (by decide +kernel) ⟨(Nat.le_of_ble_eq_true rfl), (Nat.le_of_ble_eq_true rfl)⟩) ⟨aP.blind, va_recv hK hP (ci := 11) (q0 := 2) rfl rfl, aP.pre hE hS hPc hK hDc hFc⟩ rfl rfl hl.1 rfl (lv_room (Nat.le_of_ble_eq_true rfl)) dL_law_1604 ⟨(Nat.le_of_ble_eq_true rfl), (Nat.le_of_ble_eq_true rfl)⟩) hS (fun q _ h => hFc q h) hFc (fun r_100791 u t H1 locs ht hvm hw hB hz1 hk1 hS => ?_)
    obtain ⟨hP1, hD1⟩ := hB
    rw [ht] at hP1
    try dsimp only at hw hP1 hD1
    have w_100792 := hw
    subst w_100792
    obtain ⟨hP, hD⟩ := va_join (wr := [(h0, .inr (10, [.ref x0, .int 0, .ref x1, .ref x2, .ref x3, .ref x4, .ref x5, .ref x6, .ref x7, .ref x8, .int 0, .int 3000])), (o0, .inl (kA 1, 1, .inr (.inl (vp_updL (fun _ => 0) 0 (n_cut (xs 2) (n_combine (xs 1) 1 (n_cut (xs 2) ((((xs 4).toInt64) <<< ((32 : Int32).toInt64 &&& 63)) ||| (((xs 5).toInt64) &&& 4294967295))) (n_cut (xs 3) ((((xs 6).toInt64) <<< ((32 : Int32).toInt64 &&& 63)) ||| (((xs 7).toInt64) &&& 4294967295)))))))))]) (w1 := [(m0, .inr (11, (y0.set 9 (.int 0))))]) hP hD [2] [0, 1] rfl rfl (by decide) (by decide) hk1 hFc hP1 hD1
    generalize H1 = H at hP hS ⊢
    have hP : va_P D vwCl [(h0, .inr (10, [.ref x0, .int 0, .ref x1, .ref x2, .ref x3, .ref x4, .ref x5, .ref x6, .ref x7, .ref x8, .int 0, .int 3000])), (o0, .inl (kA 1, 1, .inr (.inl (vp_updL (fun _ => 0) 0 (n_cut (xs 2) (n_combine (xs 1) 1 (n_cut (xs 2) ((((xs 4).toInt64) <<< ((32 : Int32).toInt64 &&& 63)) ||| (((xs 5).toInt64) &&& 4294967295))) (n_cut (xs 3) ((((xs 6).toInt64) <<< ((32 : Int32).toInt64 &&& 63)) ||| (((xs 7).toInt64) &&& 4294967295))))))))), (m0, .inr (11, (y0.set 9 (.int 0))))] H := hP
    have hD : va_D A [(h0, .inr (10, [.ref x0, .int 0, .ref x1, .ref x2, .ref x3, .ref x4, .ref x5, .ref x6, .ref x7, .ref x8, .int 0, .int 3000])), (o0, .inl (kA 1, 1, .inr (.inl (vp_updL (fun _ => 0) 0 (n_cut (xs 2) (n_combine (xs 1) 1 (n_cut (xs 2) ((((xs 4).toInt64) <<< ((32 : Int32).toInt64 &&& 63)) ||| (((xs 5).toInt64) &&& 4294967295))) (n_cut (xs 3) ((((xs 6).toInt64) <<< ((32 : Int32).toInt64 &&& 63)) ||| (((xs 7).toInt64) &&& 4294967295))))))))), (m0, .inr (11, (y0.set 9 (.int 0))))] := hD
    refine lv_iload hx hb dL_law_1607 (lv_at hl 1 rfl) ?_
    refine lv_icmp_eq (tgt := 1614) hx hb dL_law_1609 (by decide) (fun c_100793 => ?_) (fun c_100793 => ?_)
    · skip
      refine lv_iload hx hb dL_law_1614 (lv_at hl 1 rfl) ?_
      refine lv_if_ne (tgt := 1630) hx hb dL_law_1616 (by decide) (fun c_100794 => ?_) (fun c_100794 => ?_)
      · exact absurd (by decide) c_100794
      · skip
        refine lv_aload_n hx hb dL_law_1619 rfl (lv_at hl 5 rfl) ?_
        refine lv_iconst (v := 0) hx hb dL_law_1620 (by decide) ?_
        refine va_lald hx hb hK hP 1 1 rfl rfl (show vp_in 0 1 by unfold vp_in; decide) dL_law_1621 ?_
        refine W.eq (g2 := F0 m 1622 ls [.long (n_cut (xs 2) (n_combine (xs 1) 1 (n_cut (xs 2) ((((xs 4).toInt64) <<< ((32 : Int32).toInt64 &&& 63)) ||| (((xs 5).toInt64) &&& 4294967295))) (n_cut (xs 3) ((((xs 6).toInt64) <<< ((32 : Int32).toInt64 &&& 63)) ||| (((xs 7).toInt64) &&& 4294967295)))))]) rfl ?_
        refine lv_lload hx hb dL_law_1622 (lv_at hl 0 rfl) ?_
        refine W.lcmp hx hb dL_law_1624 ?_
        refine lv_if_eq (tgt := 1630) hx hb dL_law_1625 (by decide) (fun c_100795 => ?_) (fun c_100795 => ?_)
        · skip
          refine lv_goto (tgt := 1804) hx hb dL_law_1630 (by decide) ?_
          exact lk_tail hC hA2 (lv_sub hl [2, 6] rfl) hS (Nat.le_of_ble_eq_true rfl) (Nat.le_of_ble_eq_true rfl)
        · exact absurd ((lg_cmp_eq _ _).mpr (qx_w1 c_145 c_100421 (fun q => q.1.elim (fun z => absurd (c_100431.symm.trans z) (by decide)) (fun z => absurd (c_100431.symm.trans z) (by decide))) (by rw [c_100431]; decide))) c_100795
    · exact absurd (by decide) c_100793
  · exact absurd hz.2.2.2.2.2.2.2.2.2.2.1 c_149
  · exact absurd hz.2.2.2.2.2.2.2.2.2.2.1 c_149
  · exact absurd hz.2.2.2.2.2.2.2.2.2.2.1 c_149
  · exact absurd hz.2.2.2.2.2.2.2.2.2.2.1 c_149
  · exact absurd hz.2.2.2.2.2.2.2.2.2.2.1 c_149
  · exact absurd hz.2.2.2.2.2.2.2.2.2.2.1 c_149
  · exact absurd hz.2.2.2.2.2.2.2.2.2.1 c_148
  · exact absurd hz.2.2.2.2.2.2.2.2.2.1 c_148
  · exact absurd hz.2.2.2.2.2.2.2.2.2.1 c_148
  · exact absurd hz.2.2.2.2.2.2.2.2.2.1 c_148
  · exact absurd hz.2.2.2.2.2.2.2.2.2.1 c_148
  · exact absurd hz.2.2.2.2.2.2.2.2.2.1 c_148
  · exact absurd hz.2.2.2.2.2.2.2.2.2.2.2.1 c_150
  · exact absurd c_152 hz.2.2.2.2.2.2.2.2.2.2.2.2.2.1
  · obtain ⟨c_100677, c_100678, c_100679, c_100680, c_100681, c_100682, c_100683, c_100684, c_100685, c_100686, c_100687, c_100688, c_100689, c_100690, w_100691, w_100692⟩ := hz
    subst w_100691
    subst w_100692
    obtain ⟨hP, hD⟩ := va_join (wr := [(h0, .inr (10, [.ref x0, .int 0, .ref x1, .ref x2, .ref x3, .ref x4, .ref x5, .ref x6, .ref x7, .ref x8, .int 0, .int 3000])), (o0, .inl (kA 1, 1, .inr (.inl (vp_updL (fun _ => 0) 0 (n_cut (xs 2) (n_combine (xs 1) 1 (n_cut (xs 2) ((((xs 4).toInt64) <<< ((32 : Int32).toInt64 &&& 63)) ||| (((xs 5).toInt64) &&& 4294967295))) (n_cut (xs 3) ((((xs 6).toInt64) <<< ((32 : Int32).toInt64 &&& 63)) ||| (((xs 7).toInt64) &&& 4294967295)))))))))]) (w1 := [(m0, .inr (11, y0.set 9 (.int 0)))]) hP hD [0] [1, 2] rfl rfl (by decide) (by decide) hk1 hFc hP1 hD1
    generalize H1 = H at hP hS ⊢
    have hP : va_P D vwCl [(h0, .inr (10, [.ref x0, .int 0, .ref x1, .ref x2, .ref x3, .ref x4, .ref x5, .ref x6, .ref x7, .ref x8, .int 0, .int 3000])), (o0, .inl (kA 1, 1, .inr (.inl (vp_updL (fun _ => 0) 0 (n_cut (xs 2) (n_combine (xs 1) 1 (n_cut (xs 2) ((((xs 4).toInt64) <<< ((32 : Int32).toInt64 &&& 63)) ||| (((xs 5).toInt64) &&& 4294967295))) (n_cut (xs 3) ((((xs 6).toInt64) <<< ((32 : Int32).toInt64 &&& 63)) ||| (((xs 7).toInt64) &&& 4294967295))))))))), (m0, .inr (11, y0.set 9 (.int 0)))] H := hP
    have hD : va_D A [(h0, .inr (10, [.ref x0, .int 0, .ref x1, .ref x2, .ref x3, .ref x4, .ref x5, .ref x6, .ref x7, .ref x8, .int 0, .int 3000])), (o0, .inl (kA 1, 1, .inr (.inl (vp_updL (fun _ => 0) 0 (n_cut (xs 2) (n_combine (xs 1) 1 (n_cut (xs 2) ((((xs 4).toInt64) <<< ((32 : Int32).toInt64 &&& 63)) ||| (((xs 5).toInt64) &&& 4294967295))) (n_cut (xs 3) ((((xs 6).toInt64) <<< ((32 : Int32).toInt64 &&& 63)) ||| (((xs 7).toInt64) &&& 4294967295))))))))), (m0, .inr (11, y0.set 9 (.int 0)))] := hD
    refine lv_lstore (lv' := [(6, .long (n_cut (xs 2) (r_two 242 1 (n_cut (xs 2) ((((xs 4).toInt64) <<< ((32 : Int32).toInt64 &&& 63)) ||| (((xs 5).toInt64) &&& 4294967295))) (n_cut (xs 3) ((((xs 6).toInt64) <<< ((32 : Int32).toInt64 &&& 63)) ||| (((xs 7).toInt64) &&& 4294967295)))))), (5, .int 0), (0, .ref b), (1, .ref h0), (2, .ref m0), (3, .ref o0), (4, .int 0)]) hx hb dL_law_1601 hl (by decide) rfl (fun ls hl => ?_)
    refine lv_aload_n hx hb dL_law_1603 rfl (lv_at hl 4 rfl) ?_
    have hPc := hP.sub (ws' := [(m0, .inr (11, y0.set 9 (.int 0)))]) [2] rfl
    have hDc := hD.sub (ws' := [(m0, .inr (11, y0.set 9 (.int 0)))]) [2] (by decide) rfl
    have hFc := va_free (wc := [(m0, .inr (11, y0.set 9 (.int 0)))]) hD hS hA [2] rfl
    refine va_calli (va_runV (As := []) (rest := []) ⟨hx, hb, hml, hown, hts⟩ (a94_X12_thrown l  D kA V H.size m0 (y0.set 9 (.int 0)) (fun k hk => (by rw [List.length_set]; exact (hq k hk))) (List.getElem?_set_self (hq 9 (by decide)))) (cwV 0 hts (gw_V gw_1879 gw_1880 gw_1881 gw_16 gw_1882) rfl rfl rfl (by decide +kernel) ⟨(Nat.le_of_ble_eq_true rfl), (Nat.le_of_ble_eq_true rfl)⟩) ⟨aP.blind, va_recv hK hP (ci := 11) (q0 := 2) rfl rfl, aP.pre hE hS hPc hK hDc hFc⟩ rfl rfl hl.1 rfl (lv_room (Nat.le_of_ble_eq_true rfl)) dL_law_1604 ⟨(Nat.le_of_ble_eq_true rfl), (Nat.le_of_ble_eq_true rfl)⟩) hS (fun q _ h => hFc q h) hFc (fun r_100796 u t H1 locs ht hvm hw hB hz1 hk1 hS => ?_)
    obtain ⟨hP1, hD1⟩ := hB
    rw [ht] at hP1
    try dsimp only at hw hP1 hD1
    have w_100797 := hw
    subst w_100797
    obtain ⟨hP, hD⟩ := va_join (wr := [(h0, .inr (10, [.ref x0, .int 0, .ref x1, .ref x2, .ref x3, .ref x4, .ref x5, .ref x6, .ref x7, .ref x8, .int 0, .int 3000])), (o0, .inl (kA 1, 1, .inr (.inl (vp_updL (fun _ => 0) 0 (n_cut (xs 2) (n_combine (xs 1) 1 (n_cut (xs 2) ((((xs 4).toInt64) <<< ((32 : Int32).toInt64 &&& 63)) ||| (((xs 5).toInt64) &&& 4294967295))) (n_cut (xs 3) ((((xs 6).toInt64) <<< ((32 : Int32).toInt64 &&& 63)) ||| (((xs 7).toInt64) &&& 4294967295)))))))))]) (w1 := [(m0, .inr (11, (y0.set 9 (.int 0))))]) hP hD [2] [0, 1] rfl rfl (by decide) (by decide) hk1 hFc hP1 hD1
    generalize H1 = H at hP hS ⊢
    have hP : va_P D vwCl [(h0, .inr (10, [.ref x0, .int 0, .ref x1, .ref x2, .ref x3, .ref x4, .ref x5, .ref x6, .ref x7, .ref x8, .int 0, .int 3000])), (o0, .inl (kA 1, 1, .inr (.inl (vp_updL (fun _ => 0) 0 (n_cut (xs 2) (n_combine (xs 1) 1 (n_cut (xs 2) ((((xs 4).toInt64) <<< ((32 : Int32).toInt64 &&& 63)) ||| (((xs 5).toInt64) &&& 4294967295))) (n_cut (xs 3) ((((xs 6).toInt64) <<< ((32 : Int32).toInt64 &&& 63)) ||| (((xs 7).toInt64) &&& 4294967295))))))))), (m0, .inr (11, (y0.set 9 (.int 0))))] H := hP
    have hD : va_D A [(h0, .inr (10, [.ref x0, .int 0, .ref x1, .ref x2, .ref x3, .ref x4, .ref x5, .ref x6, .ref x7, .ref x8, .int 0, .int 3000])), (o0, .inl (kA 1, 1, .inr (.inl (vp_updL (fun _ => 0) 0 (n_cut (xs 2) (n_combine (xs 1) 1 (n_cut (xs 2) ((((xs 4).toInt64) <<< ((32 : Int32).toInt64 &&& 63)) ||| (((xs 5).toInt64) &&& 4294967295))) (n_cut (xs 3) ((((xs 6).toInt64) <<< ((32 : Int32).toInt64 &&& 63)) ||| (((xs 7).toInt64) &&& 4294967295))))))))), (m0, .inr (11, (y0.set 9 (.int 0))))] := hD
    refine lv_iload hx hb dL_law_1607 (lv_at hl 1 rfl) ?_
    refine lv_icmp_eq (tgt := 1614) hx hb dL_law_1609 (by decide) (fun c_100798 => ?_) (fun c_100798 => ?_)
    · skip
      refine lv_iload hx hb dL_law_1614 (lv_at hl 1 rfl) ?_
      refine lv_if_ne (tgt := 1630) hx hb dL_law_1616 (by decide) (fun c_100799 => ?_) (fun c_100799 => ?_)
      · exact absurd (by decide) c_100799
      · skip
        refine lv_aload_n hx hb dL_law_1619 rfl (lv_at hl 5 rfl) ?_
        refine lv_iconst (v := 0) hx hb dL_law_1620 (by decide) ?_
        refine va_lald hx hb hK hP 1 1 rfl rfl (show vp_in 0 1 by unfold vp_in; decide) dL_law_1621 ?_
        refine W.eq (g2 := F0 m 1622 ls [.long (n_cut (xs 2) (n_combine (xs 1) 1 (n_cut (xs 2) ((((xs 4).toInt64) <<< ((32 : Int32).toInt64 &&& 63)) ||| (((xs 5).toInt64) &&& 4294967295))) (n_cut (xs 3) ((((xs 6).toInt64) <<< ((32 : Int32).toInt64 &&& 63)) ||| (((xs 7).toInt64) &&& 4294967295)))))]) rfl ?_
        refine lv_lload hx hb dL_law_1622 (lv_at hl 0 rfl) ?_
        refine W.lcmp hx hb dL_law_1624 ?_
        refine lv_if_eq (tgt := 1630) hx hb dL_law_1625 (by decide) (fun c_100800 => ?_) (fun c_100800 => ?_)
        · skip
          refine lv_goto (tgt := 1804) hx hb dL_law_1630 (by decide) ?_
          exact lk_tail hC hA2 (lv_sub hl [2, 6] rfl) hS (Nat.le_of_ble_eq_true rfl) (Nat.le_of_ble_eq_true rfl)
        · exact absurd ((lg_cmp_eq _ _).mpr (qx_w1 c_145 c_100678 (fun q => q.1.elim (fun z => absurd (c_100685.symm.trans z) (by decide)) (fun z => absurd (c_100685.symm.trans z) (by decide))) (by rw [c_100685]; decide))) c_100800
    · exact absurd (by decide) c_100798
  · exact absurd hz.2.2.2.2.2.2.2.2.2.2.1 c_150
  · exact absurd c_152 hz.2.2.2.2.2.2.2.2.2.2.2.2.1
  · obtain ⟨c_100721, c_100722, c_100723, c_100724, c_100725, c_100726, c_100727, c_100728, c_100729, c_100730, c_100731, c_100732, c_100733, w_100734, w_100735⟩ := hz
    subst w_100734
    subst w_100735
    obtain ⟨hP, hD⟩ := va_join (wr := [(h0, .inr (10, [.ref x0, .int 0, .ref x1, .ref x2, .ref x3, .ref x4, .ref x5, .ref x6, .ref x7, .ref x8, .int 0, .int 3000])), (o0, .inl (kA 1, 1, .inr (.inl (vp_updL (fun _ => 0) 0 (n_cut (xs 2) (n_combine (xs 1) 1 (n_cut (xs 2) ((((xs 4).toInt64) <<< ((32 : Int32).toInt64 &&& 63)) ||| (((xs 5).toInt64) &&& 4294967295))) (n_cut (xs 3) ((((xs 6).toInt64) <<< ((32 : Int32).toInt64 &&& 63)) ||| (((xs 7).toInt64) &&& 4294967295)))))))))]) (w1 := [(m0, .inr (11, y0.set 9 (.int 0)))]) hP hD [0] [1, 2] rfl rfl (by decide) (by decide) hk1 hFc hP1 hD1
    generalize H1 = H at hP hS ⊢
    have hP : va_P D vwCl [(h0, .inr (10, [.ref x0, .int 0, .ref x1, .ref x2, .ref x3, .ref x4, .ref x5, .ref x6, .ref x7, .ref x8, .int 0, .int 3000])), (o0, .inl (kA 1, 1, .inr (.inl (vp_updL (fun _ => 0) 0 (n_cut (xs 2) (n_combine (xs 1) 1 (n_cut (xs 2) ((((xs 4).toInt64) <<< ((32 : Int32).toInt64 &&& 63)) ||| (((xs 5).toInt64) &&& 4294967295))) (n_cut (xs 3) ((((xs 6).toInt64) <<< ((32 : Int32).toInt64 &&& 63)) ||| (((xs 7).toInt64) &&& 4294967295))))))))), (m0, .inr (11, y0.set 9 (.int 0)))] H := hP
    have hD : va_D A [(h0, .inr (10, [.ref x0, .int 0, .ref x1, .ref x2, .ref x3, .ref x4, .ref x5, .ref x6, .ref x7, .ref x8, .int 0, .int 3000])), (o0, .inl (kA 1, 1, .inr (.inl (vp_updL (fun _ => 0) 0 (n_cut (xs 2) (n_combine (xs 1) 1 (n_cut (xs 2) ((((xs 4).toInt64) <<< ((32 : Int32).toInt64 &&& 63)) ||| (((xs 5).toInt64) &&& 4294967295))) (n_cut (xs 3) ((((xs 6).toInt64) <<< ((32 : Int32).toInt64 &&& 63)) ||| (((xs 7).toInt64) &&& 4294967295))))))))), (m0, .inr (11, y0.set 9 (.int 0)))] := hD
    refine lv_lstore (lv' := [(6, .long (n_cut (xs 2) (r_two 241 1 (n_cut (xs 2) ((((xs 4).toInt64) <<< ((32 : Int32).toInt64 &&& 63)) ||| (((xs 5).toInt64) &&& 4294967295))) (n_cut (xs 3) ((((xs 6).toInt64) <<< ((32 : Int32).toInt64 &&& 63)) ||| (((xs 7).toInt64) &&& 4294967295)))))), (5, .int 0), (0, .ref b), (1, .ref h0), (2, .ref m0), (3, .ref o0), (4, .int 0)]) hx hb dL_law_1601 hl (by decide) rfl (fun ls hl => ?_)
    refine lv_aload_n hx hb dL_law_1603 rfl (lv_at hl 4 rfl) ?_
    have hPc := hP.sub (ws' := [(m0, .inr (11, y0.set 9 (.int 0)))]) [2] rfl
    have hDc := hD.sub (ws' := [(m0, .inr (11, y0.set 9 (.int 0)))]) [2] (by decide) rfl
    have hFc := va_free (wc := [(m0, .inr (11, y0.set 9 (.int 0)))]) hD hS hA [2] rfl
    refine va_calli (va_runV (As := []) (rest := []) ⟨hx, hb, hml, hown, hts⟩ (a94_X12_thrown l  D kA V H.size m0 (y0.set 9 (.int 0)) (fun k hk => (by rw [List.length_set]; exact (hq k hk))) (List.getElem?_set_self (hq 9 (by decide)))) (cwV 0 hts (gw_V gw_1879 gw_1880 gw_1881 gw_16 gw_1882) rfl rfl rfl (by decide +kernel) ⟨(Nat.le_of_ble_eq_true rfl), (Nat.le_of_ble_eq_true rfl)⟩) ⟨aP.blind, va_recv hK hP (ci := 11) (q0 := 2) rfl rfl, aP.pre hE hS hPc hK hDc hFc⟩ rfl rfl hl.1 rfl (lv_room (Nat.le_of_ble_eq_true rfl)) dL_law_1604 ⟨(Nat.le_of_ble_eq_true rfl), (Nat.le_of_ble_eq_true rfl)⟩) hS (fun q _ h => hFc q h) hFc (fun r_100801 u t H1 locs ht hvm hw hB hz1 hk1 hS => ?_)
    obtain ⟨hP1, hD1⟩ := hB
    rw [ht] at hP1
    try dsimp only at hw hP1 hD1
    have w_100802 := hw
    subst w_100802
    obtain ⟨hP, hD⟩ := va_join (wr := [(h0, .inr (10, [.ref x0, .int 0, .ref x1, .ref x2, .ref x3, .ref x4, .ref x5, .ref x6, .ref x7, .ref x8, .int 0, .int 3000])), (o0, .inl (kA 1, 1, .inr (.inl (vp_updL (fun _ => 0) 0 (n_cut (xs 2) (n_combine (xs 1) 1 (n_cut (xs 2) ((((xs 4).toInt64) <<< ((32 : Int32).toInt64 &&& 63)) ||| (((xs 5).toInt64) &&& 4294967295))) (n_cut (xs 3) ((((xs 6).toInt64) <<< ((32 : Int32).toInt64 &&& 63)) ||| (((xs 7).toInt64) &&& 4294967295)))))))))]) (w1 := [(m0, .inr (11, (y0.set 9 (.int 0))))]) hP hD [2] [0, 1] rfl rfl (by decide) (by decide) hk1 hFc hP1 hD1
    generalize H1 = H at hP hS ⊢
    have hP : va_P D vwCl [(h0, .inr (10, [.ref x0, .int 0, .ref x1, .ref x2, .ref x3, .ref x4, .ref x5, .ref x6, .ref x7, .ref x8, .int 0, .int 3000])), (o0, .inl (kA 1, 1, .inr (.inl (vp_updL (fun _ => 0) 0 (n_cut (xs 2) (n_combine (xs 1) 1 (n_cut (xs 2) ((((xs 4).toInt64) <<< ((32 : Int32).toInt64 &&& 63)) ||| (((xs 5).toInt64) &&& 4294967295))) (n_cut (xs 3) ((((xs 6).toInt64) <<< ((32 : Int32).toInt64 &&& 63)) ||| (((xs 7).toInt64) &&& 4294967295))))))))), (m0, .inr (11, (y0.set 9 (.int 0))))] H := hP
    have hD : va_D A [(h0, .inr (10, [.ref x0, .int 0, .ref x1, .ref x2, .ref x3, .ref x4, .ref x5, .ref x6, .ref x7, .ref x8, .int 0, .int 3000])), (o0, .inl (kA 1, 1, .inr (.inl (vp_updL (fun _ => 0) 0 (n_cut (xs 2) (n_combine (xs 1) 1 (n_cut (xs 2) ((((xs 4).toInt64) <<< ((32 : Int32).toInt64 &&& 63)) ||| (((xs 5).toInt64) &&& 4294967295))) (n_cut (xs 3) ((((xs 6).toInt64) <<< ((32 : Int32).toInt64 &&& 63)) ||| (((xs 7).toInt64) &&& 4294967295))))))))), (m0, .inr (11, (y0.set 9 (.int 0))))] := hD
    refine lv_iload hx hb dL_law_1607 (lv_at hl 1 rfl) ?_
    refine lv_icmp_eq (tgt := 1614) hx hb dL_law_1609 (by decide) (fun c_100803 => ?_) (fun c_100803 => ?_)
    · skip
      refine lv_iload hx hb dL_law_1614 (lv_at hl 1 rfl) ?_
      refine lv_if_ne (tgt := 1630) hx hb dL_law_1616 (by decide) (fun c_100804 => ?_) (fun c_100804 => ?_)
      · exact absurd (by decide) c_100804
      · skip
        refine lv_aload_n hx hb dL_law_1619 rfl (lv_at hl 5 rfl) ?_
        refine lv_iconst (v := 0) hx hb dL_law_1620 (by decide) ?_
        refine va_lald hx hb hK hP 1 1 rfl rfl (show vp_in 0 1 by unfold vp_in; decide) dL_law_1621 ?_
        refine W.eq (g2 := F0 m 1622 ls [.long (n_cut (xs 2) (n_combine (xs 1) 1 (n_cut (xs 2) ((((xs 4).toInt64) <<< ((32 : Int32).toInt64 &&& 63)) ||| (((xs 5).toInt64) &&& 4294967295))) (n_cut (xs 3) ((((xs 6).toInt64) <<< ((32 : Int32).toInt64 &&& 63)) ||| (((xs 7).toInt64) &&& 4294967295)))))]) rfl ?_
        refine lv_lload hx hb dL_law_1622 (lv_at hl 0 rfl) ?_
        refine W.lcmp hx hb dL_law_1624 ?_
        refine lv_if_eq (tgt := 1630) hx hb dL_law_1625 (by decide) (fun c_100805 => ?_) (fun c_100805 => ?_)
        · skip
          refine lv_goto (tgt := 1804) hx hb dL_law_1630 (by decide) ?_
          exact lk_tail hC hA2 (lv_sub hl [2, 6] rfl) hS (Nat.le_of_ble_eq_true rfl) (Nat.le_of_ble_eq_true rfl)
        · exact absurd ((lg_cmp_eq _ _).mpr (qx_w1 c_145 c_100722 (fun q => q.1.elim (fun z => absurd (c_100728.symm.trans z) (by decide)) (fun z => absurd (c_100728.symm.trans z) (by decide))) (by rw [c_100728]; decide))) c_100805
    · exact absurd (by decide) c_100803
  · exact absurd hz.2.2.2.2.2.2.2.2.2.1 c_150
  · exact absurd c_152 hz.2.2.2.2.2.2.2.2.2.2.2.1
  · obtain ⟨c_100762, c_100763, c_100764, c_100765, c_100766, c_100767, c_100768, c_100769, c_100770, c_100771, c_100772, c_100773, w_100774, w_100775⟩ := hz
    subst w_100774
    subst w_100775
    obtain ⟨hP, hD⟩ := va_join (wr := [(h0, .inr (10, [.ref x0, .int 0, .ref x1, .ref x2, .ref x3, .ref x4, .ref x5, .ref x6, .ref x7, .ref x8, .int 0, .int 3000])), (o0, .inl (kA 1, 1, .inr (.inl (vp_updL (fun _ => 0) 0 (n_cut (xs 2) (n_combine (xs 1) 1 (n_cut (xs 2) ((((xs 4).toInt64) <<< ((32 : Int32).toInt64 &&& 63)) ||| (((xs 5).toInt64) &&& 4294967295))) (n_cut (xs 3) ((((xs 6).toInt64) <<< ((32 : Int32).toInt64 &&& 63)) ||| (((xs 7).toInt64) &&& 4294967295)))))))))]) (w1 := [(m0, .inr (11, y0.set 9 (.int 0)))]) hP hD [0] [1, 2] rfl rfl (by decide) (by decide) hk1 hFc hP1 hD1
    generalize H1 = H at hP hS ⊢
    have hP : va_P D vwCl [(h0, .inr (10, [.ref x0, .int 0, .ref x1, .ref x2, .ref x3, .ref x4, .ref x5, .ref x6, .ref x7, .ref x8, .int 0, .int 3000])), (o0, .inl (kA 1, 1, .inr (.inl (vp_updL (fun _ => 0) 0 (n_cut (xs 2) (n_combine (xs 1) 1 (n_cut (xs 2) ((((xs 4).toInt64) <<< ((32 : Int32).toInt64 &&& 63)) ||| (((xs 5).toInt64) &&& 4294967295))) (n_cut (xs 3) ((((xs 6).toInt64) <<< ((32 : Int32).toInt64 &&& 63)) ||| (((xs 7).toInt64) &&& 4294967295))))))))), (m0, .inr (11, y0.set 9 (.int 0)))] H := hP
    have hD : va_D A [(h0, .inr (10, [.ref x0, .int 0, .ref x1, .ref x2, .ref x3, .ref x4, .ref x5, .ref x6, .ref x7, .ref x8, .int 0, .int 3000])), (o0, .inl (kA 1, 1, .inr (.inl (vp_updL (fun _ => 0) 0 (n_cut (xs 2) (n_combine (xs 1) 1 (n_cut (xs 2) ((((xs 4).toInt64) <<< ((32 : Int32).toInt64 &&& 63)) ||| (((xs 5).toInt64) &&& 4294967295))) (n_cut (xs 3) ((((xs 6).toInt64) <<< ((32 : Int32).toInt64 &&& 63)) ||| (((xs 7).toInt64) &&& 4294967295))))))))), (m0, .inr (11, y0.set 9 (.int 0)))] := hD
    refine lv_lstore (lv' := [(6, .long (n_cut (xs 2) (r_two 240 1 (n_cut (xs 2) ((((xs 4).toInt64) <<< ((32 : Int32).toInt64 &&& 63)) ||| (((xs 5).toInt64) &&& 4294967295))) (n_cut (xs 3) ((((xs 6).toInt64) <<< ((32 : Int32).toInt64 &&& 63)) ||| (((xs 7).toInt64) &&& 4294967295)))))), (5, .int 0), (0, .ref b), (1, .ref h0), (2, .ref m0), (3, .ref o0), (4, .int 0)]) hx hb dL_law_1601 hl (by decide) rfl (fun ls hl => ?_)
    refine lv_aload_n hx hb dL_law_1603 rfl (lv_at hl 4 rfl) ?_
    have hPc := hP.sub (ws' := [(m0, .inr (11, y0.set 9 (.int 0)))]) [2] rfl
    have hDc := hD.sub (ws' := [(m0, .inr (11, y0.set 9 (.int 0)))]) [2] (by decide) rfl
    have hFc := va_free (wc := [(m0, .inr (11, y0.set 9 (.int 0)))]) hD hS hA [2] rfl
    refine va_calli (va_runV (As := []) (rest := []) ⟨hx, hb, hml, hown, hts⟩ (a94_X12_thrown l  D kA V H.size m0 (y0.set 9 (.int 0)) (fun k hk => (by rw [List.length_set]; exact (hq k hk))) (List.getElem?_set_self (hq 9 (by decide)))) (cwV 0 hts (gw_V gw_1879 gw_1880 gw_1881 gw_16 gw_1882) rfl rfl rfl (by decide +kernel) ⟨(Nat.le_of_ble_eq_true rfl), (Nat.le_of_ble_eq_true rfl)⟩) ⟨aP.blind, va_recv hK hP (ci := 11) (q0 := 2) rfl rfl, aP.pre hE hS hPc hK hDc hFc⟩ rfl rfl hl.1 rfl (lv_room (Nat.le_of_ble_eq_true rfl)) dL_law_1604 ⟨(Nat.le_of_ble_eq_true rfl), (Nat.le_of_ble_eq_true rfl)⟩) hS (fun q _ h => hFc q h) hFc (fun r_100806 u t H1 locs ht hvm hw hB hz1 hk1 hS => ?_)
    obtain ⟨hP1, hD1⟩ := hB
    rw [ht] at hP1
    try dsimp only at hw hP1 hD1
    have w_100807 := hw
    subst w_100807
    obtain ⟨hP, hD⟩ := va_join (wr := [(h0, .inr (10, [.ref x0, .int 0, .ref x1, .ref x2, .ref x3, .ref x4, .ref x5, .ref x6, .ref x7, .ref x8, .int 0, .int 3000])), (o0, .inl (kA 1, 1, .inr (.inl (vp_updL (fun _ => 0) 0 (n_cut (xs 2) (n_combine (xs 1) 1 (n_cut (xs 2) ((((xs 4).toInt64) <<< ((32 : Int32).toInt64 &&& 63)) ||| (((xs 5).toInt64) &&& 4294967295))) (n_cut (xs 3) ((((xs 6).toInt64) <<< ((32 : Int32).toInt64 &&& 63)) ||| (((xs 7).toInt64) &&& 4294967295)))))))))]) (w1 := [(m0, .inr (11, (y0.set 9 (.int 0))))]) hP hD [2] [0, 1] rfl rfl (by decide) (by decide) hk1 hFc hP1 hD1
    generalize H1 = H at hP hS ⊢
    have hP : va_P D vwCl [(h0, .inr (10, [.ref x0, .int 0, .ref x1, .ref x2, .ref x3, .ref x4, .ref x5, .ref x6, .ref x7, .ref x8, .int 0, .int 3000])), (o0, .inl (kA 1, 1, .inr (.inl (vp_updL (fun _ => 0) 0 (n_cut (xs 2) (n_combine (xs 1) 1 (n_cut (xs 2) ((((xs 4).toInt64) <<< ((32 : Int32).toInt64 &&& 63)) ||| (((xs 5).toInt64) &&& 4294967295))) (n_cut (xs 3) ((((xs 6).toInt64) <<< ((32 : Int32).toInt64 &&& 63)) ||| (((xs 7).toInt64) &&& 4294967295))))))))), (m0, .inr (11, (y0.set 9 (.int 0))))] H := hP
    have hD : va_D A [(h0, .inr (10, [.ref x0, .int 0, .ref x1, .ref x2, .ref x3, .ref x4, .ref x5, .ref x6, .ref x7, .ref x8, .int 0, .int 3000])), (o0, .inl (kA 1, 1, .inr (.inl (vp_updL (fun _ => 0) 0 (n_cut (xs 2) (n_combine (xs 1) 1 (n_cut (xs 2) ((((xs 4).toInt64) <<< ((32 : Int32).toInt64 &&& 63)) ||| (((xs 5).toInt64) &&& 4294967295))) (n_cut (xs 3) ((((xs 6).toInt64) <<< ((32 : Int32).toInt64 &&& 63)) ||| (((xs 7).toInt64) &&& 4294967295))))))))), (m0, .inr (11, (y0.set 9 (.int 0))))] := hD
    refine lv_iload hx hb dL_law_1607 (lv_at hl 1 rfl) ?_
    refine lv_icmp_eq (tgt := 1614) hx hb dL_law_1609 (by decide) (fun c_100808 => ?_) (fun c_100808 => ?_)
    · skip
      refine lv_iload hx hb dL_law_1614 (lv_at hl 1 rfl) ?_
      refine lv_if_ne (tgt := 1630) hx hb dL_law_1616 (by decide) (fun c_100809 => ?_) (fun c_100809 => ?_)
      · exact absurd (by decide) c_100809
      · skip
        refine lv_aload_n hx hb dL_law_1619 rfl (lv_at hl 5 rfl) ?_
        refine lv_iconst (v := 0) hx hb dL_law_1620 (by decide) ?_
        refine va_lald hx hb hK hP 1 1 rfl rfl (show vp_in 0 1 by unfold vp_in; decide) dL_law_1621 ?_
        refine W.eq (g2 := F0 m 1622 ls [.long (n_cut (xs 2) (n_combine (xs 1) 1 (n_cut (xs 2) ((((xs 4).toInt64) <<< ((32 : Int32).toInt64 &&& 63)) ||| (((xs 5).toInt64) &&& 4294967295))) (n_cut (xs 3) ((((xs 6).toInt64) <<< ((32 : Int32).toInt64 &&& 63)) ||| (((xs 7).toInt64) &&& 4294967295)))))]) rfl ?_
        refine lv_lload hx hb dL_law_1622 (lv_at hl 0 rfl) ?_
        refine W.lcmp hx hb dL_law_1624 ?_
        refine lv_if_eq (tgt := 1630) hx hb dL_law_1625 (by decide) (fun c_100810 => ?_) (fun c_100810 => ?_)
        · skip
          refine lv_goto (tgt := 1804) hx hb dL_law_1630 (by decide) ?_
          exact lk_tail hC hA2 (lv_sub hl [2, 6] rfl) hS (Nat.le_of_ble_eq_true rfl) (Nat.le_of_ble_eq_true rfl)
        · exact absurd ((lg_cmp_eq _ _).mpr (qx_w1 c_145 c_100763 (fun q => q.1.elim (fun z => absurd (c_100768.symm.trans z) (by decide)) (fun z => absurd (c_100768.symm.trans z) (by decide))) (by rw [c_100768]; decide))) c_100810
    · exact absurd (by decide) c_100808
set_option maxHeartbeats 4000000 in
set_option maxRecDepth 100000 in
theorem lk_22 {p : Program} {l : Launch} {e : Env} {s : State} {m : MethodId} {below : List Frame} {meth : Method} {c : Code} {D : va_G} {kA : Nat → ClassId} {V : Nat → Nat} {b : Nat} {xs : Nat → Int32} {A : Nat → Prop} (hC : lw_C p l s m meth c b 8 xs D kA V A) (hA2 : ∀ q, A q → s.heap.size ≤ q) (h0 : Nat) (m0 : Nat) (o0 : Nat) (x0 : Nat) (x1 : Nat) (x2 : Nat) (x3 : Nat) (x4 : Nat) (x5 : Nat) (x6 : Nat) (x7 : Nat) (x8 : Nat) (y0 : List Value) (hq : ∀ k, k < 121 → k < y0.length) (hq9 : y0[9]? = some (.int 0))  {H : Heap} {locs : List Loc} {ls : Array Slot} (hl : lv_has ls 8 [(0, .ref b), (1, .ref h0), (2, .ref m0), (3, .ref o0), (4, .int 0)]) (hS : va_S A s.heap H locs) (hP : va_P D vwCl [(h0, .inr (10, [.ref x0, .int 0, .ref x1, .ref x2, .ref x3, .ref x4, .ref x5, .ref x6, .ref x7, .ref x8, .int 0, .int 3000])), (m0, .inr (11, y0)), (o0, .inl (kA 1, 1, .inr (.inl (fun _ => 0))))] H) (hD : va_D A [(h0, .inr (10, [.ref x0, .int 0, .ref x1, .ref x2, .ref x3, .ref x4, .ref x5, .ref x6, .ref x7, .ref x8, .int 0, .int 3000])), (m0, .inr (11, y0)), (o0, .inl (kA 1, 1, .inr (.inl (fun _ => 0))))]) : W p l e room_1 s m #[Value.ref b] below meth c H locs 514 172793 (lw_Z below #[Value.ref b] s) (F0 m 1462 ls []) := by
  have ⟨hst, hx, hb, hr, hml, hown, hts, hG, hX, hbl, hbA, hlocks, hE, hK, hA⟩ := hC
  refine lv_aload_n hx hb dL_law_1462 rfl (lv_at hl 1 rfl) ?_
  refine lv_aload_n hx hb dL_law_1463 rfl (lv_at hl 0 rfl) ?_
  refine lv_iload hx hb dL_law_1464 (lv_at hl 4 rfl) ?_
  refine lv_iconst (v := 1) hx hb dL_law_1466 (by decide) ?_
  refine lv_iadd hx hb dL_law_1467 ?_
  refine W.eq (g2 := F0 m 1468 ls [.int 1, .ref b, .ref h0]) rfl ?_
  refine va_sld hx hb hX hbl hbA hS (show vp_in 1 8 by unfold vp_in; decide) dL_law_1468 ?_
  refine W.eq (g2 := F0 m 1469 ls [.int (xs 1), .ref h0]) rfl ?_
  refine lv_aload_n hx hb dL_law_1469 rfl (lv_at hl 0 rfl) ?_
  refine lv_iload hx hb dL_law_1470 (lv_at hl 4 rfl) ?_
  refine lv_iconst (v := 2) hx hb dL_law_1472 (by decide) ?_
  refine lv_iadd hx hb dL_law_1473 ?_
  refine W.eq (g2 := F0 m 1474 ls [.int 2, .ref b, .int (xs 1), .ref h0]) rfl ?_
  refine va_sld hx hb hX hbl hbA hS (show vp_in 2 8 by unfold vp_in; decide) dL_law_1474 ?_
  refine W.eq (g2 := F0 m 1475 ls [.int (xs 2), .int (xs 1), .ref h0]) rfl ?_
  refine lv_aload_n hx hb dL_law_1475 rfl (lv_at hl 0 rfl) ?_
  refine lv_iload hx hb dL_law_1476 (lv_at hl 4 rfl) ?_
  refine lv_iconst (v := 3) hx hb dL_law_1478 (by decide) ?_
  refine lv_iadd hx hb dL_law_1479 ?_
  refine W.eq (g2 := F0 m 1480 ls [.int 3, .ref b, .int (xs 2), .int (xs 1), .ref h0]) rfl ?_
  refine va_sld hx hb hX hbl hbA hS (show vp_in 3 8 by unfold vp_in; decide) dL_law_1480 ?_
  refine W.eq (g2 := F0 m 1481 ls [.int (xs 3), .int (xs 2), .int (xs 1), .ref h0]) rfl ?_
  refine lv_aload_n hx hb dL_law_1481 rfl (lv_at hl 0 rfl) ?_
  refine lv_iload hx hb dL_law_1482 (lv_at hl 4 rfl) ?_
  refine lv_iconst (v := 4) hx hb dL_law_1484 (by decide) ?_
  refine lv_iadd hx hb dL_law_1485 ?_
  refine W.eq (g2 := F0 m 1486 ls [.int 4, .ref b, .int (xs 3), .int (xs 2), .int (xs 1), .ref h0]) rfl ?_
  refine va_sld hx hb hX hbl hbA hS (show vp_in 4 8 by unfold vp_in; decide) dL_law_1486 ?_
  refine W.eq (g2 := F0 m 1487 ls [.int (xs 4), .int (xs 3), .int (xs 2), .int (xs 1), .ref h0]) rfl ?_
  refine lv_i2l (v := (xs 4).toInt64) hx hb dL_law_1487 rfl ?_
  refine lv_bipush (v := 32) hx hb dL_law_1488 (by decide) ?_
  refine lv_lshl (v := ((xs 4).toInt64) <<< ((32 : Int32).toInt64 &&& 63)) hx hb dL_law_1490 rfl ?_
  refine lv_aload_n hx hb dL_law_1491 rfl (lv_at hl 0 rfl) ?_
  refine lv_iload hx hb dL_law_1492 (lv_at hl 4 rfl) ?_
  refine lv_iconst (v := 5) hx hb dL_law_1494 (by decide) ?_
  refine lv_iadd hx hb dL_law_1495 ?_
  refine W.eq (g2 := F0 m 1496 ls [.int 5, .ref b, .long (((xs 4).toInt64) <<< ((32 : Int32).toInt64 &&& 63)), .int (xs 3), .int (xs 2), .int (xs 1), .ref h0]) rfl ?_
  refine va_sld hx hb hX hbl hbA hS (show vp_in 5 8 by unfold vp_in; decide) dL_law_1496 ?_
  refine W.eq (g2 := F0 m 1497 ls [.int (xs 5), .long (((xs 4).toInt64) <<< ((32 : Int32).toInt64 &&& 63)), .int (xs 3), .int (xs 2), .int (xs 1), .ref h0]) rfl ?_
  refine lv_i2l (v := (xs 5).toInt64) hx hb dL_law_1497 rfl ?_
  refine lv_ldc2 (v := 4294967295) hx hb hown (hG _ gw_2764) dL_law_1498 ?_
  refine lv_land hx hb dL_law_1501 ?_
  refine lv_lor hx hb dL_law_1502 ?_
  refine lv_aload_n hx hb dL_law_1503 rfl (lv_at hl 0 rfl) ?_
  refine lv_iload hx hb dL_law_1504 (lv_at hl 4 rfl) ?_
  refine lv_bipush (v := 6) hx hb dL_law_1506 (by decide) ?_
  refine lv_iadd hx hb dL_law_1508 ?_
  refine W.eq (g2 := F0 m 1509 ls [.int 6, .ref b, .long ((((xs 4).toInt64) <<< ((32 : Int32).toInt64 &&& 63)) ||| (((xs 5).toInt64) &&& 4294967295)), .int (xs 3), .int (xs 2), .int (xs 1), .ref h0]) rfl ?_
  refine va_sld hx hb hX hbl hbA hS (show vp_in 6 8 by unfold vp_in; decide) dL_law_1509 ?_
  refine W.eq (g2 := F0 m 1510 ls [.int (xs 6), .long ((((xs 4).toInt64) <<< ((32 : Int32).toInt64 &&& 63)) ||| (((xs 5).toInt64) &&& 4294967295)), .int (xs 3), .int (xs 2), .int (xs 1), .ref h0]) rfl ?_
  refine lv_i2l (v := (xs 6).toInt64) hx hb dL_law_1510 rfl ?_
  refine lv_bipush (v := 32) hx hb dL_law_1511 (by decide) ?_
  refine lv_lshl (v := ((xs 6).toInt64) <<< ((32 : Int32).toInt64 &&& 63)) hx hb dL_law_1513 rfl ?_
  refine lv_aload_n hx hb dL_law_1514 rfl (lv_at hl 0 rfl) ?_
  refine lv_iload hx hb dL_law_1515 (lv_at hl 4 rfl) ?_
  refine lv_bipush (v := 7) hx hb dL_law_1517 (by decide) ?_
  refine lv_iadd hx hb dL_law_1519 ?_
  refine W.eq (g2 := F0 m 1520 ls [.int 7, .ref b, .long (((xs 6).toInt64) <<< ((32 : Int32).toInt64 &&& 63)), .long ((((xs 4).toInt64) <<< ((32 : Int32).toInt64 &&& 63)) ||| (((xs 5).toInt64) &&& 4294967295)), .int (xs 3), .int (xs 2), .int (xs 1), .ref h0]) rfl ?_
  refine va_sld hx hb hX hbl hbA hS (show vp_in 7 8 by unfold vp_in; decide) dL_law_1520 ?_
  refine W.eq (g2 := F0 m 1521 ls [.int (xs 7), .long (((xs 6).toInt64) <<< ((32 : Int32).toInt64 &&& 63)), .long ((((xs 4).toInt64) <<< ((32 : Int32).toInt64 &&& 63)) ||| (((xs 5).toInt64) &&& 4294967295)), .int (xs 3), .int (xs 2), .int (xs 1), .ref h0]) rfl ?_
  refine lv_i2l (v := (xs 7).toInt64) hx hb dL_law_1521 rfl ?_
  refine lv_ldc2 (v := 4294967295) hx hb hown (hG _ gw_2764) dL_law_1522 ?_
  refine lv_land hx hb dL_law_1525 ?_
  refine lv_lor hx hb dL_law_1526 ?_
  refine lv_aload_n hx hb dL_law_1527 rfl (lv_at hl 3 rfl) ?_
  have hPc := hP.sub (ws' := [(h0, .inr (10, [.ref x0, .int 0, .ref x1, .ref x2, .ref x3, .ref x4, .ref x5, .ref x6, .ref x7, .ref x8, .int 0, .int 3000])), (o0, .inl (kA 1, 1, .inr (.inl (fun _ => 0))))]) [0, 2] rfl
  have hDc := hD.sub (ws' := [(h0, .inr (10, [.ref x0, .int 0, .ref x1, .ref x2, .ref x3, .ref x4, .ref x5, .ref x6, .ref x7, .ref x8, .int 0, .int 3000])), (o0, .inl (kA 1, 1, .inr (.inl (fun _ => 0))))]) [0, 2] (by decide) rfl
  have hFc := va_free (wc := [(h0, .inr (10, [.ref x0, .int 0, .ref x1, .ref x2, .ref x3, .ref x4, .ref x5, .ref x6, .ref x7, .ref x8, .int 0, .int 3000])), (o0, .inl (kA 1, 1, .inr (.inl (fun _ => 0))))]) hD hS hA [0, 2] rfl
  refine va_calli (vx_runSW (As := [.ref h0, .int (xs 1), .int (xs 2), .int (xs 3), .long ((((xs 4).toInt64) <<< ((32 : Int32).toInt64 &&& 63)) ||| (((xs 5).toInt64) &&& 4294967295)), .long ((((xs 6).toInt64) <<< ((32 : Int32).toInt64 &&& 63)) ||| (((xs 7).toInt64) &&& 4294967295)), .ref o0]) (rest := []) ⟨hx, hb, hml, hown, hts⟩ (a172_L_work l hst D kA V H.size h0 (xs 1) (xs 2) (xs 3) ((((xs 4).toInt64) <<< ((32 : Int32).toInt64 &&& 63)) ||| (((xs 5).toInt64) &&& 4294967295)) ((((xs 6).toInt64) <<< ((32 : Int32).toInt64 &&& 63)) ||| (((xs 7).toInt64) &&& 4294967295)) o0 x0 x1 x2 x3 x4 x5 x6 x7 x8) (vx_cwSW 7 hts (gw_SW gw_1843 gw_1844 gw_0 gw_1845) rfl rfl rfl (by decide +kernel) ⟨(Nat.le_of_ble_eq_true rfl), (Nat.le_of_ble_eq_true rfl)⟩) ⟨aP.blind, aP.pre hE hS hPc hK hDc hFc⟩ rfl rfl hl.1 rfl (lv_room (Nat.le_of_ble_eq_true rfl)) dL_law_1528 ⟨(Nat.le_of_ble_eq_true rfl), (Nat.le_of_ble_eq_true rfl)⟩) hS (fun q _ h => hFc q h) hFc (fun r_1 u t H1 locs ht hvm hw hB hz1 hk1 hS => ?_)
  obtain ⟨u_2, rfl⟩ : ∃ z, z = u := ⟨u, rfl⟩
  obtain ⟨hP1, hD1⟩ := hB
  rw [ht] at hP1
  try dsimp only at hw hP1 hD1
  rcases hw with hz | hz | hz | hz | hz | hz | hz | hz | hz | hz | hz | hz | hz | hz | hz | hz
  · obtain ⟨c_3, w_4, w_5⟩ := hz
    subst w_4
    subst w_5
    obtain ⟨hP, hD⟩ := va_join (wr := [(m0, .inr (11, y0))]) (w1 := [(h0, .inr (10, [.ref x0, .int 0, .ref x1, .ref x2, .ref x3, .ref x4, .ref x5, .ref x6, .ref x7, .ref x8, .int 0, .int 3000])), (o0, .inl (kA 1, 1, .inr (.inl (fun _ => 0))))]) hP hD [0, 2] [1] rfl rfl (by decide) (by decide) hk1 hFc hP1 hD1
    generalize H1 = H at hP hS ⊢
    have hP : va_P D vwCl [(m0, .inr (11, y0)), (h0, .inr (10, [.ref x0, .int 0, .ref x1, .ref x2, .ref x3, .ref x4, .ref x5, .ref x6, .ref x7, .ref x8, .int 0, .int 3000])), (o0, .inl (kA 1, 1, .inr (.inl (fun _ => 0))))] H := hP
    have hD : va_D A [(m0, .inr (11, y0)), (h0, .inr (10, [.ref x0, .int 0, .ref x1, .ref x2, .ref x3, .ref x4, .ref x5, .ref x6, .ref x7, .ref x8, .int 0, .int 3000])), (o0, .inl (kA 1, 1, .inr (.inl (fun _ => 0))))] := hD
    exact lk_22_0 hC hA2 h0 m0 o0 x0 x1 x2 x3 x4 x5 x6 x7 x8 y0 (fun k hk => (hq k hk)) hq9 c_3 hl hS hP hD
  · obtain ⟨c_6, c_7, w_8, w_9⟩ := hz
    subst w_8
    subst w_9
    obtain ⟨hP, hD⟩ := va_join (wr := [(m0, .inr (11, y0))]) (w1 := [(h0, .inr (10, [.ref x0, .int 0, .ref x1, .ref x2, .ref x3, .ref x4, .ref x5, .ref x6, .ref x7, .ref x8, .int 0, .int 3000])), (o0, .inl (kA 1, 1, .inr (.inl (fun _ => 0))))]) hP hD [0, 2] [1] rfl rfl (by decide) (by decide) hk1 hFc hP1 hD1
    generalize H1 = H at hP hS ⊢
    have hP : va_P D vwCl [(m0, .inr (11, y0)), (h0, .inr (10, [.ref x0, .int 0, .ref x1, .ref x2, .ref x3, .ref x4, .ref x5, .ref x6, .ref x7, .ref x8, .int 0, .int 3000])), (o0, .inl (kA 1, 1, .inr (.inl (fun _ => 0))))] H := hP
    have hD : va_D A [(m0, .inr (11, y0)), (h0, .inr (10, [.ref x0, .int 0, .ref x1, .ref x2, .ref x3, .ref x4, .ref x5, .ref x6, .ref x7, .ref x8, .int 0, .int 3000])), (o0, .inl (kA 1, 1, .inr (.inl (fun _ => 0))))] := hD
    exact lk_22_1 hC hA2 h0 m0 o0 x0 x1 x2 x3 x4 x5 x6 x7 x8 y0 (fun k hk => (hq k hk)) hq9 c_6 c_7 hl hS hP hD
  · obtain ⟨c_10, c_11, c_12, w_13, w_14⟩ := hz
    subst w_13
    subst w_14
    obtain ⟨hP, hD⟩ := va_join (wr := [(m0, .inr (11, y0))]) (w1 := [(h0, .inr (10, [.ref x0, .int 0, .ref x1, .ref x2, .ref x3, .ref x4, .ref x5, .ref x6, .ref x7, .ref x8, .int 0, .int 3000])), (o0, .inl (kA 1, 1, .inr (.inl (fun _ => 0))))]) hP hD [0, 2] [1] rfl rfl (by decide) (by decide) hk1 hFc hP1 hD1
    generalize H1 = H at hP hS ⊢
    have hP : va_P D vwCl [(m0, .inr (11, y0)), (h0, .inr (10, [.ref x0, .int 0, .ref x1, .ref x2, .ref x3, .ref x4, .ref x5, .ref x6, .ref x7, .ref x8, .int 0, .int 3000])), (o0, .inl (kA 1, 1, .inr (.inl (fun _ => 0))))] H := hP
    have hD : va_D A [(m0, .inr (11, y0)), (h0, .inr (10, [.ref x0, .int 0, .ref x1, .ref x2, .ref x3, .ref x4, .ref x5, .ref x6, .ref x7, .ref x8, .int 0, .int 3000])), (o0, .inl (kA 1, 1, .inr (.inl (fun _ => 0))))] := hD
    exact lk_22_2 hC hA2 h0 m0 o0 x0 x1 x2 x3 x4 x5 x6 x7 x8 y0 (fun k hk => (hq k hk)) hq9 c_10 c_11 c_12 hl hS hP hD
  · obtain ⟨c_15, c_16, c_17, c_18, w_19, w_20⟩ := hz
    subst w_19
    subst w_20
    obtain ⟨hP, hD⟩ := va_join (wr := [(m0, .inr (11, y0))]) (w1 := [(h0, .inr (10, [.ref x0, .int 0, .ref x1, .ref x2, .ref x3, .ref x4, .ref x5, .ref x6, .ref x7, .ref x8, .int 0, .int 3000])), (o0, .inl (kA 1, 1, .inr (.inl (fun _ => 0))))]) hP hD [0, 2] [1] rfl rfl (by decide) (by decide) hk1 hFc hP1 hD1
    generalize H1 = H at hP hS ⊢
    have hP : va_P D vwCl [(m0, .inr (11, y0)), (h0, .inr (10, [.ref x0, .int 0, .ref x1, .ref x2, .ref x3, .ref x4, .ref x5, .ref x6, .ref x7, .ref x8, .int 0, .int 3000])), (o0, .inl (kA 1, 1, .inr (.inl (fun _ => 0))))] H := hP
    have hD : va_D A [(m0, .inr (11, y0)), (h0, .inr (10, [.ref x0, .int 0, .ref x1, .ref x2, .ref x3, .ref x4, .ref x5, .ref x6, .ref x7, .ref x8, .int 0, .int 3000])), (o0, .inl (kA 1, 1, .inr (.inl (fun _ => 0))))] := hD
    exact lk_22_3 hC hA2 h0 m0 o0 x0 x1 x2 x3 x4 x5 x6 x7 x8 y0 (fun k hk => (hq k hk)) hq9 c_15 c_16 c_17 c_18 hl hS hP hD
  · obtain ⟨c_21, c_22, c_23, c_24, c_25, w_26, w_27⟩ := hz
    subst w_26
    subst w_27
    obtain ⟨hP, hD⟩ := va_join (wr := [(m0, .inr (11, y0))]) (w1 := [(h0, .inr (10, [.ref x0, .int 0, .ref x1, .ref x2, .ref x3, .ref x4, .ref x5, .ref x6, .ref x7, .ref x8, .int 0, .int 3000])), (o0, .inl (kA 1, 1, .inr (.inl (fun _ => 0))))]) hP hD [0, 2] [1] rfl rfl (by decide) (by decide) hk1 hFc hP1 hD1
    generalize H1 = H at hP hS ⊢
    have hP : va_P D vwCl [(m0, .inr (11, y0)), (h0, .inr (10, [.ref x0, .int 0, .ref x1, .ref x2, .ref x3, .ref x4, .ref x5, .ref x6, .ref x7, .ref x8, .int 0, .int 3000])), (o0, .inl (kA 1, 1, .inr (.inl (fun _ => 0))))] H := hP
    have hD : va_D A [(m0, .inr (11, y0)), (h0, .inr (10, [.ref x0, .int 0, .ref x1, .ref x2, .ref x3, .ref x4, .ref x5, .ref x6, .ref x7, .ref x8, .int 0, .int 3000])), (o0, .inl (kA 1, 1, .inr (.inl (fun _ => 0))))] := hD
    exact lk_22_4 hC hA2 h0 m0 o0 x0 x1 x2 x3 x4 x5 x6 x7 x8 y0 (fun k hk => (hq k hk)) hq9 c_21 c_22 c_23 c_24 c_25 hl hS hP hD
  · obtain ⟨c_28, c_29, c_30, c_31, c_32, c_33, c_34, c_35, w_36, w_37⟩ := hz
    subst w_36
    subst w_37
    obtain ⟨hP, hD⟩ := va_join (wr := [(m0, .inr (11, y0))]) (w1 := [(h0, .inr (10, [.ref x0, .int 0, .ref x1, .ref x2, .ref x3, .ref x4, .ref x5, .ref x6, .ref x7, .ref x8, .int 0, .int 3000])), (o0, .inl (kA 1, 1, .inr (.inl (fun _ => 0))))]) hP hD [0, 2] [1] rfl rfl (by decide) (by decide) hk1 hFc hP1 hD1
    generalize H1 = H at hP hS ⊢
    have hP : va_P D vwCl [(m0, .inr (11, y0)), (h0, .inr (10, [.ref x0, .int 0, .ref x1, .ref x2, .ref x3, .ref x4, .ref x5, .ref x6, .ref x7, .ref x8, .int 0, .int 3000])), (o0, .inl (kA 1, 1, .inr (.inl (fun _ => 0))))] H := hP
    have hD : va_D A [(m0, .inr (11, y0)), (h0, .inr (10, [.ref x0, .int 0, .ref x1, .ref x2, .ref x3, .ref x4, .ref x5, .ref x6, .ref x7, .ref x8, .int 0, .int 3000])), (o0, .inl (kA 1, 1, .inr (.inl (fun _ => 0))))] := hD
    exact lk_22_5 hC hA2 h0 m0 o0 x0 x1 x2 x3 x4 x5 x6 x7 x8 y0 (fun k hk => (hq k hk)) hq9 c_28 c_29 c_30 c_31 c_32 c_33 c_34 c_35 hl hS hP hD
  · obtain ⟨c_38, c_39, c_40, c_41, c_42, c_43, c_44, c_45, c_46, w_47, w_48⟩ := hz
    subst w_47
    subst w_48
    obtain ⟨hP, hD⟩ := va_join (wr := [(m0, .inr (11, y0))]) (w1 := [(h0, .inr (10, [.ref x0, .int 0, .ref x1, .ref x2, .ref x3, .ref x4, .ref x5, .ref x6, .ref x7, .ref x8, .int 0, .int 3000])), (o0, .inl (kA 1, 1, .inr (.inl (fun _ => 0))))]) hP hD [0, 2] [1] rfl rfl (by decide) (by decide) hk1 hFc hP1 hD1
    generalize H1 = H at hP hS ⊢
    have hP : va_P D vwCl [(m0, .inr (11, y0)), (h0, .inr (10, [.ref x0, .int 0, .ref x1, .ref x2, .ref x3, .ref x4, .ref x5, .ref x6, .ref x7, .ref x8, .int 0, .int 3000])), (o0, .inl (kA 1, 1, .inr (.inl (fun _ => 0))))] H := hP
    have hD : va_D A [(m0, .inr (11, y0)), (h0, .inr (10, [.ref x0, .int 0, .ref x1, .ref x2, .ref x3, .ref x4, .ref x5, .ref x6, .ref x7, .ref x8, .int 0, .int 3000])), (o0, .inl (kA 1, 1, .inr (.inl (fun _ => 0))))] := hD
    exact lk_22_6 hC hA2 h0 m0 o0 x0 x1 x2 x3 x4 x5 x6 x7 x8 y0 (fun k hk => (hq k hk)) hq9 c_38 c_39 c_40 c_41 c_42 c_43 c_44 c_45 c_46 hl hS hP hD
  · obtain ⟨c_49, c_50, c_51, c_52, c_53, c_54, w_55, w_56⟩ := hz
    subst w_55
    subst w_56
    obtain ⟨hP, hD⟩ := va_join (wr := [(m0, .inr (11, y0))]) (w1 := [(h0, .inr (10, [.ref x0, .int 0, .ref x1, .ref x2, .ref x3, .ref x4, .ref x5, .ref x6, .ref x7, .ref x8, .int 0, .int 3000])), (o0, .inl (kA 1, 1, .inr (.inl (fun _ => 0))))]) hP hD [0, 2] [1] rfl rfl (by decide) (by decide) hk1 hFc hP1 hD1
    generalize H1 = H at hP hS ⊢
    have hP : va_P D vwCl [(m0, .inr (11, y0)), (h0, .inr (10, [.ref x0, .int 0, .ref x1, .ref x2, .ref x3, .ref x4, .ref x5, .ref x6, .ref x7, .ref x8, .int 0, .int 3000])), (o0, .inl (kA 1, 1, .inr (.inl (fun _ => 0))))] H := hP
    have hD : va_D A [(m0, .inr (11, y0)), (h0, .inr (10, [.ref x0, .int 0, .ref x1, .ref x2, .ref x3, .ref x4, .ref x5, .ref x6, .ref x7, .ref x8, .int 0, .int 3000])), (o0, .inl (kA 1, 1, .inr (.inl (fun _ => 0))))] := hD
    exact lk_22_7 hC hA2 h0 m0 o0 x0 x1 x2 x3 x4 x5 x6 x7 x8 y0 (fun k hk => (hq k hk)) hq9 c_49 c_50 c_51 c_52 c_53 c_54 hl hS hP hD
  · obtain ⟨c_57, c_58, c_59, c_60, c_61, c_62, c_63, c_64, w_65, w_66⟩ := hz
    subst w_65
    subst w_66
    obtain ⟨hP, hD⟩ := va_join (wr := [(m0, .inr (11, y0))]) (w1 := [(h0, .inr (10, [.ref x0, .int 0, .ref x1, .ref x2, .ref x3, .ref x4, .ref x5, .ref x6, .ref x7, .ref x8, .int 0, .int 3000])), (o0, .inl (kA 1, 1, .inr (.inl (vp_updL (fun _ => 0) 0 (n_cut (xs 2) (n_combine (xs 1) 1 (n_cut (xs 2) ((((xs 4).toInt64) <<< ((32 : Int32).toInt64 &&& 63)) ||| (((xs 5).toInt64) &&& 4294967295))) (n_cut (xs 3) ((((xs 6).toInt64) <<< ((32 : Int32).toInt64 &&& 63)) ||| (((xs 7).toInt64) &&& 4294967295)))))))))]) hP hD [0, 2] [1] rfl rfl (by decide) (by decide) hk1 hFc hP1 hD1
    generalize H1 = H at hP hS ⊢
    have hP : va_P D vwCl [(m0, .inr (11, y0)), (h0, .inr (10, [.ref x0, .int 0, .ref x1, .ref x2, .ref x3, .ref x4, .ref x5, .ref x6, .ref x7, .ref x8, .int 0, .int 3000])), (o0, .inl (kA 1, 1, .inr (.inl (vp_updL (fun _ => 0) 0 (n_cut (xs 2) (n_combine (xs 1) 1 (n_cut (xs 2) ((((xs 4).toInt64) <<< ((32 : Int32).toInt64 &&& 63)) ||| (((xs 5).toInt64) &&& 4294967295))) (n_cut (xs 3) ((((xs 6).toInt64) <<< ((32 : Int32).toInt64 &&& 63)) ||| (((xs 7).toInt64) &&& 4294967295)))))))))] H := hP
    have hD : va_D A [(m0, .inr (11, y0)), (h0, .inr (10, [.ref x0, .int 0, .ref x1, .ref x2, .ref x3, .ref x4, .ref x5, .ref x6, .ref x7, .ref x8, .int 0, .int 3000])), (o0, .inl (kA 1, 1, .inr (.inl (vp_updL (fun _ => 0) 0 (n_cut (xs 2) (n_combine (xs 1) 1 (n_cut (xs 2) ((((xs 4).toInt64) <<< ((32 : Int32).toInt64 &&& 63)) ||| (((xs 5).toInt64) &&& 4294967295))) (n_cut (xs 3) ((((xs 6).toInt64) <<< ((32 : Int32).toInt64 &&& 63)) ||| (((xs 7).toInt64) &&& 4294967295)))))))))] := hD
    exact lk_22_8 hC hA2 h0 m0 o0 x0 x1 x2 x3 x4 x5 x6 x7 x8 y0 (fun k hk => (hq k hk)) hq9 c_57 c_58 c_59 c_60 c_61 c_62 c_63 c_64 hl hS hP hD
  · obtain ⟨c_67, c_68, c_69, c_70, c_71, c_72, c_73, c_74, c_75, w_76, w_77⟩ := hz
    subst w_76
    subst w_77
    obtain ⟨hP, hD⟩ := va_join (wr := [(m0, .inr (11, y0))]) (w1 := [(h0, .inr (10, [.ref x0, .int 0, .ref x1, .ref x2, .ref x3, .ref x4, .ref x5, .ref x6, .ref x7, .ref x8, .int 0, .int 3000])), (o0, .inl (kA 1, 1, .inr (.inl (vp_updL (fun _ => 0) 0 (n_cut (xs 2) (n_combine (xs 1) 0 (n_cut (xs 2) ((((xs 4).toInt64) <<< ((32 : Int32).toInt64 &&& 63)) ||| (((xs 5).toInt64) &&& 4294967295))) (n_cut (xs 3) ((((xs 6).toInt64) <<< ((32 : Int32).toInt64 &&& 63)) ||| (((xs 7).toInt64) &&& 4294967295)))))))))]) hP hD [0, 2] [1] rfl rfl (by decide) (by decide) hk1 hFc hP1 hD1
    generalize H1 = H at hP hS ⊢
    have hP : va_P D vwCl [(m0, .inr (11, y0)), (h0, .inr (10, [.ref x0, .int 0, .ref x1, .ref x2, .ref x3, .ref x4, .ref x5, .ref x6, .ref x7, .ref x8, .int 0, .int 3000])), (o0, .inl (kA 1, 1, .inr (.inl (vp_updL (fun _ => 0) 0 (n_cut (xs 2) (n_combine (xs 1) 0 (n_cut (xs 2) ((((xs 4).toInt64) <<< ((32 : Int32).toInt64 &&& 63)) ||| (((xs 5).toInt64) &&& 4294967295))) (n_cut (xs 3) ((((xs 6).toInt64) <<< ((32 : Int32).toInt64 &&& 63)) ||| (((xs 7).toInt64) &&& 4294967295)))))))))] H := hP
    have hD : va_D A [(m0, .inr (11, y0)), (h0, .inr (10, [.ref x0, .int 0, .ref x1, .ref x2, .ref x3, .ref x4, .ref x5, .ref x6, .ref x7, .ref x8, .int 0, .int 3000])), (o0, .inl (kA 1, 1, .inr (.inl (vp_updL (fun _ => 0) 0 (n_cut (xs 2) (n_combine (xs 1) 0 (n_cut (xs 2) ((((xs 4).toInt64) <<< ((32 : Int32).toInt64 &&& 63)) ||| (((xs 5).toInt64) &&& 4294967295))) (n_cut (xs 3) ((((xs 6).toInt64) <<< ((32 : Int32).toInt64 &&& 63)) ||| (((xs 7).toInt64) &&& 4294967295)))))))))] := hD
    exact lk_22_9 hC hA2 h0 m0 o0 x0 x1 x2 x3 x4 x5 x6 x7 x8 y0 (fun k hk => (hq k hk)) hq9 c_67 c_68 c_69 c_70 c_71 c_72 c_73 c_74 c_75 hl hS hP hD
  · obtain ⟨c_78, c_79, c_80, c_81, c_82, c_83, c_84, c_85, c_86, c_87, w_88, w_89⟩ := hz
    subst w_88
    subst w_89
    obtain ⟨hP, hD⟩ := va_join (wr := [(m0, .inr (11, y0))]) (w1 := [(h0, .inr (10, [.ref x0, .int 0, .ref x1, .ref x2, .ref x3, .ref x4, .ref x5, .ref x6, .ref x7, .ref x8, .int 0, .int 3000])), (o0, .inl (kA 1, 1, .inr (.inl (vp_updL (fun _ => 0) 0 (n_cut (xs 2) (n_combine (xs 1) 0 (n_cut (xs 2) ((((xs 4).toInt64) <<< ((32 : Int32).toInt64 &&& 63)) ||| (((xs 5).toInt64) &&& 4294967295))) (n_cut (xs 3) ((((xs 6).toInt64) <<< ((32 : Int32).toInt64 &&& 63)) ||| (((xs 7).toInt64) &&& 4294967295)))))))))]) hP hD [0, 2] [1] rfl rfl (by decide) (by decide) hk1 hFc hP1 hD1
    generalize H1 = H at hP hS ⊢
    have hP : va_P D vwCl [(m0, .inr (11, y0)), (h0, .inr (10, [.ref x0, .int 0, .ref x1, .ref x2, .ref x3, .ref x4, .ref x5, .ref x6, .ref x7, .ref x8, .int 0, .int 3000])), (o0, .inl (kA 1, 1, .inr (.inl (vp_updL (fun _ => 0) 0 (n_cut (xs 2) (n_combine (xs 1) 0 (n_cut (xs 2) ((((xs 4).toInt64) <<< ((32 : Int32).toInt64 &&& 63)) ||| (((xs 5).toInt64) &&& 4294967295))) (n_cut (xs 3) ((((xs 6).toInt64) <<< ((32 : Int32).toInt64 &&& 63)) ||| (((xs 7).toInt64) &&& 4294967295)))))))))] H := hP
    have hD : va_D A [(m0, .inr (11, y0)), (h0, .inr (10, [.ref x0, .int 0, .ref x1, .ref x2, .ref x3, .ref x4, .ref x5, .ref x6, .ref x7, .ref x8, .int 0, .int 3000])), (o0, .inl (kA 1, 1, .inr (.inl (vp_updL (fun _ => 0) 0 (n_cut (xs 2) (n_combine (xs 1) 0 (n_cut (xs 2) ((((xs 4).toInt64) <<< ((32 : Int32).toInt64 &&& 63)) ||| (((xs 5).toInt64) &&& 4294967295))) (n_cut (xs 3) ((((xs 6).toInt64) <<< ((32 : Int32).toInt64 &&& 63)) ||| (((xs 7).toInt64) &&& 4294967295)))))))))] := hD
    exact lk_22_10 hC hA2 h0 m0 o0 x0 x1 x2 x3 x4 x5 x6 x7 x8 y0 (fun k hk => (hq k hk)) hq9 c_78 c_79 c_80 c_81 c_82 c_83 c_84 c_85 c_86 c_87 hl hS hP hD
  · obtain ⟨c_90, c_91, c_92, c_93, c_94, c_95, c_96, c_97, c_98, c_99, w_100, w_101⟩ := hz
    subst w_100
    subst w_101
    obtain ⟨hP, hD⟩ := va_join (wr := [(m0, .inr (11, y0))]) (w1 := [(h0, .inr (10, [.ref x0, .int 0, .ref x1, .ref x2, .ref x3, .ref x4, .ref x5, .ref x6, .ref x7, .ref x8, .int 0, .int 3000])), (o0, .inl (kA 1, 1, .inr (.inl (vp_updL (fun _ => 0) 0 (n_cut (xs 2) (n_combine (xs 1) 1 (n_cut (xs 2) ((((xs 4).toInt64) <<< ((32 : Int32).toInt64 &&& 63)) ||| (((xs 5).toInt64) &&& 4294967295))) (n_cut (xs 3) ((((xs 6).toInt64) <<< ((32 : Int32).toInt64 &&& 63)) ||| (((xs 7).toInt64) &&& 4294967295)))))))))]) hP hD [0, 2] [1] rfl rfl (by decide) (by decide) hk1 hFc hP1 hD1
    generalize H1 = H at hP hS ⊢
    have hP : va_P D vwCl [(m0, .inr (11, y0)), (h0, .inr (10, [.ref x0, .int 0, .ref x1, .ref x2, .ref x3, .ref x4, .ref x5, .ref x6, .ref x7, .ref x8, .int 0, .int 3000])), (o0, .inl (kA 1, 1, .inr (.inl (vp_updL (fun _ => 0) 0 (n_cut (xs 2) (n_combine (xs 1) 1 (n_cut (xs 2) ((((xs 4).toInt64) <<< ((32 : Int32).toInt64 &&& 63)) ||| (((xs 5).toInt64) &&& 4294967295))) (n_cut (xs 3) ((((xs 6).toInt64) <<< ((32 : Int32).toInt64 &&& 63)) ||| (((xs 7).toInt64) &&& 4294967295)))))))))] H := hP
    have hD : va_D A [(m0, .inr (11, y0)), (h0, .inr (10, [.ref x0, .int 0, .ref x1, .ref x2, .ref x3, .ref x4, .ref x5, .ref x6, .ref x7, .ref x8, .int 0, .int 3000])), (o0, .inl (kA 1, 1, .inr (.inl (vp_updL (fun _ => 0) 0 (n_cut (xs 2) (n_combine (xs 1) 1 (n_cut (xs 2) ((((xs 4).toInt64) <<< ((32 : Int32).toInt64 &&& 63)) ||| (((xs 5).toInt64) &&& 4294967295))) (n_cut (xs 3) ((((xs 6).toInt64) <<< ((32 : Int32).toInt64 &&& 63)) ||| (((xs 7).toInt64) &&& 4294967295)))))))))] := hD
    exact lk_22_11 hC hA2 h0 m0 o0 x0 x1 x2 x3 x4 x5 x6 x7 x8 y0 (fun k hk => (hq k hk)) hq9 c_90 c_91 c_92 c_93 c_94 c_95 c_96 c_97 c_98 c_99 hl hS hP hD
  · obtain ⟨c_102, c_103, c_104, c_105, c_106, c_107, c_108, c_109, c_110, c_111, w_112, w_113⟩ := hz
    subst w_112
    subst w_113
    obtain ⟨hP, hD⟩ := va_join (wr := [(m0, .inr (11, y0))]) (w1 := [(h0, .inr (10, [.ref x0, .int 0, .ref x1, .ref x2, .ref x3, .ref x4, .ref x5, .ref x6, .ref x7, .ref x8, .int 0, .int 3000])), (o0, .inl (kA 1, 1, .inr (.inl (vp_updL (fun _ => 0) 0 (n_cut (xs 2) (n_combine (xs 1) 1 (n_cut (xs 2) ((((xs 4).toInt64) <<< ((32 : Int32).toInt64 &&& 63)) ||| (((xs 5).toInt64) &&& 4294967295))) (n_cut (xs 3) ((((xs 6).toInt64) <<< ((32 : Int32).toInt64 &&& 63)) ||| (((xs 7).toInt64) &&& 4294967295)))))))))]) hP hD [0, 2] [1] rfl rfl (by decide) (by decide) hk1 hFc hP1 hD1
    generalize H1 = H at hP hS ⊢
    have hP : va_P D vwCl [(m0, .inr (11, y0)), (h0, .inr (10, [.ref x0, .int 0, .ref x1, .ref x2, .ref x3, .ref x4, .ref x5, .ref x6, .ref x7, .ref x8, .int 0, .int 3000])), (o0, .inl (kA 1, 1, .inr (.inl (vp_updL (fun _ => 0) 0 (n_cut (xs 2) (n_combine (xs 1) 1 (n_cut (xs 2) ((((xs 4).toInt64) <<< ((32 : Int32).toInt64 &&& 63)) ||| (((xs 5).toInt64) &&& 4294967295))) (n_cut (xs 3) ((((xs 6).toInt64) <<< ((32 : Int32).toInt64 &&& 63)) ||| (((xs 7).toInt64) &&& 4294967295)))))))))] H := hP
    have hD : va_D A [(m0, .inr (11, y0)), (h0, .inr (10, [.ref x0, .int 0, .ref x1, .ref x2, .ref x3, .ref x4, .ref x5, .ref x6, .ref x7, .ref x8, .int 0, .int 3000])), (o0, .inl (kA 1, 1, .inr (.inl (vp_updL (fun _ => 0) 0 (n_cut (xs 2) (n_combine (xs 1) 1 (n_cut (xs 2) ((((xs 4).toInt64) <<< ((32 : Int32).toInt64 &&& 63)) ||| (((xs 5).toInt64) &&& 4294967295))) (n_cut (xs 3) ((((xs 6).toInt64) <<< ((32 : Int32).toInt64 &&& 63)) ||| (((xs 7).toInt64) &&& 4294967295)))))))))] := hD
    exact lk_22_12 hC hA2 h0 m0 o0 x0 x1 x2 x3 x4 x5 x6 x7 x8 y0 (fun k hk => (hq k hk)) hq9 c_102 c_103 c_104 c_105 c_106 c_107 c_108 c_109 c_110 c_111 hl hS hP hD
  · obtain ⟨c_114, c_115, c_116, c_117, c_118, c_119, c_120, c_121, c_122, c_123, c_124, w_125, w_126⟩ := hz
    subst w_125
    subst w_126
    obtain ⟨hP, hD⟩ := va_join (wr := [(m0, .inr (11, y0))]) (w1 := [(h0, .inr (10, [.ref x0, .int 0, .ref x1, .ref x2, .ref x3, .ref x4, .ref x5, .ref x6, .ref x7, .ref x8, .int 0, .int 3000])), (o0, .inl (kA 1, 1, .inr (.inl (vp_updL (fun _ => 0) 0 (n_cut (xs 2) (n_combine (xs 1) 0 (n_cut (xs 2) ((((xs 4).toInt64) <<< ((32 : Int32).toInt64 &&& 63)) ||| (((xs 5).toInt64) &&& 4294967295))) (n_cut (xs 3) ((((xs 6).toInt64) <<< ((32 : Int32).toInt64 &&& 63)) ||| (((xs 7).toInt64) &&& 4294967295)))))))))]) hP hD [0, 2] [1] rfl rfl (by decide) (by decide) hk1 hFc hP1 hD1
    generalize H1 = H at hP hS ⊢
    have hP : va_P D vwCl [(m0, .inr (11, y0)), (h0, .inr (10, [.ref x0, .int 0, .ref x1, .ref x2, .ref x3, .ref x4, .ref x5, .ref x6, .ref x7, .ref x8, .int 0, .int 3000])), (o0, .inl (kA 1, 1, .inr (.inl (vp_updL (fun _ => 0) 0 (n_cut (xs 2) (n_combine (xs 1) 0 (n_cut (xs 2) ((((xs 4).toInt64) <<< ((32 : Int32).toInt64 &&& 63)) ||| (((xs 5).toInt64) &&& 4294967295))) (n_cut (xs 3) ((((xs 6).toInt64) <<< ((32 : Int32).toInt64 &&& 63)) ||| (((xs 7).toInt64) &&& 4294967295)))))))))] H := hP
    have hD : va_D A [(m0, .inr (11, y0)), (h0, .inr (10, [.ref x0, .int 0, .ref x1, .ref x2, .ref x3, .ref x4, .ref x5, .ref x6, .ref x7, .ref x8, .int 0, .int 3000])), (o0, .inl (kA 1, 1, .inr (.inl (vp_updL (fun _ => 0) 0 (n_cut (xs 2) (n_combine (xs 1) 0 (n_cut (xs 2) ((((xs 4).toInt64) <<< ((32 : Int32).toInt64 &&& 63)) ||| (((xs 5).toInt64) &&& 4294967295))) (n_cut (xs 3) ((((xs 6).toInt64) <<< ((32 : Int32).toInt64 &&& 63)) ||| (((xs 7).toInt64) &&& 4294967295)))))))))] := hD
    exact lk_22_13 hC hA2 h0 m0 o0 x0 x1 x2 x3 x4 x5 x6 x7 x8 y0 (fun k hk => (hq k hk)) hq9 c_114 c_115 c_116 c_117 c_118 c_119 c_120 c_121 c_122 c_123 c_124 hl hS hP hD
  · obtain ⟨c_127, c_128, c_129, c_130, c_131, c_132, c_133, c_134, c_135, c_136, c_137, c_138, w_139, w_140⟩ := hz
    subst w_139
    subst w_140
    obtain ⟨hP, hD⟩ := va_join (wr := [(m0, .inr (11, y0))]) (w1 := [(h0, .inr (10, [.ref x0, .int 0, .ref x1, .ref x2, .ref x3, .ref x4, .ref x5, .ref x6, .ref x7, .ref x8, .int 0, .int 3000])), (o0, .inl (kA 1, 1, .inr (.inl (vp_updL (fun _ => 0) 0 (n_cut (xs 2) (n_combine (xs 1) 0 (n_cut (xs 2) ((((xs 4).toInt64) <<< ((32 : Int32).toInt64 &&& 63)) ||| (((xs 5).toInt64) &&& 4294967295))) (n_cut (xs 3) ((((xs 6).toInt64) <<< ((32 : Int32).toInt64 &&& 63)) ||| (((xs 7).toInt64) &&& 4294967295)))))))))]) hP hD [0, 2] [1] rfl rfl (by decide) (by decide) hk1 hFc hP1 hD1
    generalize H1 = H at hP hS ⊢
    have hP : va_P D vwCl [(m0, .inr (11, y0)), (h0, .inr (10, [.ref x0, .int 0, .ref x1, .ref x2, .ref x3, .ref x4, .ref x5, .ref x6, .ref x7, .ref x8, .int 0, .int 3000])), (o0, .inl (kA 1, 1, .inr (.inl (vp_updL (fun _ => 0) 0 (n_cut (xs 2) (n_combine (xs 1) 0 (n_cut (xs 2) ((((xs 4).toInt64) <<< ((32 : Int32).toInt64 &&& 63)) ||| (((xs 5).toInt64) &&& 4294967295))) (n_cut (xs 3) ((((xs 6).toInt64) <<< ((32 : Int32).toInt64 &&& 63)) ||| (((xs 7).toInt64) &&& 4294967295)))))))))] H := hP
    have hD : va_D A [(m0, .inr (11, y0)), (h0, .inr (10, [.ref x0, .int 0, .ref x1, .ref x2, .ref x3, .ref x4, .ref x5, .ref x6, .ref x7, .ref x8, .int 0, .int 3000])), (o0, .inl (kA 1, 1, .inr (.inl (vp_updL (fun _ => 0) 0 (n_cut (xs 2) (n_combine (xs 1) 0 (n_cut (xs 2) ((((xs 4).toInt64) <<< ((32 : Int32).toInt64 &&& 63)) ||| (((xs 5).toInt64) &&& 4294967295))) (n_cut (xs 3) ((((xs 6).toInt64) <<< ((32 : Int32).toInt64 &&& 63)) ||| (((xs 7).toInt64) &&& 4294967295)))))))))] := hD
    exact lk_22_14 hC hA2 h0 m0 o0 x0 x1 x2 x3 x4 x5 x6 x7 x8 y0 (fun k hk => (hq k hk)) hq9 c_127 c_128 c_129 c_130 c_131 c_132 c_133 c_134 c_135 c_136 c_137 c_138 hl hS hP hD
  · obtain ⟨c_141, c_142, c_143, c_144, c_145, c_146, c_147, c_148, c_149, c_150, c_151, c_152, w_153, w_154⟩ := hz
    subst w_153
    subst w_154
    obtain ⟨hP, hD⟩ := va_join (wr := [(m0, .inr (11, y0))]) (w1 := [(h0, .inr (10, [.ref x0, .int 0, .ref x1, .ref x2, .ref x3, .ref x4, .ref x5, .ref x6, .ref x7, .ref x8, .int 0, .int 3000])), (o0, .inl (kA 1, 1, .inr (.inl (vp_updL (fun _ => 0) 0 (n_cut (xs 2) (n_combine (xs 1) 1 (n_cut (xs 2) ((((xs 4).toInt64) <<< ((32 : Int32).toInt64 &&& 63)) ||| (((xs 5).toInt64) &&& 4294967295))) (n_cut (xs 3) ((((xs 6).toInt64) <<< ((32 : Int32).toInt64 &&& 63)) ||| (((xs 7).toInt64) &&& 4294967295)))))))))]) hP hD [0, 2] [1] rfl rfl (by decide) (by decide) hk1 hFc hP1 hD1
    generalize H1 = H at hP hS ⊢
    have hP : va_P D vwCl [(m0, .inr (11, y0)), (h0, .inr (10, [.ref x0, .int 0, .ref x1, .ref x2, .ref x3, .ref x4, .ref x5, .ref x6, .ref x7, .ref x8, .int 0, .int 3000])), (o0, .inl (kA 1, 1, .inr (.inl (vp_updL (fun _ => 0) 0 (n_cut (xs 2) (n_combine (xs 1) 1 (n_cut (xs 2) ((((xs 4).toInt64) <<< ((32 : Int32).toInt64 &&& 63)) ||| (((xs 5).toInt64) &&& 4294967295))) (n_cut (xs 3) ((((xs 6).toInt64) <<< ((32 : Int32).toInt64 &&& 63)) ||| (((xs 7).toInt64) &&& 4294967295)))))))))] H := hP
    have hD : va_D A [(m0, .inr (11, y0)), (h0, .inr (10, [.ref x0, .int 0, .ref x1, .ref x2, .ref x3, .ref x4, .ref x5, .ref x6, .ref x7, .ref x8, .int 0, .int 3000])), (o0, .inl (kA 1, 1, .inr (.inl (vp_updL (fun _ => 0) 0 (n_cut (xs 2) (n_combine (xs 1) 1 (n_cut (xs 2) ((((xs 4).toInt64) <<< ((32 : Int32).toInt64 &&& 63)) ||| (((xs 5).toInt64) &&& 4294967295))) (n_cut (xs 3) ((((xs 6).toInt64) <<< ((32 : Int32).toInt64 &&& 63)) ||| (((xs 7).toInt64) &&& 4294967295)))))))))] := hD
    exact lk_22_15 hC hA2 h0 m0 o0 x0 x1 x2 x3 x4 x5 x6 x7 x8 y0 (fun k hk => (hq k hk)) hq9 c_141 c_142 c_143 c_144 c_145 c_146 c_147 c_148 c_149 c_150 c_151 c_152 hl hS hP hD
