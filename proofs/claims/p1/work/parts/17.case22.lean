theorem dL_law_1462 : decode cL_law 1462 = .ok (.aload_n 1, 1) := by decide +kernel
theorem dL_law_1463 : decode cL_law 1463 = .ok (.aload_n 0, 1) := by decide +kernel
theorem dL_law_1464 : decode cL_law 1464 = .ok (.iload 4, 2) := by decide +kernel
theorem dL_law_1466 : decode cL_law 1466 = .ok (.iconst 1, 1) := by decide +kernel
theorem dL_law_1467 : decode cL_law 1467 = .ok (.iadd, 1) := by decide +kernel
theorem dL_law_1468 : decode cL_law 1468 = .ok (.iaload, 1) := by decide +kernel
theorem dL_law_1469 : decode cL_law 1469 = .ok (.aload_n 0, 1) := by decide +kernel
theorem dL_law_1470 : decode cL_law 1470 = .ok (.iload 4, 2) := by decide +kernel
theorem dL_law_1472 : decode cL_law 1472 = .ok (.iconst 2, 1) := by decide +kernel
theorem dL_law_1473 : decode cL_law 1473 = .ok (.iadd, 1) := by decide +kernel
theorem dL_law_1474 : decode cL_law 1474 = .ok (.iaload, 1) := by decide +kernel
theorem dL_law_1475 : decode cL_law 1475 = .ok (.aload_n 0, 1) := by decide +kernel
theorem dL_law_1476 : decode cL_law 1476 = .ok (.iload 4, 2) := by decide +kernel
theorem dL_law_1478 : decode cL_law 1478 = .ok (.iconst 3, 1) := by decide +kernel
theorem dL_law_1479 : decode cL_law 1479 = .ok (.iadd, 1) := by decide +kernel
theorem dL_law_1480 : decode cL_law 1480 = .ok (.iaload, 1) := by decide +kernel
theorem dL_law_1481 : decode cL_law 1481 = .ok (.aload_n 0, 1) := by decide +kernel
theorem dL_law_1482 : decode cL_law 1482 = .ok (.iload 4, 2) := by decide +kernel
theorem dL_law_1484 : decode cL_law 1484 = .ok (.iconst 4, 1) := by decide +kernel
theorem dL_law_1485 : decode cL_law 1485 = .ok (.iadd, 1) := by decide +kernel
theorem dL_law_1486 : decode cL_law 1486 = .ok (.iaload, 1) := by decide +kernel
theorem dL_law_1487 : decode cL_law 1487 = .ok (.i2l, 1) := by decide +kernel
theorem dL_law_1488 : decode cL_law 1488 = .ok (.bipush 32, 2) := by decide +kernel
theorem dL_law_1490 : decode cL_law 1490 = .ok (.lshl, 1) := by decide +kernel
theorem dL_law_1491 : decode cL_law 1491 = .ok (.aload_n 0, 1) := by decide +kernel
theorem dL_law_1492 : decode cL_law 1492 = .ok (.iload 4, 2) := by decide +kernel
theorem dL_law_1494 : decode cL_law 1494 = .ok (.iconst 5, 1) := by decide +kernel
theorem dL_law_1495 : decode cL_law 1495 = .ok (.iadd, 1) := by decide +kernel
theorem dL_law_1496 : decode cL_law 1496 = .ok (.iaload, 1) := by decide +kernel
theorem dL_law_1497 : decode cL_law 1497 = .ok (.i2l, 1) := by decide +kernel
theorem dL_law_1498 : decode cL_law 1498 = .ok (.ldc2_w 148, 3) := by decide +kernel
theorem dL_law_1501 : decode cL_law 1501 = .ok (.land, 1) := by decide +kernel
theorem dL_law_1502 : decode cL_law 1502 = .ok (.lor, 1) := by decide +kernel
theorem dL_law_1503 : decode cL_law 1503 = .ok (.aload_n 0, 1) := by decide +kernel
theorem dL_law_1504 : decode cL_law 1504 = .ok (.iload 4, 2) := by decide +kernel
theorem dL_law_1506 : decode cL_law 1506 = .ok (.bipush 6, 2) := by decide +kernel
theorem dL_law_1508 : decode cL_law 1508 = .ok (.iadd, 1) := by decide +kernel
theorem dL_law_1509 : decode cL_law 1509 = .ok (.iaload, 1) := by decide +kernel
theorem dL_law_1510 : decode cL_law 1510 = .ok (.i2l, 1) := by decide +kernel
theorem dL_law_1511 : decode cL_law 1511 = .ok (.bipush 32, 2) := by decide +kernel
theorem dL_law_1513 : decode cL_law 1513 = .ok (.lshl, 1) := by decide +kernel
theorem dL_law_1514 : decode cL_law 1514 = .ok (.aload_n 0, 1) := by decide +kernel
theorem dL_law_1515 : decode cL_law 1515 = .ok (.iload 4, 2) := by decide +kernel
theorem dL_law_1517 : decode cL_law 1517 = .ok (.bipush 7, 2) := by decide +kernel
theorem dL_law_1519 : decode cL_law 1519 = .ok (.iadd, 1) := by decide +kernel
theorem dL_law_1520 : decode cL_law 1520 = .ok (.iaload, 1) := by decide +kernel
theorem dL_law_1521 : decode cL_law 1521 = .ok (.i2l, 1) := by decide +kernel
theorem dL_law_1522 : decode cL_law 1522 = .ok (.ldc2_w 148, 3) := by decide +kernel
theorem dL_law_1525 : decode cL_law 1525 = .ok (.land, 1) := by decide +kernel
theorem dL_law_1526 : decode cL_law 1526 = .ok (.lor, 1) := by decide +kernel
theorem dL_law_1527 : decode cL_law 1527 = .ok (.aload_n 3, 1) := by decide +kernel
theorem dL_law_1528 : decode cL_law 1528 = .ok (.invokestatic 183, 3) := by decide +kernel
theorem dL_law_1531 : decode cL_law 1531 = .ok (.istore 5, 2) := by decide +kernel
theorem dL_law_1533 : decode cL_law 1533 = .ok (.aload_n 2, 1) := by decide +kernel
theorem dL_law_1534 : decode cL_law 1534 = .ok (.aload_n 0, 1) := by decide +kernel
theorem dL_law_1535 : decode cL_law 1535 = .ok (.iload 4, 2) := by decide +kernel
theorem dL_law_1537 : decode cL_law 1537 = .ok (.iconst 1, 1) := by decide +kernel
theorem dL_law_1538 : decode cL_law 1538 = .ok (.iadd, 1) := by decide +kernel
theorem dL_law_1539 : decode cL_law 1539 = .ok (.iaload, 1) := by decide +kernel
theorem dL_law_1540 : decode cL_law 1540 = .ok (.aload_n 0, 1) := by decide +kernel
theorem dL_law_1541 : decode cL_law 1541 = .ok (.iload 4, 2) := by decide +kernel
theorem dL_law_1543 : decode cL_law 1543 = .ok (.iconst 2, 1) := by decide +kernel
theorem dL_law_1544 : decode cL_law 1544 = .ok (.iadd, 1) := by decide +kernel
theorem dL_law_1545 : decode cL_law 1545 = .ok (.iaload, 1) := by decide +kernel
theorem dL_law_1546 : decode cL_law 1546 = .ok (.aload_n 0, 1) := by decide +kernel
theorem dL_law_1547 : decode cL_law 1547 = .ok (.iload 4, 2) := by decide +kernel
theorem dL_law_1549 : decode cL_law 1549 = .ok (.iconst 3, 1) := by decide +kernel
theorem dL_law_1550 : decode cL_law 1550 = .ok (.iadd, 1) := by decide +kernel
theorem dL_law_1551 : decode cL_law 1551 = .ok (.iaload, 1) := by decide +kernel
theorem dL_law_1552 : decode cL_law 1552 = .ok (.aload_n 0, 1) := by decide +kernel
theorem dL_law_1553 : decode cL_law 1553 = .ok (.iload 4, 2) := by decide +kernel
theorem dL_law_1555 : decode cL_law 1555 = .ok (.iconst 4, 1) := by decide +kernel
theorem dL_law_1556 : decode cL_law 1556 = .ok (.iadd, 1) := by decide +kernel
theorem dL_law_1557 : decode cL_law 1557 = .ok (.iaload, 1) := by decide +kernel
theorem dL_law_1558 : decode cL_law 1558 = .ok (.i2l, 1) := by decide +kernel
theorem dL_law_1559 : decode cL_law 1559 = .ok (.bipush 32, 2) := by decide +kernel
theorem dL_law_1561 : decode cL_law 1561 = .ok (.lshl, 1) := by decide +kernel
theorem dL_law_1562 : decode cL_law 1562 = .ok (.aload_n 0, 1) := by decide +kernel
theorem dL_law_1563 : decode cL_law 1563 = .ok (.iload 4, 2) := by decide +kernel
theorem dL_law_1565 : decode cL_law 1565 = .ok (.iconst 5, 1) := by decide +kernel
theorem dL_law_1566 : decode cL_law 1566 = .ok (.iadd, 1) := by decide +kernel
theorem dL_law_1567 : decode cL_law 1567 = .ok (.iaload, 1) := by decide +kernel
theorem dL_law_1568 : decode cL_law 1568 = .ok (.i2l, 1) := by decide +kernel
theorem dL_law_1569 : decode cL_law 1569 = .ok (.ldc2_w 148, 3) := by decide +kernel
theorem dL_law_1572 : decode cL_law 1572 = .ok (.land, 1) := by decide +kernel
theorem dL_law_1573 : decode cL_law 1573 = .ok (.lor, 1) := by decide +kernel
theorem dL_law_1574 : decode cL_law 1574 = .ok (.aload_n 0, 1) := by decide +kernel
theorem dL_law_1575 : decode cL_law 1575 = .ok (.iload 4, 2) := by decide +kernel
theorem dL_law_1577 : decode cL_law 1577 = .ok (.bipush 6, 2) := by decide +kernel
theorem dL_law_1579 : decode cL_law 1579 = .ok (.iadd, 1) := by decide +kernel
theorem dL_law_1580 : decode cL_law 1580 = .ok (.iaload, 1) := by decide +kernel
theorem dL_law_1581 : decode cL_law 1581 = .ok (.i2l, 1) := by decide +kernel
theorem dL_law_1582 : decode cL_law 1582 = .ok (.bipush 32, 2) := by decide +kernel
theorem dL_law_1584 : decode cL_law 1584 = .ok (.lshl, 1) := by decide +kernel
theorem dL_law_1585 : decode cL_law 1585 = .ok (.aload_n 0, 1) := by decide +kernel
theorem dL_law_1586 : decode cL_law 1586 = .ok (.iload 4, 2) := by decide +kernel
theorem dL_law_1588 : decode cL_law 1588 = .ok (.bipush 7, 2) := by decide +kernel
theorem dL_law_1590 : decode cL_law 1590 = .ok (.iadd, 1) := by decide +kernel
theorem dL_law_1591 : decode cL_law 1591 = .ok (.iaload, 1) := by decide +kernel
theorem dL_law_1592 : decode cL_law 1592 = .ok (.i2l, 1) := by decide +kernel
theorem dL_law_1593 : decode cL_law 1593 = .ok (.ldc2_w 148, 3) := by decide +kernel
theorem dL_law_1596 : decode cL_law 1596 = .ok (.land, 1) := by decide +kernel
theorem dL_law_1597 : decode cL_law 1597 = .ok (.lor, 1) := by decide +kernel
theorem dL_law_1598 : decode cL_law 1598 = .ok (.invokevirtual 186, 3) := by decide +kernel
theorem dL_law_1601 : decode cL_law 1601 = .ok (.lstore 6, 2) := by decide +kernel
theorem dL_law_1603 : decode cL_law 1603 = .ok (.aload_n 2, 1) := by decide +kernel
theorem dL_law_1604 : decode cL_law 1604 = .ok (.invokevirtual 116, 3) := by decide +kernel
theorem dL_law_1607 : decode cL_law 1607 = .ok (.iload 5, 2) := by decide +kernel
theorem dL_law_1609 : decode cL_law 1609 = .ok (.if_icmp .eq 5, 3) := by decide +kernel
theorem dL_law_1614 : decode cL_law 1614 = .ok (.iload 5, 2) := by decide +kernel
theorem dL_law_1616 : decode cL_law 1616 = .ok (.ifCond .ne 14, 3) := by decide +kernel
theorem dL_law_1619 : decode cL_law 1619 = .ok (.aload_n 3, 1) := by decide +kernel
theorem dL_law_1620 : decode cL_law 1620 = .ok (.iconst 0, 1) := by decide +kernel
theorem dL_law_1621 : decode cL_law 1621 = .ok (.laload, 1) := by decide +kernel
theorem dL_law_1622 : decode cL_law 1622 = .ok (.lload 6, 2) := by decide +kernel
theorem dL_law_1624 : decode cL_law 1624 = .ok (.lcmp, 1) := by decide +kernel
theorem dL_law_1625 : decode cL_law 1625 = .ok (.ifCond .eq 5, 3) := by decide +kernel
theorem dL_law_1630 : decode cL_law 1630 = .ok (.goto 174, 3) := by decide +kernel
set_option maxHeartbeats 4000000 in
set_option maxRecDepth 100000 in
theorem lk_22 {p : Program} {l : Launch} {e : Env} {s : State} {m : MethodId} {below : List Frame} {meth : Method} {c : Code} {D : va_G} {kA : Nat → ClassId} {V : Nat → Nat} {b : Nat} {xs : Nat → Int32} {A : Nat → Prop} (hC : lw_C p l s m meth c b 8 xs D kA V A) (hA2 : ∀ q, A q → s.heap.size ≤ q) (h0 : Nat) (m0 : Nat) (o0 : Nat) (x0 : Nat) (x1 : Nat) (x2 : Nat) (x3 : Nat) (x4 : Nat) (x5 : Nat) (x6 : Nat) (x7 : Nat) (x8 : Nat) (y0 : List Value) (hq : ∀ k, k < 121 → k < y0.length) (hq9 : y0[9]? = some (.int 0)) {H : Heap} {locs : List Loc} {ls : Array Slot} (hl : lv_has ls 8 [(0, .ref b), (1, .ref h0), (2, .ref m0), (3, .ref o0), (4, .int 0)]) (hS : va_S A s.heap H locs) (hP : va_P D vwCl [(h0, .inr (10, [.ref x0, .int 0, .ref x1, .ref x2, .ref x3, .ref x4, .ref x5, .ref x6, .ref x7, .ref x8, .int 0, .int 3000])), (m0, .inr (11, y0)), (o0, .inl (kA 1, 1, .inr (.inl (fun _ => 0))))] H) (hD : va_D A [(h0, .inr (10, [.ref x0, .int 0, .ref x1, .ref x2, .ref x3, .ref x4, .ref x5, .ref x6, .ref x7, .ref x8, .int 0, .int 3000])), (m0, .inr (11, y0)), (o0, .inl (kA 1, 1, .inr (.inl (fun _ => 0))))]) : W p l e room_1 s m #[Value.ref b] below meth c H locs 514 172793 (lw_Z below #[Value.ref b] s) (F0 m 1462 ls []) := by
  have ⟨hst, hx, hb, hr, hml, hown, hts, hG, hX, hbl, hbA, hlocks, hE, hK, hA⟩ := hC
  refine lv_aload_n hx hb dL_law_1462 rfl (lv_at hl 1 rfl) ?_
  refine lv_aload_n hx hb dL_law_1463 rfl (lv_at hl 0 rfl) ?_
  refine lv_iload hx hb dL_law_1464 (lv_at hl 4 rfl) ?_
  refine lv_iconst (v := 1) hx hb dL_law_1466 (by decide) ?_
  refine lv_iadd hx hb dL_law_1467 ?_
  refine W.eq (g2 := F0 m 1468 ls [.int 1, .ref b, .ref h0]) rfl ?_
  refine va_sld hx hb hX hbl hbA hS (show vp_in 1 8 by unfold vp_in; decide) dL_law_1468 ?_
  refine W.eq (g2 := F0 m 1469 ls [.int (xs 1), .ref h0]) rfl ?_
  refine lv_aload_n hx hb dL_law_1469 rfl (lv_at hl 0 rfl) ?_
  refine lv_iload hx hb dL_law_1470 (lv_at hl 4 rfl) ?_
  refine lv_iconst (v := 2) hx hb dL_law_1472 (by decide) ?_
  refine lv_iadd hx hb dL_law_1473 ?_
  refine W.eq (g2 := F0 m 1474 ls [.int 2, .ref b, .int (xs 1), .ref h0]) rfl ?_
  refine va_sld hx hb hX hbl hbA hS (show vp_in 2 8 by unfold vp_in; decide) dL_law_1474 ?_
  refine W.eq (g2 := F0 m 1475 ls [.int (xs 2), .int (xs 1), .ref h0]) rfl ?_
  refine lv_aload_n hx hb dL_law_1475 rfl (lv_at hl 0 rfl) ?_
  refine lv_iload hx hb dL_law_1476 (lv_at hl 4 rfl) ?_
  refine lv_iconst (v := 3) hx hb dL_law_1478 (by decide) ?_
  refine lv_iadd hx hb dL_law_1479 ?_
  refine W.eq (g2 := F0 m 1480 ls [.int 3, .ref b, .int (xs 2), .int (xs 1), .ref h0]) rfl ?_
  refine va_sld hx hb hX hbl hbA hS (show vp_in 3 8 by unfold vp_in; decide) dL_law_1480 ?_
  refine W.eq (g2 := F0 m 1481 ls [.int (xs 3), .int (xs 2), .int (xs 1), .ref h0]) rfl ?_
  refine lv_aload_n hx hb dL_law_1481 rfl (lv_at hl 0 rfl) ?_
  refine lv_iload hx hb dL_law_1482 (lv_at hl 4 rfl) ?_
  refine lv_iconst (v := 4) hx hb dL_law_1484 (by decide) ?_
  refine lv_iadd hx hb dL_law_1485 ?_
  refine W.eq (g2 := F0 m 1486 ls [.int 4, .ref b, .int (xs 3), .int (xs 2), .int (xs 1), .ref h0]) rfl ?_
  refine va_sld hx hb hX hbl hbA hS (show vp_in 4 8 by unfold vp_in; decide) dL_law_1486 ?_
  refine W.eq (g2 := F0 m 1487 ls [.int (xs 4), .int (xs 3), .int (xs 2), .int (xs 1), .ref h0]) rfl ?_
  refine lv_i2l (v := (xs 4).toInt64) hx hb dL_law_1487 rfl ?_
  refine lv_bipush (v := 32) hx hb dL_law_1488 (by decide) ?_
  refine lv_lshl (v := ((xs 4).toInt64) <<< ((32 : Int32).toInt64 &&& 63)) hx hb dL_law_1490 rfl ?_
  refine lv_aload_n hx hb dL_law_1491 rfl (lv_at hl 0 rfl) ?_
  refine lv_iload hx hb dL_law_1492 (lv_at hl 4 rfl) ?_
  refine lv_iconst (v := 5) hx hb dL_law_1494 (by decide) ?_
  refine lv_iadd hx hb dL_law_1495 ?_
  refine W.eq (g2 := F0 m 1496 ls [.int 5, .ref b, .long (((xs 4).toInt64) <<< ((32 : Int32).toInt64 &&& 63)), .int (xs 3), .int (xs 2), .int (xs 1), .ref h0]) rfl ?_
  refine va_sld hx hb hX hbl hbA hS (show vp_in 5 8 by unfold vp_in; decide) dL_law_1496 ?_
  refine W.eq (g2 := F0 m 1497 ls [.int (xs 5), .long (((xs 4).toInt64) <<< ((32 : Int32).toInt64 &&& 63)), .int (xs 3), .int (xs 2), .int (xs 1), .ref h0]) rfl ?_
  refine lv_i2l (v := (xs 5).toInt64) hx hb dL_law_1497 rfl ?_
  refine lv_ldc2 (v := 4294967295) hx hb hown (hG _ gw_2764) dL_law_1498 ?_
  refine lv_land hx hb dL_law_1501 ?_
  refine lv_lor hx hb dL_law_1502 ?_
  refine lv_aload_n hx hb dL_law_1503 rfl (lv_at hl 0 rfl) ?_
  refine lv_iload hx hb dL_law_1504 (lv_at hl 4 rfl) ?_
  refine lv_bipush (v := 6) hx hb dL_law_1506 (by decide) ?_
  refine lv_iadd hx hb dL_law_1508 ?_
  refine W.eq (g2 := F0 m 1509 ls [.int 6, .ref b, .long ((((xs 4).toInt64) <<< ((32 : Int32).toInt64 &&& 63)) ||| (((xs 5).toInt64) &&& 4294967295)), .int (xs 3), .int (xs 2), .int (xs 1), .ref h0]) rfl ?_
  refine va_sld hx hb hX hbl hbA hS (show vp_in 6 8 by unfold vp_in; decide) dL_law_1509 ?_
  refine W.eq (g2 := F0 m 1510 ls [.int (xs 6), .long ((((xs 4).toInt64) <<< ((32 : Int32).toInt64 &&& 63)) ||| (((xs 5).toInt64) &&& 4294967295)), .int (xs 3), .int (xs 2), .int (xs 1), .ref h0]) rfl ?_
  refine lv_i2l (v := (xs 6).toInt64) hx hb dL_law_1510 rfl ?_
  refine lv_bipush (v := 32) hx hb dL_law_1511 (by decide) ?_
  refine lv_lshl (v := ((xs 6).toInt64) <<< ((32 : Int32).toInt64 &&& 63)) hx hb dL_law_1513 rfl ?_
  refine lv_aload_n hx hb dL_law_1514 rfl (lv_at hl 0 rfl) ?_
  refine lv_iload hx hb dL_law_1515 (lv_at hl 4 rfl) ?_
  refine lv_bipush (v := 7) hx hb dL_law_1517 (by decide) ?_
  refine lv_iadd hx hb dL_law_1519 ?_
  refine W.eq (g2 := F0 m 1520 ls [.int 7, .ref b, .long (((xs 6).toInt64) <<< ((32 : Int32).toInt64 &&& 63)), .long ((((xs 4).toInt64) <<< ((32 : Int32).toInt64 &&& 63)) ||| (((xs 5).toInt64) &&& 4294967295)), .int (xs 3), .int (xs 2), .int (xs 1), .ref h0]) rfl ?_
  refine va_sld hx hb hX hbl hbA hS (show vp_in 7 8 by unfold vp_in; decide) dL_law_1520 ?_
  refine W.eq (g2 := F0 m 1521 ls [.int (xs 7), .long (((xs 6).toInt64) <<< ((32 : Int32).toInt64 &&& 63)), .long ((((xs 4).toInt64) <<< ((32 : Int32).toInt64 &&& 63)) ||| (((xs 5).toInt64) &&& 4294967295)), .int (xs 3), .int (xs 2), .int (xs 1), .ref h0]) rfl ?_
  refine lv_i2l (v := (xs 7).toInt64) hx hb dL_law_1521 rfl ?_
  refine lv_ldc2 (v := 4294967295) hx hb hown (hG _ gw_2764) dL_law_1522 ?_
  refine lv_land hx hb dL_law_1525 ?_
  refine lv_lor hx hb dL_law_1526 ?_
  refine lv_aload_n hx hb dL_law_1527 rfl (lv_at hl 3 rfl) ?_
  have hPc := hP.sub (ws' := [(h0, .inr (10, [.ref x0, .int 0, .ref x1, .ref x2, .ref x3, .ref x4, .ref x5, .ref x6, .ref x7, .ref x8, .int 0, .int 3000])), (o0, .inl (kA 1, 1, .inr (.inl (fun _ => 0))))]) [0, 2] rfl
  have hDc := hD.sub (ws' := [(h0, .inr (10, [.ref x0, .int 0, .ref x1, .ref x2, .ref x3, .ref x4, .ref x5, .ref x6, .ref x7, .ref x8, .int 0, .int 3000])), (o0, .inl (kA 1, 1, .inr (.inl (fun _ => 0))))]) [0, 2] (by decide) rfl
  have hFc := va_free (wc := [(h0, .inr (10, [.ref x0, .int 0, .ref x1, .ref x2, .ref x3, .ref x4, .ref x5, .ref x6, .ref x7, .ref x8, .int 0, .int 3000])), (o0, .inl (kA 1, 1, .inr (.inl (fun _ => 0))))]) hD hS hA [0, 2] rfl
  refine va_calli (vx_runSW (As := [.ref h0, .int (xs 1), .int (xs 2), .int (xs 3), .long ((((xs 4).toInt64) <<< ((32 : Int32).toInt64 &&& 63)) ||| (((xs 5).toInt64) &&& 4294967295)), .long ((((xs 6).toInt64) <<< ((32 : Int32).toInt64 &&& 63)) ||| (((xs 7).toInt64) &&& 4294967295)), .ref o0]) (rest := []) ⟨hx, hb, hml, hown, hts⟩ (a172_L_work l hst D kA V H.size h0 (xs 1) (xs 2) (xs 3) ((((xs 4).toInt64) <<< ((32 : Int32).toInt64 &&& 63)) ||| (((xs 5).toInt64) &&& 4294967295)) ((((xs 6).toInt64) <<< ((32 : Int32).toInt64 &&& 63)) ||| (((xs 7).toInt64) &&& 4294967295)) o0 x0 x1 x2 x3 x4 x5 x6 x7 x8) (vx_cwSW 7 hts (gw_SW gw_1843 gw_1844 gw_0 gw_1845) rfl rfl rfl (by decide +kernel) ⟨(Nat.le_of_ble_eq_true rfl), (Nat.le_of_ble_eq_true rfl)⟩) ⟨aP.blind, aP.pre hE hS hPc hK hDc hFc⟩ rfl rfl hl.1 rfl (lv_room (Nat.le_of_ble_eq_true rfl)) dL_law_1528 ⟨(Nat.le_of_ble_eq_true rfl), (Nat.le_of_ble_eq_true rfl)⟩) hS (fun q _ h => hFc q h) hFc (fun r_1 u t H1 locs ht hvm hw hB hz1 hk1 hS => ?_)
  obtain ⟨u_2, rfl⟩ : ∃ z, z = u := ⟨u, rfl⟩
  obtain ⟨hP1, hD1⟩ := hB
  rw [ht] at hP1
  try dsimp only at hw hP1 hD1
  rcases hw with ⟨c_3, w_4, w_5⟩ | ⟨c_6, c_7, w_8, w_9⟩ | ⟨c_10, c_11, c_12, w_13, w_14⟩ | ⟨c_15, c_16, c_17, c_18, w_19, w_20⟩ | ⟨c_21, c_22, c_23, c_24, c_25, w_26, w_27⟩ | ⟨c_28, c_29, c_30, c_31, c_32, c_33, c_34, c_35, w_36, w_37⟩ | ⟨c_38, c_39, c_40, c_41, c_42, c_43, c_44, c_45, c_46, w_47, w_48⟩ | ⟨c_49, c_50, c_51, c_52, c_53, c_54, w_55, w_56⟩ | ⟨c_57, c_58, c_59, c_60, c_61, c_62, c_63, c_64, w_65, w_66⟩ | ⟨c_67, c_68, c_69, c_70, c_71, c_72, c_73, c_74, c_75, w_76, w_77⟩ | ⟨c_78, c_79, c_80, c_81, c_82, c_83, c_84, c_85, c_86, c_87, w_88, w_89⟩ | ⟨c_90, c_91, c_92, c_93, c_94, c_95, c_96, c_97, c_98, c_99, w_100, w_101⟩ | ⟨c_102, c_103, c_104, c_105, c_106, c_107, c_108, c_109, c_110, c_111, w_112, w_113⟩ | ⟨c_114, c_115, c_116, c_117, c_118, c_119, c_120, c_121, c_122, c_123, c_124, w_125, w_126⟩ | ⟨c_127, c_128, c_129, c_130, c_131, c_132, c_133, c_134, c_135, c_136, c_137, c_138, w_139, w_140⟩ | ⟨c_141, c_142, c_143, c_144, c_145, c_146, c_147, c_148, c_149, c_150, c_151, c_152, w_153, w_154⟩
  · skip
    subst w_4
    subst w_5
    obtain ⟨hP, hD⟩ := va_join (wr := [(m0, .inr (11, y0))]) (w1 := [(h0, .inr (10, [.ref x0, .int 0, .ref x1, .ref x2, .ref x3, .ref x4, .ref x5, .ref x6, .ref x7, .ref x8, .int 0, .int 3000])), (o0, .inl (kA 1, 1, .inr (.inl (fun _ => 0))))]) hP hD [0, 2] [1] rfl rfl (by decide) (by decide) hk1 hFc hP1 hD1
    generalize H1 = H at hP hS ⊢
    have hP : va_P D vwCl [(m0, .inr (11, y0)), (h0, .inr (10, [.ref x0, .int 0, .ref x1, .ref x2, .ref x3, .ref x4, .ref x5, .ref x6, .ref x7, .ref x8, .int 0, .int 3000])), (o0, .inl (kA 1, 1, .inr (.inl (fun _ => 0))))] H := hP
    have hD : va_D A [(m0, .inr (11, y0)), (h0, .inr (10, [.ref x0, .int 0, .ref x1, .ref x2, .ref x3, .ref x4, .ref x5, .ref x6, .ref x7, .ref x8, .int 0, .int 3000])), (o0, .inl (kA 1, 1, .inr (.inl (fun _ => 0))))] := hD
    refine lv_istore (lv' := [(5, .int 1), (0, .ref b), (1, .ref h0), (2, .ref m0), (3, .ref o0), (4, .int 0)]) hx hb dL_law_1531 hl (by decide) rfl (fun ls hl => ?_)
    refine lv_aload_n hx hb dL_law_1533 rfl (lv_at hl 3 rfl) ?_
    refine lv_aload_n hx hb dL_law_1534 rfl (lv_at hl 1 rfl) ?_
    refine lv_iload hx hb dL_law_1535 (lv_at hl 5 rfl) ?_
    refine lv_iconst (v := 1) hx hb dL_law_1537 (by decide) ?_
    refine lv_iadd hx hb dL_law_1538 ?_
    refine W.eq (g2 := F0 m 1539 ls [.int 1, .ref b, .ref m0]) rfl ?_
    refine va_sld hx hb hX hbl hbA hS (show vp_in 1 8 by unfold vp_in; decide) dL_law_1539 ?_
    refine W.eq (g2 := F0 m 1540 ls [.int (xs 1), .ref m0]) rfl ?_
    refine lv_aload_n hx hb dL_law_1540 rfl (lv_at hl 1 rfl) ?_
    refine lv_iload hx hb dL_law_1541 (lv_at hl 5 rfl) ?_
    refine lv_iconst (v := 2) hx hb dL_law_1543 (by decide) ?_
    refine lv_iadd hx hb dL_law_1544 ?_
    refine W.eq (g2 := F0 m 1545 ls [.int 2, .ref b, .int (xs 1), .ref m0]) rfl ?_
    refine va_sld hx hb hX hbl hbA hS (show vp_in 2 8 by unfold vp_in; decide) dL_law_1545 ?_
    refine W.eq (g2 := F0 m 1546 ls [.int (xs 2), .int (xs 1), .ref m0]) rfl ?_
    refine lv_aload_n hx hb dL_law_1546 rfl (lv_at hl 1 rfl) ?_
    refine lv_iload hx hb dL_law_1547 (lv_at hl 5 rfl) ?_
    refine lv_iconst (v := 3) hx hb dL_law_1549 (by decide) ?_
    refine lv_iadd hx hb dL_law_1550 ?_
    refine W.eq (g2 := F0 m 1551 ls [.int 3, .ref b, .int (xs 2), .int (xs 1), .ref m0]) rfl ?_
    refine va_sld hx hb hX hbl hbA hS (show vp_in 3 8 by unfold vp_in; decide) dL_law_1551 ?_
    refine W.eq (g2 := F0 m 1552 ls [.int (xs 3), .int (xs 2), .int (xs 1), .ref m0]) rfl ?_
    refine lv_aload_n hx hb dL_law_1552 rfl (lv_at hl 1 rfl) ?_
    refine lv_iload hx hb dL_law_1553 (lv_at hl 5 rfl) ?_
    refine lv_iconst (v := 4) hx hb dL_law_1555 (by decide) ?_
    refine lv_iadd hx hb dL_law_1556 ?_
    refine W.eq (g2 := F0 m 1557 ls [.int 4, .ref b, .int (xs 3), .int (xs 2), .int (xs 1), .ref m0]) rfl ?_
    refine va_sld hx hb hX hbl hbA hS (show vp_in 4 8 by unfold vp_in; decide) dL_law_1557 ?_
    refine W.eq (g2 := F0 m 1558 ls [.int (xs 4), .int (xs 3), .int (xs 2), .int (xs 1), .ref m0]) rfl ?_
    refine lv_i2l (v := (xs 4).toInt64) hx hb dL_law_1558 rfl ?_
    refine lv_bipush (v := 32) hx hb dL_law_1559 (by decide) ?_
    refine lv_lshl (v := ((xs 4).toInt64) <<< ((32 : Int32).toInt64 &&& 63)) hx hb dL_law_1561 rfl ?_
    refine lv_aload_n hx hb dL_law_1562 rfl (lv_at hl 1 rfl) ?_
    refine lv_iload hx hb dL_law_1563 (lv_at hl 5 rfl) ?_
    refine lv_iconst (v := 5) hx hb dL_law_1565 (by decide) ?_
    refine lv_iadd hx hb dL_law_1566 ?_
    refine W.eq (g2 := F0 m 1567 ls [.int 5, .ref b, .long (((xs 4).toInt64) <<< ((32 : Int32).toInt64 &&& 63)), .int (xs 3), .int (xs 2), .int (xs 1), .ref m0]) rfl ?_
    refine va_sld hx hb hX hbl hbA hS (show vp_in 5 8 by unfold vp_in; decide) dL_law_1567 ?_
    refine W.eq (g2 := F0 m 1568 ls [.int (xs 5), .long (((xs 4).toInt64) <<< ((32 : Int32).toInt64 &&& 63)), .int (xs 3), .int (xs 2), .int (xs 1), .ref m0]) rfl ?_
    refine lv_i2l (v := (xs 5).toInt64) hx hb dL_law_1568 rfl ?_
    refine lv_ldc2 (v := 4294967295) hx hb hown (hG _ gw_2764) dL_law_1569 ?_
    refine lv_land hx hb dL_law_1572 ?_
    refine lv_lor hx hb dL_law_1573 ?_
    refine lv_aload_n hx hb dL_law_1574 rfl (lv_at hl 1 rfl) ?_
    refine lv_iload hx hb dL_law_1575 (lv_at hl 5 rfl) ?_
    refine lv_bipush (v := 6) hx hb dL_law_1577 (by decide) ?_
    refine lv_iadd hx hb dL_law_1579 ?_
    refine W.eq (g2 := F0 m 1580 ls [.int 6, .ref b, .long ((((xs 4).toInt64) <<< ((32 : Int32).toInt64 &&& 63)) ||| (((xs 5).toInt64) &&& 4294967295)), .int (xs 3), .int (xs 2), .int (xs 1), .ref m0]) rfl ?_
    refine va_sld hx hb hX hbl hbA hS (show vp_in 6 8 by unfold vp_in; decide) dL_law_1580 ?_
    refine W.eq (g2 := F0 m 1581 ls [.int (xs 6), .long ((((xs 4).toInt64) <<< ((32 : Int32).toInt64 &&& 63)) ||| (((xs 5).toInt64) &&& 4294967295)), .int (xs 3), .int (xs 2), .int (xs 1), .ref m0]) rfl ?_
    refine lv_i2l (v := (xs 6).toInt64) hx hb dL_law_1581 rfl ?_
    refine lv_bipush (v := 32) hx hb dL_law_1582 (by decide) ?_
    refine lv_lshl (v := ((xs 6).toInt64) <<< ((32 : Int32).toInt64 &&& 63)) hx hb dL_law_1584 rfl ?_
    refine lv_aload_n hx hb dL_law_1585 rfl (lv_at hl 1 rfl) ?_
    refine lv_iload hx hb dL_law_1586 (lv_at hl 5 rfl) ?_
    refine lv_bipush (v := 7) hx hb dL_law_1588 (by decide) ?_
    refine lv_iadd hx hb dL_law_1590 ?_
    refine W.eq (g2 := F0 m 1591 ls [.int 7, .ref b, .long (((xs 6).toInt64) <<< ((32 : Int32).toInt64 &&& 63)), .long ((((xs 4).toInt64) <<< ((32 : Int32).toInt64 &&& 63)) ||| (((xs 5).toInt64) &&& 4294967295)), .int (xs 3), .int (xs 2), .int (xs 1), .ref m0]) rfl ?_
    refine va_sld hx hb hX hbl hbA hS (show vp_in 7 8 by unfold vp_in; decide) dL_law_1591 ?_
    refine W.eq (g2 := F0 m 1592 ls [.int (xs 7), .long (((xs 6).toInt64) <<< ((32 : Int32).toInt64 &&& 63)), .long ((((xs 4).toInt64) <<< ((32 : Int32).toInt64 &&& 63)) ||| (((xs 5).toInt64) &&& 4294967295)), .int (xs 3), .int (xs 2), .int (xs 1), .ref m0]) rfl ?_
    refine lv_i2l (v := (xs 7).toInt64) hx hb dL_law_1592 rfl ?_
    refine lv_ldc2 (v := 4294967295) hx hb hown (hG _ gw_2764) dL_law_1593 ?_
    refine lv_land hx hb dL_law_1596 ?_
    refine lv_lor hx hb dL_law_1597 ?_
    have hPc := hP.sub (ws' := [(m0, .inr (11, y0))]) [0] rfl
    have hDc := hD.sub (ws' := [(m0, .inr (11, y0))]) [0] (by decide) rfl
    have hFc := va_free (wc := [(m0, .inr (11, y0))]) hD hS hA [0] rfl
    refine va_calll (va_runV (As := [.int (xs 1), .int (xs 2), .int (xs 3), .long ((((xs 4).toInt64) <<< ((32 : Int32).toInt64 &&& 63)) ||| (((xs 5).toInt64) &&& 4294967295)), .long ((((xs 6).toInt64) <<< ((32 : Int32).toInt64 &&& 63)) ||| (((xs 7).toInt64) &&& 4294967295))]) (rest := []) ⟨hx, hb, hml, hown, hts⟩ (a153_X12_work l  D kA V H.size m0 (xs 1) (xs 2) (xs 3) ((((xs 4).toInt64) <<< ((32 : Int32).toInt64 &&& 63)) ||| (((xs 5).toInt64) &&& 4294967295)) ((((xs 6).toInt64) <<< ((32 : Int32).toInt64 &&& 63)) ||| (((xs 7).toInt64) &&& 4294967295)) y0 (fun k hk => (hq k hk)) hq9) (cwV 5 hts (gw_V gw_2756 gw_2757 gw_2758 gw_16 gw_2759) rfl rfl rfl (by decide +kernel) ⟨(Nat.le_of_ble_eq_true rfl), (Nat.le_of_ble_eq_true rfl)⟩) ⟨aP.blind, va_recv hK hP (ci := 11) (q0 := 0) rfl rfl, aP.pre hE hS hPc hK hDc hFc⟩ rfl rfl hl.1 rfl (lv_room (Nat.le_of_ble_eq_true rfl)) dL_law_1598 ⟨(Nat.le_of_ble_eq_true rfl), (Nat.le_of_ble_eq_true rfl)⟩) hS (fun q _ h => hFc q h) hFc (fun r_155 u t H1 locs ht hvm hw hB hz1 hk1 hS => ?_)
    obtain ⟨u_156, rfl⟩ : ∃ z, z = u := ⟨u, rfl⟩
    obtain ⟨hP1, hD1⟩ := hB
    rw [ht] at hP1
    try dsimp only at hw hP1 hD1
    rcases hw with ⟨c_157, c_158, w_159, w_160⟩ | ⟨c_161, c_162, c_163, w_164, w_165⟩ | ⟨c_166, c_167, c_168, c_169, w_170, w_171⟩ | ⟨c_172, c_173, c_174, c_175, c_176, w_177, w_178⟩ | ⟨c_179, c_180, c_181, c_182, c_183, w_184, w_185⟩ | ⟨c_186, c_187, c_188, w_189, w_190⟩ | ⟨c_191, c_192, c_193, c_194, w_195, w_196⟩ | ⟨c_197, c_198, c_199, c_200, c_201, w_202, w_203⟩ | ⟨c_204, c_205, c_206, c_207, c_208, c_209, w_210, w_211⟩ | ⟨c_212, c_213, c_214, c_215, c_216, c_217, w_218, w_219⟩ | ⟨c_220, c_221, c_222, w_223, w_224⟩ | ⟨c_225, c_226, c_227, c_228, w_229, w_230⟩ | ⟨c_231, c_232, c_233, c_234, c_235, w_236, w_237⟩ | ⟨c_238, c_239, c_240, c_241, c_242, c_243, w_244, w_245⟩ | ⟨c_246, c_247, c_248, c_249, c_250, c_251, c_252, c_253, c_254, c_255, c_256, c_257, c_258, c_259, c_260, c_261, c_262, c_263, c_264, w_265, w_266⟩ | ⟨c_267, c_268, c_269, c_270, c_271, c_272, c_273, c_274, c_275, c_276, c_277, c_278, c_279, c_280, c_281, c_282, c_283, c_284, c_285, c_286, w_287, w_288⟩ | ⟨c_289, c_290, c_291, c_292, c_293, c_294, c_295, c_296, c_297, c_298, c_299, c_300, c_301, c_302, c_303, c_304, c_305, c_306, c_307, c_308, c_309, w_310, w_311⟩ | ⟨c_312, c_313, c_314, c_315, c_316, c_317, c_318, c_319, c_320, c_321, c_322, c_323, c_324, c_325, c_326, c_327, c_328, c_329, c_330, c_331, c_332, w_333, w_334⟩ | ⟨c_335, c_336, c_337, c_338, c_339, c_340, c_341, c_342, c_343, c_344, c_345, c_346, c_347, c_348, c_349, c_350, c_351, c_352, c_353, w_354, w_355⟩ | ⟨c_356, c_357, c_358, c_359, c_360, c_361, c_362, c_363, c_364, c_365, c_366, c_367, c_368, c_369, c_370, c_371, c_372, c_373, c_374, c_375, w_376, w_377⟩ | ⟨c_378, c_379, c_380, c_381, c_382, c_383, c_384, c_385, c_386, c_387, c_388, c_389, c_390, c_391, c_392, c_393, c_394, c_395, w_396, w_397⟩ | ⟨c_398, c_399, c_400, c_401, c_402, c_403, c_404, c_405, c_406, c_407, c_408, c_409, c_410, c_411, c_412, c_413, c_414, c_415, c_416, w_417, w_418⟩ | ⟨c_419, c_420, c_421, c_422, c_423, c_424, c_425, c_426, c_427, c_428, c_429, c_430, c_431, c_432, c_433, c_434, c_435, w_436, w_437⟩ | ⟨c_438, c_439, c_440, c_441, c_442, c_443, c_444, c_445, c_446, c_447, c_448, c_449, c_450, c_451, c_452, c_453, c_454, c_455, c_456, w_457, w_458⟩ | ⟨c_459, c_460, c_461, c_462, c_463, c_464, c_465, c_466, c_467, c_468, c_469, c_470, c_471, c_472, c_473, c_474, c_475, c_476, c_477, w_478, w_479⟩ | ⟨c_480, c_481, c_482, c_483, c_484, c_485, c_486, c_487, c_488, c_489, c_490, c_491, c_492, c_493, c_494, c_495, w_496, w_497⟩ | ⟨c_498, c_499, c_500, c_501, c_502, c_503, c_504, c_505, c_506, c_507, c_508, c_509, c_510, c_511, c_512, c_513, c_514, c_515, w_516, w_517⟩ | ⟨c_518, c_519, c_520, c_521, c_522, c_523, c_524, c_525, c_526, c_527, c_528, c_529, c_530, c_531, c_532, c_533, c_534, c_535, w_536, w_537⟩ | ⟨c_538, c_539, c_540, c_541, c_542, c_543, c_544, c_545, c_546, c_547, c_548, c_549, c_550, c_551, c_552, w_553, w_554⟩ | ⟨c_555, c_556, c_557, c_558, c_559, c_560, c_561, c_562, c_563, c_564, c_565, c_566, c_567, c_568, c_569, c_570, c_571, w_572, w_573⟩ | ⟨c_574, c_575, c_576, c_577, c_578, c_579, c_580, c_581, c_582, c_583, c_584, c_585, c_586, c_587, c_588, c_589, c_590, w_591, w_592⟩ | ⟨c_593, c_594, c_595, c_596, c_597, c_598, c_599, c_600, c_601, c_602, c_603, c_604, c_605, c_606, c_607, w_608, w_609⟩ | ⟨c_610, c_611, c_612, c_613, c_614, c_615, c_616, c_617, c_618, c_619, c_620, c_621, c_622, c_623, c_624, c_625, c_626, w_627, w_628⟩ | ⟨c_629, c_630, c_631, c_632, c_633, c_634, c_635, c_636, c_637, c_638, c_639, c_640, c_641, c_642, c_643, c_644, c_645, w_646, w_647⟩ | ⟨c_648, c_649, c_650, c_651, c_652, c_653, c_654, c_655, c_656, c_657, c_658, c_659, c_660, c_661, c_662, w_663, w_664⟩ | ⟨c_665, c_666, c_667, c_668, c_669, c_670, c_671, c_672, c_673, c_674, c_675, c_676, c_677, c_678, c_679, c_680, c_681, w_682, w_683⟩ | ⟨c_684, c_685, c_686, c_687, c_688, c_689, c_690, c_691, c_692, c_693, c_694, c_695, c_696, c_697, c_698, c_699, c_700, w_701, w_702⟩ | ⟨c_703, c_704, c_705, c_706, c_707, c_708, c_709, c_710, c_711, c_712, c_713, c_714, c_715, w_716, w_717⟩ | ⟨c_718, c_719, c_720, c_721, c_722, c_723, c_724, c_725, c_726, c_727, c_728, c_729, c_730, c_731, c_732, w_733, w_734⟩ | ⟨c_735, c_736, c_737, c_738, c_739, c_740, c_741, c_742, c_743, c_744, c_745, c_746, c_747, c_748, c_749, w_750, w_751⟩ | ⟨c_752, c_753, c_754, c_755, c_756, c_757, c_758, c_759, c_760, c_761, c_762, c_763, c_764, w_765, w_766⟩ | ⟨c_767, c_768, c_769, c_770, c_771, c_772, c_773, c_774, c_775, c_776, c_777, c_778, c_779, c_780, c_781, w_782, w_783⟩ | ⟨c_784, c_785, c_786, c_787, c_788, c_789, c_790, c_791, c_792, c_793, c_794, c_795, c_796, c_797, c_798, w_799, w_800⟩ | ⟨c_801, c_802, c_803, c_804, c_805, c_806, c_807, c_808, c_809, c_810, c_811, c_812, w_813, w_814⟩ | ⟨c_815, c_816, c_817, c_818, c_819, c_820, c_821, c_822, c_823, c_824, c_825, c_826, c_827, c_828, w_829, w_830⟩ | ⟨c_831, c_832, c_833, c_834, c_835, c_836, c_837, c_838, c_839, c_840, c_841, c_842, c_843, c_844, w_845, w_846⟩ | ⟨c_847, c_848, c_849, c_850, c_851, c_852, c_853, c_854, c_855, c_856, c_857, w_858, w_859⟩ | ⟨c_860, c_861, c_862, c_863, c_864, c_865, c_866, c_867, c_868, c_869, c_870, c_871, c_872, w_873, w_874⟩ | ⟨c_875, c_876, c_877, c_878, c_879, c_880, c_881, c_882, c_883, c_884, c_885, c_886, c_887, w_888, w_889⟩ | ⟨c_890, c_891, c_892, c_893, c_894, c_895, c_896, c_897, c_898, c_899, w_900, w_901⟩ | ⟨c_902, c_903, c_904, c_905, c_906, c_907, c_908, c_909, c_910, c_911, c_912, c_913, w_914, w_915⟩ | ⟨c_916, c_917, c_918, c_919, c_920, c_921, c_922, c_923, c_924, c_925, c_926, c_927, w_928, w_929⟩
    · skip
      subst w_159
      subst w_160
      obtain ⟨hP, hD⟩ := va_join (wr := [(h0, .inr (10, [.ref x0, .int 0, .ref x1, .ref x2, .ref x3, .ref x4, .ref x5, .ref x6, .ref x7, .ref x8, .int 0, .int 3000])), (o0, .inl (kA 1, 1, .inr (.inl (fun _ => 0))))]) (w1 := [(m0, .inr (11, y0.set 9 (.int 1)))]) hP hD [0] [1, 2] rfl rfl (by decide) (by decide) hk1 hFc hP1 hD1
      generalize H1 = H at hP hS ⊢
      have hP : va_P D vwCl [(h0, .inr (10, [.ref x0, .int 0, .ref x1, .ref x2, .ref x3, .ref x4, .ref x5, .ref x6, .ref x7, .ref x8, .int 0, .int 3000])), (o0, .inl (kA 1, 1, .inr (.inl (fun _ => 0)))), (m0, .inr (11, y0.set 9 (.int 1)))] H := hP
      have hD : va_D A [(h0, .inr (10, [.ref x0, .int 0, .ref x1, .ref x2, .ref x3, .ref x4, .ref x5, .ref x6, .ref x7, .ref x8, .int 0, .int 3000])), (o0, .inl (kA 1, 1, .inr (.inl (fun _ => 0)))), (m0, .inr (11, y0.set 9 (.int 1)))] := hD
      refine lv_lstore (lv' := [(6, .long 0), (5, .int 1), (0, .ref b), (1, .ref h0), (2, .ref m0), (3, .ref o0), (4, .int 0)]) hx hb dL_law_1601 hl (by decide) rfl (fun ls hl => ?_)
      refine lv_aload_n hx hb dL_law_1603 rfl (lv_at hl 4 rfl) ?_
      have hPc := hP.sub (ws' := [(m0, .inr (11, y0.set 9 (.int 1)))]) [2] rfl
      have hDc := hD.sub (ws' := [(m0, .inr (11, y0.set 9 (.int 1)))]) [2] (by decide) rfl
      have hFc := va_free (wc := [(m0, .inr (11, y0.set 9 (.int 1)))]) hD hS hA [2] rfl
      refine va_calli (va_runV (As := []) (rest := []) ⟨hx, hb, hml, hown, hts⟩ (a174_X12_thrown l  D kA V H.size m0 (y0.set 9 (.int 1)) (fun k hk => (by rw [List.length_set]; exact (hq k hk))) (List.getElem?_set_self (hq 9 (by decide)))) (cwV 0 hts (gw_V gw_1879 gw_1880 gw_1881 gw_16 gw_1882) rfl rfl rfl (by decide +kernel) ⟨(Nat.le_of_ble_eq_true rfl), (Nat.le_of_ble_eq_true rfl)⟩) ⟨aP.blind, va_recv hK hP (ci := 11) (q0 := 2) rfl rfl, aP.pre hE hS hPc hK hDc hFc⟩ rfl rfl hl.1 rfl (lv_room (Nat.le_of_ble_eq_true rfl)) dL_law_1604 ⟨(Nat.le_of_ble_eq_true rfl), (Nat.le_of_ble_eq_true rfl)⟩) hS (fun q _ h => hFc q h) hFc (fun r_930 u t H1 locs ht hvm hw hB hz1 hk1 hS => ?_)
      obtain ⟨hP1, hD1⟩ := hB
      rw [ht] at hP1
      try dsimp only at hw hP1 hD1
      have w_931 := hw
      subst w_931
      obtain ⟨hP, hD⟩ := va_join (wr := [(h0, .inr (10, [.ref x0, .int 0, .ref x1, .ref x2, .ref x3, .ref x4, .ref x5, .ref x6, .ref x7, .ref x8, .int 0, .int 3000])), (o0, .inl (kA 1, 1, .inr (.inl (fun _ => 0))))]) (w1 := [(m0, .inr (11, (y0.set 9 (.int 1))))]) hP hD [2] [0, 1] rfl rfl (by decide) (by decide) hk1 hFc hP1 hD1
      generalize H1 = H at hP hS ⊢
      have hP : va_P D vwCl [(h0, .inr (10, [.ref x0, .int 0, .ref x1, .ref x2, .ref x3, .ref x4, .ref x5, .ref x6, .ref x7, .ref x8, .int 0, .int 3000])), (o0, .inl (kA 1, 1, .inr (.inl (fun _ => 0)))), (m0, .inr (11, (y0.set 9 (.int 1))))] H := hP
      have hD : va_D A [(h0, .inr (10, [.ref x0, .int 0, .ref x1, .ref x2, .ref x3, .ref x4, .ref x5, .ref x6, .ref x7, .ref x8, .int 0, .int 3000])), (o0, .inl (kA 1, 1, .inr (.inl (fun _ => 0)))), (m0, .inr (11, (y0.set 9 (.int 1))))] := hD
      refine lv_iload hx hb dL_law_1607 (lv_at hl 1 rfl) ?_
      refine lv_icmp_eq (tgt := 1614) hx hb dL_law_1609 (by decide) (fun c_932 => ?_) (fun c_932 => ?_)
      · skip
        refine lv_iload hx hb dL_law_1614 (lv_at hl 1 rfl) ?_
        refine lv_if_ne (tgt := 1630) hx hb dL_law_1616 (by decide) (fun c_933 => ?_) (fun c_933 => ?_)
        · skip
          refine lv_goto (tgt := 1804) hx hb dL_law_1630 (by decide) ?_
          exact lk_tail hC hA2 (lv_sub hl [2, 6] rfl) hS (Nat.le_of_ble_eq_true rfl) (Nat.le_of_ble_eq_true rfl)
        · exact absurd c_933 (by decide)
      · exact absurd (by decide) c_932
    · skip
      subst w_164
      subst w_165
      exact absurd c_3 c_162
    · skip
      subst w_170
      subst w_171
      exact absurd c_3 c_167
    · skip
      subst w_177
      subst w_178
      exact absurd c_3 c_173
    · skip
      subst w_184
      subst w_185
      exact absurd c_3 c_180
    · skip
      subst w_189
      subst w_190
      obtain ⟨hP, hD⟩ := va_join (wr := [(h0, .inr (10, [.ref x0, .int 0, .ref x1, .ref x2, .ref x3, .ref x4, .ref x5, .ref x6, .ref x7, .ref x8, .int 0, .int 3000])), (o0, .inl (kA 1, 1, .inr (.inl (fun _ => 0))))]) (w1 := [(m0, .inr (11, y0.set 9 (.int 1)))]) hP hD [0] [1, 2] rfl rfl (by decide) (by decide) hk1 hFc hP1 hD1
      generalize H1 = H at hP hS ⊢
      have hP : va_P D vwCl [(h0, .inr (10, [.ref x0, .int 0, .ref x1, .ref x2, .ref x3, .ref x4, .ref x5, .ref x6, .ref x7, .ref x8, .int 0, .int 3000])), (o0, .inl (kA 1, 1, .inr (.inl (fun _ => 0)))), (m0, .inr (11, y0.set 9 (.int 1)))] H := hP
      have hD : va_D A [(h0, .inr (10, [.ref x0, .int 0, .ref x1, .ref x2, .ref x3, .ref x4, .ref x5, .ref x6, .ref x7, .ref x8, .int 0, .int 3000])), (o0, .inl (kA 1, 1, .inr (.inl (fun _ => 0)))), (m0, .inr (11, y0.set 9 (.int 1)))] := hD
      refine lv_lstore (lv' := [(6, .long 0), (5, .int 1), (0, .ref b), (1, .ref h0), (2, .ref m0), (3, .ref o0), (4, .int 0)]) hx hb dL_law_1601 hl (by decide) rfl (fun ls hl => ?_)
      refine lv_aload_n hx hb dL_law_1603 rfl (lv_at hl 4 rfl) ?_
      have hPc := hP.sub (ws' := [(m0, .inr (11, y0.set 9 (.int 1)))]) [2] rfl
      have hDc := hD.sub (ws' := [(m0, .inr (11, y0.set 9 (.int 1)))]) [2] (by decide) rfl
      have hFc := va_free (wc := [(m0, .inr (11, y0.set 9 (.int 1)))]) hD hS hA [2] rfl
      refine va_calli (va_runV (As := []) (rest := []) ⟨hx, hb, hml, hown, hts⟩ (a174_X12_thrown l  D kA V H.size m0 (y0.set 9 (.int 1)) (fun k hk => (by rw [List.length_set]; exact (hq k hk))) (List.getElem?_set_self (hq 9 (by decide)))) (cwV 0 hts (gw_V gw_1879 gw_1880 gw_1881 gw_16 gw_1882) rfl rfl rfl (by decide +kernel) ⟨(Nat.le_of_ble_eq_true rfl), (Nat.le_of_ble_eq_true rfl)⟩) ⟨aP.blind, va_recv hK hP (ci := 11) (q0 := 2) rfl rfl, aP.pre hE hS hPc hK hDc hFc⟩ rfl rfl hl.1 rfl (lv_room (Nat.le_of_ble_eq_true rfl)) dL_law_1604 ⟨(Nat.le_of_ble_eq_true rfl), (Nat.le_of_ble_eq_true rfl)⟩) hS (fun q _ h => hFc q h) hFc (fun r_934 u t H1 locs ht hvm hw hB hz1 hk1 hS => ?_)
      obtain ⟨hP1, hD1⟩ := hB
      rw [ht] at hP1
      try dsimp only at hw hP1 hD1
      have w_935 := hw
      subst w_935
      obtain ⟨hP, hD⟩ := va_join (wr := [(h0, .inr (10, [.ref x0, .int 0, .ref x1, .ref x2, .ref x3, .ref x4, .ref x5, .ref x6, .ref x7, .ref x8, .int 0, .int 3000])), (o0, .inl (kA 1, 1, .inr (.inl (fun _ => 0))))]) (w1 := [(m0, .inr (11, (y0.set 9 (.int 1))))]) hP hD [2] [0, 1] rfl rfl (by decide) (by decide) hk1 hFc hP1 hD1
      generalize H1 = H at hP hS ⊢
      have hP : va_P D vwCl [(h0, .inr (10, [.ref x0, .int 0, .ref x1, .ref x2, .ref x3, .ref x4, .ref x5, .ref x6, .ref x7, .ref x8, .int 0, .int 3000])), (o0, .inl (kA 1, 1, .inr (.inl (fun _ => 0)))), (m0, .inr (11, (y0.set 9 (.int 1))))] H := hP
      have hD : va_D A [(h0, .inr (10, [.ref x0, .int 0, .ref x1, .ref x2, .ref x3, .ref x4, .ref x5, .ref x6, .ref x7, .ref x8, .int 0, .int 3000])), (o0, .inl (kA 1, 1, .inr (.inl (fun _ => 0)))), (m0, .inr (11, (y0.set 9 (.int 1))))] := hD
      refine lv_iload hx hb dL_law_1607 (lv_at hl 1 rfl) ?_
      refine lv_icmp_eq (tgt := 1614) hx hb dL_law_1609 (by decide) (fun c_936 => ?_) (fun c_936 => ?_)
      · skip
        refine lv_iload hx hb dL_law_1614 (lv_at hl 1 rfl) ?_
        refine lv_if_ne (tgt := 1630) hx hb dL_law_1616 (by decide) (fun c_937 => ?_) (fun c_937 => ?_)
        · skip
          refine lv_goto (tgt := 1804) hx hb dL_law_1630 (by decide) ?_
          exact lk_tail hC hA2 (lv_sub hl [2, 6] rfl) hS (Nat.le_of_ble_eq_true rfl) (Nat.le_of_ble_eq_true rfl)
        · exact absurd c_937 (by decide)
      · exact absurd (by decide) c_936
    · skip
      subst w_195
      subst w_196
      exact absurd c_3 c_193
    · skip
      subst w_202
      subst w_203
      exact absurd c_3 c_199
    · skip
      subst w_210
      subst w_211
      exact absurd c_3 c_206
    · skip
      subst w_218
      subst w_219
      exact absurd c_3 c_214
    · skip
      subst w_223
      subst w_224
      obtain ⟨hP, hD⟩ := va_join (wr := [(h0, .inr (10, [.ref x0, .int 0, .ref x1, .ref x2, .ref x3, .ref x4, .ref x5, .ref x6, .ref x7, .ref x8, .int 0, .int 3000])), (o0, .inl (kA 1, 1, .inr (.inl (fun _ => 0))))]) (w1 := [(m0, .inr (11, y0.set 9 (.int 1)))]) hP hD [0] [1, 2] rfl rfl (by decide) (by decide) hk1 hFc hP1 hD1
      generalize H1 = H at hP hS ⊢
      have hP : va_P D vwCl [(h0, .inr (10, [.ref x0, .int 0, .ref x1, .ref x2, .ref x3, .ref x4, .ref x5, .ref x6, .ref x7, .ref x8, .int 0, .int 3000])), (o0, .inl (kA 1, 1, .inr (.inl (fun _ => 0)))), (m0, .inr (11, y0.set 9 (.int 1)))] H := hP
      have hD : va_D A [(h0, .inr (10, [.ref x0, .int 0, .ref x1, .ref x2, .ref x3, .ref x4, .ref x5, .ref x6, .ref x7, .ref x8, .int 0, .int 3000])), (o0, .inl (kA 1, 1, .inr (.inl (fun _ => 0)))), (m0, .inr (11, y0.set 9 (.int 1)))] := hD
      refine lv_lstore (lv' := [(6, .long 0), (5, .int 1), (0, .ref b), (1, .ref h0), (2, .ref m0), (3, .ref o0), (4, .int 0)]) hx hb dL_law_1601 hl (by decide) rfl (fun ls hl => ?_)
      refine lv_aload_n hx hb dL_law_1603 rfl (lv_at hl 4 rfl) ?_
      have hPc := hP.sub (ws' := [(m0, .inr (11, y0.set 9 (.int 1)))]) [2] rfl
      have hDc := hD.sub (ws' := [(m0, .inr (11, y0.set 9 (.int 1)))]) [2] (by decide) rfl
      have hFc := va_free (wc := [(m0, .inr (11, y0.set 9 (.int 1)))]) hD hS hA [2] rfl
      refine va_calli (va_runV (As := []) (rest := []) ⟨hx, hb, hml, hown, hts⟩ (a174_X12_thrown l  D kA V H.size m0 (y0.set 9 (.int 1)) (fun k hk => (by rw [List.length_set]; exact (hq k hk))) (List.getElem?_set_self (hq 9 (by decide)))) (cwV 0 hts (gw_V gw_1879 gw_1880 gw_1881 gw_16 gw_1882) rfl rfl rfl (by decide +kernel) ⟨(Nat.le_of_ble_eq_true rfl), (Nat.le_of_ble_eq_true rfl)⟩) ⟨aP.blind, va_recv hK hP (ci := 11) (q0 := 2) rfl rfl, aP.pre hE hS hPc hK hDc hFc⟩ rfl rfl hl.1 rfl (lv_room (Nat.le_of_ble_eq_true rfl)) dL_law_1604 ⟨(Nat.le_of_ble_eq_true rfl), (Nat.le_of_ble_eq_true rfl)⟩) hS (fun q _ h => hFc q h) hFc (fun r_938 u t H1 locs ht hvm hw hB hz1 hk1 hS => ?_)
      obtain ⟨hP1, hD1⟩ := hB
      rw [ht] at hP1
      try dsimp only at hw hP1 hD1
      have w_939 := hw
      subst w_939
      obtain ⟨hP, hD⟩ := va_join (wr := [(h0, .inr (10, [.ref x0, .int 0, .ref x1, .ref x2, .ref x3, .ref x4, .ref x5, .ref x6, .ref x7, .ref x8, .int 0, .int 3000])), (o0, .inl (kA 1, 1, .inr (.inl (fun _ => 0))))]) (w1 := [(m0, .inr (11, (y0.set 9 (.int 1))))]) hP hD [2] [0, 1] rfl rfl (by decide) (by decide) hk1 hFc hP1 hD1
      generalize H1 = H at hP hS ⊢
      have hP : va_P D vwCl [(h0, .inr (10, [.ref x0, .int 0, .ref x1, .ref x2, .ref x3, .ref x4, .ref x5, .ref x6, .ref x7, .ref x8, .int 0, .int 3000])), (o0, .inl (kA 1, 1, .inr (.inl (fun _ => 0)))), (m0, .inr (11, (y0.set 9 (.int 1))))] H := hP
      have hD : va_D A [(h0, .inr (10, [.ref x0, .int 0, .ref x1, .ref x2, .ref x3, .ref x4, .ref x5, .ref x6, .ref x7, .ref x8, .int 0, .int 3000])), (o0, .inl (kA 1, 1, .inr (.inl (fun _ => 0)))), (m0, .inr (11, (y0.set 9 (.int 1))))] := hD
      refine lv_iload hx hb dL_law_1607 (lv_at hl 1 rfl) ?_
      refine lv_icmp_eq (tgt := 1614) hx hb dL_law_1609 (by decide) (fun c_940 => ?_) (fun c_940 => ?_)
      · skip
        refine lv_iload hx hb dL_law_1614 (lv_at hl 1 rfl) ?_
        refine lv_if_ne (tgt := 1630) hx hb dL_law_1616 (by decide) (fun c_941 => ?_) (fun c_941 => ?_)
        · skip
          refine lv_goto (tgt := 1804) hx hb dL_law_1630 (by decide) ?_
          exact lk_tail hC hA2 (lv_sub hl [2, 6] rfl) hS (Nat.le_of_ble_eq_true rfl) (Nat.le_of_ble_eq_true rfl)
        · exact absurd c_941 (by decide)
      · exact absurd (by decide) c_940
    · skip
      subst w_229
      subst w_230
      exact absurd c_3 c_227
    · skip
      subst w_236
      subst w_237
      exact absurd c_3 c_233
    · skip
      subst w_244
      subst w_245
      exact absurd c_3 c_240
    · skip
      subst w_265
      subst w_266
      exact absurd c_3 c_248
    · skip
      subst w_287
      subst w_288
      exact absurd c_3 c_269
    · skip
      subst w_310
      subst w_311
      exact absurd c_3 c_291
    · skip
      subst w_333
      subst w_334
      exact absurd c_3 c_314
    · skip
      subst w_354
      subst w_355
      exact absurd c_3 c_337
    · skip
      subst w_376
      subst w_377
      exact absurd c_3 c_358
    · skip
      subst w_396
      subst w_397
      exact absurd c_3 c_380
    · skip
      subst w_417
      subst w_418
      exact absurd c_3 c_400
    · skip
      subst w_436
      subst w_437
      exact absurd c_3 c_421
    · skip
      subst w_457
      subst w_458
      exact absurd c_3 c_440
    · skip
      subst w_478
      subst w_479
      exact absurd c_3 c_461
    · skip
      subst w_496
      subst w_497
      exact absurd c_3 c_482
    · skip
      subst w_516
      subst w_517
      exact absurd c_3 c_500
    · skip
      subst w_536
      subst w_537
      exact absurd c_3 c_520
    · skip
      subst w_553
      subst w_554
      exact absurd c_3 c_540
    · skip
      subst w_572
      subst w_573
      exact absurd c_3 c_557
    · skip
      subst w_591
      subst w_592
      exact absurd c_3 c_576
    · skip
      subst w_608
      subst w_609
      exact absurd c_3 c_595
    · skip
      subst w_627
      subst w_628
      exact absurd c_3 c_612
    · skip
      subst w_646
      subst w_647
      exact absurd c_3 c_631
    · skip
      subst w_663
      subst w_664
      exact absurd c_3 c_650
    · skip
      subst w_682
      subst w_683
      exact absurd c_3 c_667
    · skip
      subst w_701
      subst w_702
      exact absurd c_3 c_686
    · skip
      subst w_716
      subst w_717
      exact absurd c_3 c_705
    · skip
      subst w_733
      subst w_734
      exact absurd c_3 c_720
    · skip
      subst w_750
      subst w_751
      exact absurd c_3 c_737
    · skip
      subst w_765
      subst w_766
      exact absurd c_3 c_754
    · skip
      subst w_782
      subst w_783
      exact absurd c_3 c_769
    · skip
      subst w_799
      subst w_800
      exact absurd c_3 c_786
    · skip
      subst w_813
      subst w_814
      exact absurd c_3 c_803
    · skip
      subst w_829
      subst w_830
      exact absurd c_3 c_817
    · skip
      subst w_845
      subst w_846
      exact absurd c_3 c_833
    · skip
      subst w_858
      subst w_859
      exact absurd c_3 c_849
    · skip
      subst w_873
      subst w_874
      exact absurd c_3 c_862
    · skip
      subst w_888
      subst w_889
      exact absurd c_3 c_877
    · skip
      subst w_900
      subst w_901
      exact absurd c_3 c_892
    · skip
      subst w_914
      subst w_915
      exact absurd c_3 c_904
    · skip
      subst w_928
      subst w_929
      exact absurd c_3 c_918
  · skip
    subst w_8
    subst w_9
    obtain ⟨hP, hD⟩ := va_join (wr := [(m0, .inr (11, y0))]) (w1 := [(h0, .inr (10, [.ref x0, .int 0, .ref x1, .ref x2, .ref x3, .ref x4, .ref x5, .ref x6, .ref x7, .ref x8, .int 0, .int 3000])), (o0, .inl (kA 1, 1, .inr (.inl (fun _ => 0))))]) hP hD [0, 2] [1] rfl rfl (by decide) (by decide) hk1 hFc hP1 hD1
    generalize H1 = H at hP hS ⊢
    have hP : va_P D vwCl [(m0, .inr (11, y0)), (h0, .inr (10, [.ref x0, .int 0, .ref x1, .ref x2, .ref x3, .ref x4, .ref x5, .ref x6, .ref x7, .ref x8, .int 0, .int 3000])), (o0, .inl (kA 1, 1, .inr (.inl (fun _ => 0))))] H := hP
    have hD : va_D A [(m0, .inr (11, y0)), (h0, .inr (10, [.ref x0, .int 0, .ref x1, .ref x2, .ref x3, .ref x4, .ref x5, .ref x6, .ref x7, .ref x8, .int 0, .int 3000])), (o0, .inl (kA 1, 1, .inr (.inl (fun _ => 0))))] := hD
    refine lv_istore (lv' := [(5, .int 1), (0, .ref b), (1, .ref h0), (2, .ref m0), (3, .ref o0), (4, .int 0)]) hx hb dL_law_1531 hl (by decide) rfl (fun ls hl => ?_)
    refine lv_aload_n hx hb dL_law_1533 rfl (lv_at hl 3 rfl) ?_
    refine lv_aload_n hx hb dL_law_1534 rfl (lv_at hl 1 rfl) ?_
    refine lv_iload hx hb dL_law_1535 (lv_at hl 5 rfl) ?_
    refine lv_iconst (v := 1) hx hb dL_law_1537 (by decide) ?_
    refine lv_iadd hx hb dL_law_1538 ?_
    refine W.eq (g2 := F0 m 1539 ls [.int 1, .ref b, .ref m0]) rfl ?_
    refine va_sld hx hb hX hbl hbA hS (show vp_in 1 8 by unfold vp_in; decide) dL_law_1539 ?_
    refine W.eq (g2 := F0 m 1540 ls [.int (xs 1), .ref m0]) rfl ?_
    refine lv_aload_n hx hb dL_law_1540 rfl (lv_at hl 1 rfl) ?_
    refine lv_iload hx hb dL_law_1541 (lv_at hl 5 rfl) ?_
    refine lv_iconst (v := 2) hx hb dL_law_1543 (by decide) ?_
    refine lv_iadd hx hb dL_law_1544 ?_
    refine W.eq (g2 := F0 m 1545 ls [.int 2, .ref b, .int (xs 1), .ref m0]) rfl ?_
    refine va_sld hx hb hX hbl hbA hS (show vp_in 2 8 by unfold vp_in; decide) dL_law_1545 ?_
    refine W.eq (g2 := F0 m 1546 ls [.int (xs 2), .int (xs 1), .ref m0]) rfl ?_
    refine lv_aload_n hx hb dL_law_1546 rfl (lv_at hl 1 rfl) ?_
    refine lv_iload hx hb dL_law_1547 (lv_at hl 5 rfl) ?_
    refine lv_iconst (v := 3) hx hb dL_law_1549 (by decide) ?_
    refine lv_iadd hx hb dL_law_1550 ?_
    refine W.eq (g2 := F0 m 1551 ls [.int 3, .ref b, .int (xs 2), .int (xs 1), .ref m0]) rfl ?_
    refine va_sld hx hb hX hbl hbA hS (show vp_in 3 8 by unfold vp_in; decide) dL_law_1551 ?_
    refine W.eq (g2 := F0 m 1552 ls [.int (xs 3), .int (xs 2), .int (xs 1), .ref m0]) rfl ?_
    refine lv_aload_n hx hb dL_law_1552 rfl (lv_at hl 1 rfl) ?_
    refine lv_iload hx hb dL_law_1553 (lv_at hl 5 rfl) ?_
    refine lv_iconst (v := 4) hx hb dL_law_1555 (by decide) ?_
    refine lv_iadd hx hb dL_law_1556 ?_
    refine W.eq (g2 := F0 m 1557 ls [.int 4, .ref b, .int (xs 3), .int (xs 2), .int (xs 1), .ref m0]) rfl ?_
    refine va_sld hx hb hX hbl hbA hS (show vp_in 4 8 by unfold vp_in; decide) dL_law_1557 ?_
    refine W.eq (g2 := F0 m 1558 ls [.int (xs 4), .int (xs 3), .int (xs 2), .int (xs 1), .ref m0]) rfl ?_
    refine lv_i2l (v := (xs 4).toInt64) hx hb dL_law_1558 rfl ?_
    refine lv_bipush (v := 32) hx hb dL_law_1559 (by decide) ?_
    refine lv_lshl (v := ((xs 4).toInt64) <<< ((32 : Int32).toInt64 &&& 63)) hx hb dL_law_1561 rfl ?_
    refine lv_aload_n hx hb dL_law_1562 rfl (lv_at hl 1 rfl) ?_
    refine lv_iload hx hb dL_law_1563 (lv_at hl 5 rfl) ?_
    refine lv_iconst (v := 5) hx hb dL_law_1565 (by decide) ?_
    refine lv_iadd hx hb dL_law_1566 ?_
    refine W.eq (g2 := F0 m 1567 ls [.int 5, .ref b, .long (((xs 4).toInt64) <<< ((32 : Int32).toInt64 &&& 63)), .int (xs 3), .int (xs 2), .int (xs 1), .ref m0]) rfl ?_
    refine va_sld hx hb hX hbl hbA hS (show vp_in 5 8 by unfold vp_in; decide) dL_law_1567 ?_
    refine W.eq (g2 := F0 m 1568 ls [.int (xs 5), .long (((xs 4).toInt64) <<< ((32 : Int32).toInt64 &&& 63)), .int (xs 3), .int (xs 2), .int (xs 1), .ref m0]) rfl ?_
    refine lv_i2l (v := (xs 5).toInt64) hx hb dL_law_1568 rfl ?_
    refine lv_ldc2 (v := 4294967295) hx hb hown (hG _ gw_2764) dL_law_1569 ?_
    refine lv_land hx hb dL_law_1572 ?_
    refine lv_lor hx hb dL_law_1573 ?_
    refine lv_aload_n hx hb dL_law_1574 rfl (lv_at hl 1 rfl) ?_
    refine lv_iload hx hb dL_law_1575 (lv_at hl 5 rfl) ?_
    refine lv_bipush (v := 6) hx hb dL_law_1577 (by decide) ?_
    refine lv_iadd hx hb dL_law_1579 ?_
    refine W.eq (g2 := F0 m 1580 ls [.int 6, .ref b, .long ((((xs 4).toInt64) <<< ((32 : Int32).toInt64 &&& 63)) ||| (((xs 5).toInt64) &&& 4294967295)), .int (xs 3), .int (xs 2), .int (xs 1), .ref m0]) rfl ?_
    refine va_sld hx hb hX hbl hbA hS (show vp_in 6 8 by unfold vp_in; decide) dL_law_1580 ?_
    refine W.eq (g2 := F0 m 1581 ls [.int (xs 6), .long ((((xs 4).toInt64) <<< ((32 : Int32).toInt64 &&& 63)) ||| (((xs 5).toInt64) &&& 4294967295)), .int (xs 3), .int (xs 2), .int (xs 1), .ref m0]) rfl ?_
    refine lv_i2l (v := (xs 6).toInt64) hx hb dL_law_1581 rfl ?_
    refine lv_bipush (v := 32) hx hb dL_law_1582 (by decide) ?_
    refine lv_lshl (v := ((xs 6).toInt64) <<< ((32 : Int32).toInt64 &&& 63)) hx hb dL_law_1584 rfl ?_
    refine lv_aload_n hx hb dL_law_1585 rfl (lv_at hl 1 rfl) ?_
    refine lv_iload hx hb dL_law_1586 (lv_at hl 5 rfl) ?_
    refine lv_bipush (v := 7) hx hb dL_law_1588 (by decide) ?_
    refine lv_iadd hx hb dL_law_1590 ?_
    refine W.eq (g2 := F0 m 1591 ls [.int 7, .ref b, .long (((xs 6).toInt64) <<< ((32 : Int32).toInt64 &&& 63)), .long ((((xs 4).toInt64) <<< ((32 : Int32).toInt64 &&& 63)) ||| (((xs 5).toInt64) &&& 4294967295)), .int (xs 3), .int (xs 2), .int (xs 1), .ref m0]) rfl ?_
    refine va_sld hx hb hX hbl hbA hS (show vp_in 7 8 by unfold vp_in; decide) dL_law_1591 ?_
    refine W.eq (g2 := F0 m 1592 ls [.int (xs 7), .long (((xs 6).toInt64) <<< ((32 : Int32).toInt64 &&& 63)), .long ((((xs 4).toInt64) <<< ((32 : Int32).toInt64 &&& 63)) ||| (((xs 5).toInt64) &&& 4294967295)), .int (xs 3), .int (xs 2), .int (xs 1), .ref m0]) rfl ?_
    refine lv_i2l (v := (xs 7).toInt64) hx hb dL_law_1592 rfl ?_
    refine lv_ldc2 (v := 4294967295) hx hb hown (hG _ gw_2764) dL_law_1593 ?_
    refine lv_land hx hb dL_law_1596 ?_
    refine lv_lor hx hb dL_law_1597 ?_
    have hPc := hP.sub (ws' := [(m0, .inr (11, y0))]) [0] rfl
    have hDc := hD.sub (ws' := [(m0, .inr (11, y0))]) [0] (by decide) rfl
    have hFc := va_free (wc := [(m0, .inr (11, y0))]) hD hS hA [0] rfl
    refine va_calll (va_runV (As := [.int (xs 1), .int (xs 2), .int (xs 3), .long ((((xs 4).toInt64) <<< ((32 : Int32).toInt64 &&& 63)) ||| (((xs 5).toInt64) &&& 4294967295)), .long ((((xs 6).toInt64) <<< ((32 : Int32).toInt64 &&& 63)) ||| (((xs 7).toInt64) &&& 4294967295))]) (rest := []) ⟨hx, hb, hml, hown, hts⟩ (a153_X12_work l  D kA V H.size m0 (xs 1) (xs 2) (xs 3) ((((xs 4).toInt64) <<< ((32 : Int32).toInt64 &&& 63)) ||| (((xs 5).toInt64) &&& 4294967295)) ((((xs 6).toInt64) <<< ((32 : Int32).toInt64 &&& 63)) ||| (((xs 7).toInt64) &&& 4294967295)) y0 (fun k hk => (hq k hk)) hq9) (cwV 5 hts (gw_V gw_2756 gw_2757 gw_2758 gw_16 gw_2759) rfl rfl rfl (by decide +kernel) ⟨(Nat.le_of_ble_eq_true rfl), (Nat.le_of_ble_eq_true rfl)⟩) ⟨aP.blind, va_recv hK hP (ci := 11) (q0 := 0) rfl rfl, aP.pre hE hS hPc hK hDc hFc⟩ rfl rfl hl.1 rfl (lv_room (Nat.le_of_ble_eq_true rfl)) dL_law_1598 ⟨(Nat.le_of_ble_eq_true rfl), (Nat.le_of_ble_eq_true rfl)⟩) hS (fun q _ h => hFc q h) hFc (fun r_942 u t H1 locs ht hvm hw hB hz1 hk1 hS => ?_)
    obtain ⟨u_943, rfl⟩ : ∃ z, z = u := ⟨u, rfl⟩
    obtain ⟨hP1, hD1⟩ := hB
    rw [ht] at hP1
    try dsimp only at hw hP1 hD1
    rcases hw with ⟨c_944, c_945, w_946, w_947⟩ | ⟨c_948, c_949, c_950, w_951, w_952⟩ | ⟨c_953, c_954, c_955, c_956, w_957, w_958⟩ | ⟨c_959, c_960, c_961, c_962, c_963, w_964, w_965⟩ | ⟨c_966, c_967, c_968, c_969, c_970, w_971, w_972⟩ | ⟨c_973, c_974, c_975, w_976, w_977⟩ | ⟨c_978, c_979, c_980, c_981, w_982, w_983⟩ | ⟨c_984, c_985, c_986, c_987, c_988, w_989, w_990⟩ | ⟨c_991, c_992, c_993, c_994, c_995, c_996, w_997, w_998⟩ | ⟨c_999, c_1000, c_1001, c_1002, c_1003, c_1004, w_1005, w_1006⟩ | ⟨c_1007, c_1008, c_1009, w_1010, w_1011⟩ | ⟨c_1012, c_1013, c_1014, c_1015, w_1016, w_1017⟩ | ⟨c_1018, c_1019, c_1020, c_1021, c_1022, w_1023, w_1024⟩ | ⟨c_1025, c_1026, c_1027, c_1028, c_1029, c_1030, w_1031, w_1032⟩ | ⟨c_1033, c_1034, c_1035, c_1036, c_1037, c_1038, c_1039, c_1040, c_1041, c_1042, c_1043, c_1044, c_1045, c_1046, c_1047, c_1048, c_1049, c_1050, c_1051, w_1052, w_1053⟩ | ⟨c_1054, c_1055, c_1056, c_1057, c_1058, c_1059, c_1060, c_1061, c_1062, c_1063, c_1064, c_1065, c_1066, c_1067, c_1068, c_1069, c_1070, c_1071, c_1072, c_1073, w_1074, w_1075⟩ | ⟨c_1076, c_1077, c_1078, c_1079, c_1080, c_1081, c_1082, c_1083, c_1084, c_1085, c_1086, c_1087, c_1088, c_1089, c_1090, c_1091, c_1092, c_1093, c_1094, c_1095, c_1096, w_1097, w_1098⟩ | ⟨c_1099, c_1100, c_1101, c_1102, c_1103, c_1104, c_1105, c_1106, c_1107, c_1108, c_1109, c_1110, c_1111, c_1112, c_1113, c_1114, c_1115, c_1116, c_1117, c_1118, c_1119, w_1120, w_1121⟩ | ⟨c_1122, c_1123, c_1124, c_1125, c_1126, c_1127, c_1128, c_1129, c_1130, c_1131, c_1132, c_1133, c_1134, c_1135, c_1136, c_1137, c_1138, c_1139, c_1140, w_1141, w_1142⟩ | ⟨c_1143, c_1144, c_1145, c_1146, c_1147, c_1148, c_1149, c_1150, c_1151, c_1152, c_1153, c_1154, c_1155, c_1156, c_1157, c_1158, c_1159, c_1160, c_1161, c_1162, w_1163, w_1164⟩ | ⟨c_1165, c_1166, c_1167, c_1168, c_1169, c_1170, c_1171, c_1172, c_1173, c_1174, c_1175, c_1176, c_1177, c_1178, c_1179, c_1180, c_1181, c_1182, w_1183, w_1184⟩ | ⟨c_1185, c_1186, c_1187, c_1188, c_1189, c_1190, c_1191, c_1192, c_1193, c_1194, c_1195, c_1196, c_1197, c_1198, c_1199, c_1200, c_1201, c_1202, c_1203, w_1204, w_1205⟩ | ⟨c_1206, c_1207, c_1208, c_1209, c_1210, c_1211, c_1212, c_1213, c_1214, c_1215, c_1216, c_1217, c_1218, c_1219, c_1220, c_1221, c_1222, w_1223, w_1224⟩ | ⟨c_1225, c_1226, c_1227, c_1228, c_1229, c_1230, c_1231, c_1232, c_1233, c_1234, c_1235, c_1236, c_1237, c_1238, c_1239, c_1240, c_1241, c_1242, c_1243, w_1244, w_1245⟩ | ⟨c_1246, c_1247, c_1248, c_1249, c_1250, c_1251, c_1252, c_1253, c_1254, c_1255, c_1256, c_1257, c_1258, c_1259, c_1260, c_1261, c_1262, c_1263, c_1264, w_1265, w_1266⟩ | ⟨c_1267, c_1268, c_1269, c_1270, c_1271, c_1272, c_1273, c_1274, c_1275, c_1276, c_1277, c_1278, c_1279, c_1280, c_1281, c_1282, w_1283, w_1284⟩ | ⟨c_1285, c_1286, c_1287, c_1288, c_1289, c_1290, c_1291, c_1292, c_1293, c_1294, c_1295, c_1296, c_1297, c_1298, c_1299, c_1300, c_1301, c_1302, w_1303, w_1304⟩ | ⟨c_1305, c_1306, c_1307, c_1308, c_1309, c_1310, c_1311, c_1312, c_1313, c_1314, c_1315, c_1316, c_1317, c_1318, c_1319, c_1320, c_1321, c_1322, w_1323, w_1324⟩ | ⟨c_1325, c_1326, c_1327, c_1328, c_1329, c_1330, c_1331, c_1332, c_1333, c_1334, c_1335, c_1336, c_1337, c_1338, c_1339, w_1340, w_1341⟩ | ⟨c_1342, c_1343, c_1344, c_1345, c_1346, c_1347, c_1348, c_1349, c_1350, c_1351, c_1352, c_1353, c_1354, c_1355, c_1356, c_1357, c_1358, w_1359, w_1360⟩ | ⟨c_1361, c_1362, c_1363, c_1364, c_1365, c_1366, c_1367, c_1368, c_1369, c_1370, c_1371, c_1372, c_1373, c_1374, c_1375, c_1376, c_1377, w_1378, w_1379⟩ | ⟨c_1380, c_1381, c_1382, c_1383, c_1384, c_1385, c_1386, c_1387, c_1388, c_1389, c_1390, c_1391, c_1392, c_1393, c_1394, w_1395, w_1396⟩ | ⟨c_1397, c_1398, c_1399, c_1400, c_1401, c_1402, c_1403, c_1404, c_1405, c_1406, c_1407, c_1408, c_1409, c_1410, c_1411, c_1412, c_1413, w_1414, w_1415⟩ | ⟨c_1416, c_1417, c_1418, c_1419, c_1420, c_1421, c_1422, c_1423, c_1424, c_1425, c_1426, c_1427, c_1428, c_1429, c_1430, c_1431, c_1432, w_1433, w_1434⟩ | ⟨c_1435, c_1436, c_1437, c_1438, c_1439, c_1440, c_1441, c_1442, c_1443, c_1444, c_1445, c_1446, c_1447, c_1448, c_1449, w_1450, w_1451⟩ | ⟨c_1452, c_1453, c_1454, c_1455, c_1456, c_1457, c_1458, c_1459, c_1460, c_1461, c_1462, c_1463, c_1464, c_1465, c_1466, c_1467, c_1468, w_1469, w_1470⟩ | ⟨c_1471, c_1472, c_1473, c_1474, c_1475, c_1476, c_1477, c_1478, c_1479, c_1480, c_1481, c_1482, c_1483, c_1484, c_1485, c_1486, c_1487, w_1488, w_1489⟩ | ⟨c_1490, c_1491, c_1492, c_1493, c_1494, c_1495, c_1496, c_1497, c_1498, c_1499, c_1500, c_1501, c_1502, w_1503, w_1504⟩ | ⟨c_1505, c_1506, c_1507, c_1508, c_1509, c_1510, c_1511, c_1512, c_1513, c_1514, c_1515, c_1516, c_1517, c_1518, c_1519, w_1520, w_1521⟩ | ⟨c_1522, c_1523, c_1524, c_1525, c_1526, c_1527, c_1528, c_1529, c_1530, c_1531, c_1532, c_1533, c_1534, c_1535, c_1536, w_1537, w_1538⟩ | ⟨c_1539, c_1540, c_1541, c_1542, c_1543, c_1544, c_1545, c_1546, c_1547, c_1548, c_1549, c_1550, c_1551, w_1552, w_1553⟩ | ⟨c_1554, c_1555, c_1556, c_1557, c_1558, c_1559, c_1560, c_1561, c_1562, c_1563, c_1564, c_1565, c_1566, c_1567, c_1568, w_1569, w_1570⟩ | ⟨c_1571, c_1572, c_1573, c_1574, c_1575, c_1576, c_1577, c_1578, c_1579, c_1580, c_1581, c_1582, c_1583, c_1584, c_1585, w_1586, w_1587⟩ | ⟨c_1588, c_1589, c_1590, c_1591, c_1592, c_1593, c_1594, c_1595, c_1596, c_1597, c_1598, c_1599, w_1600, w_1601⟩ | ⟨c_1602, c_1603, c_1604, c_1605, c_1606, c_1607, c_1608, c_1609, c_1610, c_1611, c_1612, c_1613, c_1614, c_1615, w_1616, w_1617⟩ | ⟨c_1618, c_1619, c_1620, c_1621, c_1622, c_1623, c_1624, c_1625, c_1626, c_1627, c_1628, c_1629, c_1630, c_1631, w_1632, w_1633⟩ | ⟨c_1634, c_1635, c_1636, c_1637, c_1638, c_1639, c_1640, c_1641, c_1642, c_1643, c_1644, w_1645, w_1646⟩ | ⟨c_1647, c_1648, c_1649, c_1650, c_1651, c_1652, c_1653, c_1654, c_1655, c_1656, c_1657, c_1658, c_1659, w_1660, w_1661⟩ | ⟨c_1662, c_1663, c_1664, c_1665, c_1666, c_1667, c_1668, c_1669, c_1670, c_1671, c_1672, c_1673, c_1674, w_1675, w_1676⟩ | ⟨c_1677, c_1678, c_1679, c_1680, c_1681, c_1682, c_1683, c_1684, c_1685, c_1686, w_1687, w_1688⟩ | ⟨c_1689, c_1690, c_1691, c_1692, c_1693, c_1694, c_1695, c_1696, c_1697, c_1698, c_1699, c_1700, w_1701, w_1702⟩ | ⟨c_1703, c_1704, c_1705, c_1706, c_1707, c_1708, c_1709, c_1710, c_1711, c_1712, c_1713, c_1714, w_1715, w_1716⟩
    · skip
      subst w_946
      subst w_947
      exact absurd c_945 c_6
    · skip
      subst w_951
      subst w_952
      obtain ⟨hP, hD⟩ := va_join (wr := [(h0, .inr (10, [.ref x0, .int 0, .ref x1, .ref x2, .ref x3, .ref x4, .ref x5, .ref x6, .ref x7, .ref x8, .int 0, .int 3000])), (o0, .inl (kA 1, 1, .inr (.inl (fun _ => 0))))]) (w1 := [(m0, .inr (11, y0.set 9 (.int 1)))]) hP hD [0] [1, 2] rfl rfl (by decide) (by decide) hk1 hFc hP1 hD1
      generalize H1 = H at hP hS ⊢
      have hP : va_P D vwCl [(h0, .inr (10, [.ref x0, .int 0, .ref x1, .ref x2, .ref x3, .ref x4, .ref x5, .ref x6, .ref x7, .ref x8, .int 0, .int 3000])), (o0, .inl (kA 1, 1, .inr (.inl (fun _ => 0)))), (m0, .inr (11, y0.set 9 (.int 1)))] H := hP
      have hD : va_D A [(h0, .inr (10, [.ref x0, .int 0, .ref x1, .ref x2, .ref x3, .ref x4, .ref x5, .ref x6, .ref x7, .ref x8, .int 0, .int 3000])), (o0, .inl (kA 1, 1, .inr (.inl (fun _ => 0)))), (m0, .inr (11, y0.set 9 (.int 1)))] := hD
      refine lv_lstore (lv' := [(6, .long 0), (5, .int 1), (0, .ref b), (1, .ref h0), (2, .ref m0), (3, .ref o0), (4, .int 0)]) hx hb dL_law_1601 hl (by decide) rfl (fun ls hl => ?_)
      refine lv_aload_n hx hb dL_law_1603 rfl (lv_at hl 4 rfl) ?_
      have hPc := hP.sub (ws' := [(m0, .inr (11, y0.set 9 (.int 1)))]) [2] rfl
      have hDc := hD.sub (ws' := [(m0, .inr (11, y0.set 9 (.int 1)))]) [2] (by decide) rfl
      have hFc := va_free (wc := [(m0, .inr (11, y0.set 9 (.int 1)))]) hD hS hA [2] rfl
      refine va_calli (va_runV (As := []) (rest := []) ⟨hx, hb, hml, hown, hts⟩ (a174_X12_thrown l  D kA V H.size m0 (y0.set 9 (.int 1)) (fun k hk => (by rw [List.length_set]; exact (hq k hk))) (List.getElem?_set_self (hq 9 (by decide)))) (cwV 0 hts (gw_V gw_1879 gw_1880 gw_1881 gw_16 gw_1882) rfl rfl rfl (by decide +kernel) ⟨(Nat.le_of_ble_eq_true rfl), (Nat.le_of_ble_eq_true rfl)⟩) ⟨aP.blind, va_recv hK hP (ci := 11) (q0 := 2) rfl rfl, aP.pre hE hS hPc hK hDc hFc⟩ rfl rfl hl.1 rfl (lv_room (Nat.le_of_ble_eq_true rfl)) dL_law_1604 ⟨(Nat.le_of_ble_eq_true rfl), (Nat.le_of_ble_eq_true rfl)⟩) hS (fun q _ h => hFc q h) hFc (fun r_1717 u t H1 locs ht hvm hw hB hz1 hk1 hS => ?_)
      obtain ⟨hP1, hD1⟩ := hB
      rw [ht] at hP1
      try dsimp only at hw hP1 hD1
      have w_1718 := hw
      subst w_1718
      obtain ⟨hP, hD⟩ := va_join (wr := [(h0, .inr (10, [.ref x0, .int 0, .ref x1, .ref x2, .ref x3, .ref x4, .ref x5, .ref x6, .ref x7, .ref x8, .int 0, .int 3000])), (o0, .inl (kA 1, 1, .inr (.inl (fun _ => 0))))]) (w1 := [(m0, .inr (11, (y0.set 9 (.int 1))))]) hP hD [2] [0, 1] rfl rfl (by decide) (by decide) hk1 hFc hP1 hD1
      generalize H1 = H at hP hS ⊢
      have hP : va_P D vwCl [(h0, .inr (10, [.ref x0, .int 0, .ref x1, .ref x2, .ref x3, .ref x4, .ref x5, .ref x6, .ref x7, .ref x8, .int 0, .int 3000])), (o0, .inl (kA 1, 1, .inr (.inl (fun _ => 0)))), (m0, .inr (11, (y0.set 9 (.int 1))))] H := hP
      have hD : va_D A [(h0, .inr (10, [.ref x0, .int 0, .ref x1, .ref x2, .ref x3, .ref x4, .ref x5, .ref x6, .ref x7, .ref x8, .int 0, .int 3000])), (o0, .inl (kA 1, 1, .inr (.inl (fun _ => 0)))), (m0, .inr (11, (y0.set 9 (.int 1))))] := hD
      refine lv_iload hx hb dL_law_1607 (lv_at hl 1 rfl) ?_
      refine lv_icmp_eq (tgt := 1614) hx hb dL_law_1609 (by decide) (fun c_1719 => ?_) (fun c_1719 => ?_)
      · skip
        refine lv_iload hx hb dL_law_1614 (lv_at hl 1 rfl) ?_
        refine lv_if_ne (tgt := 1630) hx hb dL_law_1616 (by decide) (fun c_1720 => ?_) (fun c_1720 => ?_)
        · skip
          refine lv_goto (tgt := 1804) hx hb dL_law_1630 (by decide) ?_
          exact lk_tail hC hA2 (lv_sub hl [2, 6] rfl) hS (Nat.le_of_ble_eq_true rfl) (Nat.le_of_ble_eq_true rfl)
        · exact absurd c_1720 (by decide)
      · exact absurd (by decide) c_1719
    · skip
      subst w_957
      subst w_958
      exact absurd c_7 c_955
    · skip
      subst w_964
      subst w_965
      exact absurd c_7 c_961
    · skip
      subst w_971
      subst w_972
      exact absurd c_7 c_968
    · skip
      subst w_976
      subst w_977
      exact absurd c_975 c_6
    · skip
      subst w_982
      subst w_983
      obtain ⟨hP, hD⟩ := va_join (wr := [(h0, .inr (10, [.ref x0, .int 0, .ref x1, .ref x2, .ref x3, .ref x4, .ref x5, .ref x6, .ref x7, .ref x8, .int 0, .int 3000])), (o0, .inl (kA 1, 1, .inr (.inl (fun _ => 0))))]) (w1 := [(m0, .inr (11, y0.set 9 (.int 1)))]) hP hD [0] [1, 2] rfl rfl (by decide) (by decide) hk1 hFc hP1 hD1
      generalize H1 = H at hP hS ⊢
      have hP : va_P D vwCl [(h0, .inr (10, [.ref x0, .int 0, .ref x1, .ref x2, .ref x3, .ref x4, .ref x5, .ref x6, .ref x7, .ref x8, .int 0, .int 3000])), (o0, .inl (kA 1, 1, .inr (.inl (fun _ => 0)))), (m0, .inr (11, y0.set 9 (.int 1)))] H := hP
      have hD : va_D A [(h0, .inr (10, [.ref x0, .int 0, .ref x1, .ref x2, .ref x3, .ref x4, .ref x5, .ref x6, .ref x7, .ref x8, .int 0, .int 3000])), (o0, .inl (kA 1, 1, .inr (.inl (fun _ => 0)))), (m0, .inr (11, y0.set 9 (.int 1)))] := hD
      refine lv_lstore (lv' := [(6, .long 0), (5, .int 1), (0, .ref b), (1, .ref h0), (2, .ref m0), (3, .ref o0), (4, .int 0)]) hx hb dL_law_1601 hl (by decide) rfl (fun ls hl => ?_)
      refine lv_aload_n hx hb dL_law_1603 rfl (lv_at hl 4 rfl) ?_
      have hPc := hP.sub (ws' := [(m0, .inr (11, y0.set 9 (.int 1)))]) [2] rfl
      have hDc := hD.sub (ws' := [(m0, .inr (11, y0.set 9 (.int 1)))]) [2] (by decide) rfl
      have hFc := va_free (wc := [(m0, .inr (11, y0.set 9 (.int 1)))]) hD hS hA [2] rfl
      refine va_calli (va_runV (As := []) (rest := []) ⟨hx, hb, hml, hown, hts⟩ (a174_X12_thrown l  D kA V H.size m0 (y0.set 9 (.int 1)) (fun k hk => (by rw [List.length_set]; exact (hq k hk))) (List.getElem?_set_self (hq 9 (by decide)))) (cwV 0 hts (gw_V gw_1879 gw_1880 gw_1881 gw_16 gw_1882) rfl rfl rfl (by decide +kernel) ⟨(Nat.le_of_ble_eq_true rfl), (Nat.le_of_ble_eq_true rfl)⟩) ⟨aP.blind, va_recv hK hP (ci := 11) (q0 := 2) rfl rfl, aP.pre hE hS hPc hK hDc hFc⟩ rfl rfl hl.1 rfl (lv_room (Nat.le_of_ble_eq_true rfl)) dL_law_1604 ⟨(Nat.le_of_ble_eq_true rfl), (Nat.le_of_ble_eq_true rfl)⟩) hS (fun q _ h => hFc q h) hFc (fun r_1721 u t H1 locs ht hvm hw hB hz1 hk1 hS => ?_)
      obtain ⟨hP1, hD1⟩ := hB
      rw [ht] at hP1
      try dsimp only at hw hP1 hD1
      have w_1722 := hw
      subst w_1722
      obtain ⟨hP, hD⟩ := va_join (wr := [(h0, .inr (10, [.ref x0, .int 0, .ref x1, .ref x2, .ref x3, .ref x4, .ref x5, .ref x6, .ref x7, .ref x8, .int 0, .int 3000])), (o0, .inl (kA 1, 1, .inr (.inl (fun _ => 0))))]) (w1 := [(m0, .inr (11, (y0.set 9 (.int 1))))]) hP hD [2] [0, 1] rfl rfl (by decide) (by decide) hk1 hFc hP1 hD1
      generalize H1 = H at hP hS ⊢
      have hP : va_P D vwCl [(h0, .inr (10, [.ref x0, .int 0, .ref x1, .ref x2, .ref x3, .ref x4, .ref x5, .ref x6, .ref x7, .ref x8, .int 0, .int 3000])), (o0, .inl (kA 1, 1, .inr (.inl (fun _ => 0)))), (m0, .inr (11, (y0.set 9 (.int 1))))] H := hP
      have hD : va_D A [(h0, .inr (10, [.ref x0, .int 0, .ref x1, .ref x2, .ref x3, .ref x4, .ref x5, .ref x6, .ref x7, .ref x8, .int 0, .int 3000])), (o0, .inl (kA 1, 1, .inr (.inl (fun _ => 0)))), (m0, .inr (11, (y0.set 9 (.int 1))))] := hD
      refine lv_iload hx hb dL_law_1607 (lv_at hl 1 rfl) ?_
      refine lv_icmp_eq (tgt := 1614) hx hb dL_law_1609 (by decide) (fun c_1723 => ?_) (fun c_1723 => ?_)
      · skip
        refine lv_iload hx hb dL_law_1614 (lv_at hl 1 rfl) ?_
        refine lv_if_ne (tgt := 1630) hx hb dL_law_1616 (by decide) (fun c_1724 => ?_) (fun c_1724 => ?_)
        · skip
          refine lv_goto (tgt := 1804) hx hb dL_law_1630 (by decide) ?_
          exact lk_tail hC hA2 (lv_sub hl [2, 6] rfl) hS (Nat.le_of_ble_eq_true rfl) (Nat.le_of_ble_eq_true rfl)
        · exact absurd c_1724 (by decide)
      · exact absurd (by decide) c_1723
    · skip
      subst w_989
      subst w_990
      exact absurd c_7 c_987
    · skip
      subst w_997
      subst w_998
      exact absurd c_7 c_994
    · skip
      subst w_1005
      subst w_1006
      exact absurd c_7 c_1002
    · skip
      subst w_1010
      subst w_1011
      exact absurd c_1009 c_6
    · skip
      subst w_1016
      subst w_1017
      obtain ⟨hP, hD⟩ := va_join (wr := [(h0, .inr (10, [.ref x0, .int 0, .ref x1, .ref x2, .ref x3, .ref x4, .ref x5, .ref x6, .ref x7, .ref x8, .int 0, .int 3000])), (o0, .inl (kA 1, 1, .inr (.inl (fun _ => 0))))]) (w1 := [(m0, .inr (11, y0.set 9 (.int 1)))]) hP hD [0] [1, 2] rfl rfl (by decide) (by decide) hk1 hFc hP1 hD1
      generalize H1 = H at hP hS ⊢
      have hP : va_P D vwCl [(h0, .inr (10, [.ref x0, .int 0, .ref x1, .ref x2, .ref x3, .ref x4, .ref x5, .ref x6, .ref x7, .ref x8, .int 0, .int 3000])), (o0, .inl (kA 1, 1, .inr (.inl (fun _ => 0)))), (m0, .inr (11, y0.set 9 (.int 1)))] H := hP
      have hD : va_D A [(h0, .inr (10, [.ref x0, .int 0, .ref x1, .ref x2, .ref x3, .ref x4, .ref x5, .ref x6, .ref x7, .ref x8, .int 0, .int 3000])), (o0, .inl (kA 1, 1, .inr (.inl (fun _ => 0)))), (m0, .inr (11, y0.set 9 (.int 1)))] := hD
      refine lv_lstore (lv' := [(6, .long 0), (5, .int 1), (0, .ref b), (1, .ref h0), (2, .ref m0), (3, .ref o0), (4, .int 0)]) hx hb dL_law_1601 hl (by decide) rfl (fun ls hl => ?_)
      refine lv_aload_n hx hb dL_law_1603 rfl (lv_at hl 4 rfl) ?_
      have hPc := hP.sub (ws' := [(m0, .inr (11, y0.set 9 (.int 1)))]) [2] rfl
      have hDc := hD.sub (ws' := [(m0, .inr (11, y0.set 9 (.int 1)))]) [2] (by decide) rfl
      have hFc := va_free (wc := [(m0, .inr (11, y0.set 9 (.int 1)))]) hD hS hA [2] rfl
      refine va_calli (va_runV (As := []) (rest := []) ⟨hx, hb, hml, hown, hts⟩ (a174_X12_thrown l  D kA V H.size m0 (y0.set 9 (.int 1)) (fun k hk => (by rw [List.length_set]; exact (hq k hk))) (List.getElem?_set_self (hq 9 (by decide)))) (cwV 0 hts (gw_V gw_1879 gw_1880 gw_1881 gw_16 gw_1882) rfl rfl rfl (by decide +kernel) ⟨(Nat.le_of_ble_eq_true rfl), (Nat.le_of_ble_eq_true rfl)⟩) ⟨aP.blind, va_recv hK hP (ci := 11) (q0 := 2) rfl rfl, aP.pre hE hS hPc hK hDc hFc⟩ rfl rfl hl.1 rfl (lv_room (Nat.le_of_ble_eq_true rfl)) dL_law_1604 ⟨(Nat.le_of_ble_eq_true rfl), (Nat.le_of_ble_eq_true rfl)⟩) hS (fun q _ h => hFc q h) hFc (fun r_1725 u t H1 locs ht hvm hw hB hz1 hk1 hS => ?_)
      obtain ⟨hP1, hD1⟩ := hB
      rw [ht] at hP1
      try dsimp only at hw hP1 hD1
      have w_1726 := hw
      subst w_1726
      obtain ⟨hP, hD⟩ := va_join (wr := [(h0, .inr (10, [.ref x0, .int 0, .ref x1, .ref x2, .ref x3, .ref x4, .ref x5, .ref x6, .ref x7, .ref x8, .int 0, .int 3000])), (o0, .inl (kA 1, 1, .inr (.inl (fun _ => 0))))]) (w1 := [(m0, .inr (11, (y0.set 9 (.int 1))))]) hP hD [2] [0, 1] rfl rfl (by decide) (by decide) hk1 hFc hP1 hD1
      generalize H1 = H at hP hS ⊢
      have hP : va_P D vwCl [(h0, .inr (10, [.ref x0, .int 0, .ref x1, .ref x2, .ref x3, .ref x4, .ref x5, .ref x6, .ref x7, .ref x8, .int 0, .int 3000])), (o0, .inl (kA 1, 1, .inr (.inl (fun _ => 0)))), (m0, .inr (11, (y0.set 9 (.int 1))))] H := hP
      have hD : va_D A [(h0, .inr (10, [.ref x0, .int 0, .ref x1, .ref x2, .ref x3, .ref x4, .ref x5, .ref x6, .ref x7, .ref x8, .int 0, .int 3000])), (o0, .inl (kA 1, 1, .inr (.inl (fun _ => 0)))), (m0, .inr (11, (y0.set 9 (.int 1))))] := hD
      refine lv_iload hx hb dL_law_1607 (lv_at hl 1 rfl) ?_
      refine lv_icmp_eq (tgt := 1614) hx hb dL_law_1609 (by decide) (fun c_1727 => ?_) (fun c_1727 => ?_)
      · skip
        refine lv_iload hx hb dL_law_1614 (lv_at hl 1 rfl) ?_
        refine lv_if_ne (tgt := 1630) hx hb dL_law_1616 (by decide) (fun c_1728 => ?_) (fun c_1728 => ?_)
        · skip
          refine lv_goto (tgt := 1804) hx hb dL_law_1630 (by decide) ?_
          exact lk_tail hC hA2 (lv_sub hl [2, 6] rfl) hS (Nat.le_of_ble_eq_true rfl) (Nat.le_of_ble_eq_true rfl)
        · exact absurd c_1728 (by decide)
      · exact absurd (by decide) c_1727
    · skip
      subst w_1023
      subst w_1024
      exact absurd c_7 c_1021
    · skip
      subst w_1031
      subst w_1032
      exact absurd c_7 c_1028
    · skip
      subst w_1052
      subst w_1053
      exact absurd c_7 c_1036
    · skip
      subst w_1074
      subst w_1075
      exact absurd c_7 c_1057
    · skip
      subst w_1097
      subst w_1098
      exact absurd c_7 c_1079
    · skip
      subst w_1120
      subst w_1121
      exact absurd c_7 c_1102
    · skip
      subst w_1141
      subst w_1142
      exact absurd c_7 c_1125
    · skip
      subst w_1163
      subst w_1164
      exact absurd c_7 c_1146
    · skip
      subst w_1183
      subst w_1184
      exact absurd c_7 c_1168
    · skip
      subst w_1204
      subst w_1205
      exact absurd c_7 c_1188
    · skip
      subst w_1223
      subst w_1224
      exact absurd c_7 c_1209
    · skip
      subst w_1244
      subst w_1245
      exact absurd c_7 c_1228
    · skip
      subst w_1265
      subst w_1266
      exact absurd c_7 c_1249
    · skip
      subst w_1283
      subst w_1284
      exact absurd c_7 c_1270
    · skip
      subst w_1303
      subst w_1304
      exact absurd c_7 c_1288
    · skip
      subst w_1323
      subst w_1324
      exact absurd c_7 c_1308
    · skip
      subst w_1340
      subst w_1341
      exact absurd c_7 c_1328
    · skip
      subst w_1359
      subst w_1360
      exact absurd c_7 c_1345
    · skip
      subst w_1378
      subst w_1379
      exact absurd c_7 c_1364
    · skip
      subst w_1395
      subst w_1396
      exact absurd c_7 c_1383
    · skip
      subst w_1414
      subst w_1415
      exact absurd c_7 c_1400
    · skip
      subst w_1433
      subst w_1434
      exact absurd c_7 c_1419
    · skip
      subst w_1450
      subst w_1451
      exact absurd c_7 c_1438
    · skip
      subst w_1469
      subst w_1470
      exact absurd c_7 c_1455
    · skip
      subst w_1488
      subst w_1489
      exact absurd c_7 c_1474
    · skip
      subst w_1503
      subst w_1504
      exact absurd c_7 c_1493
    · skip
      subst w_1520
      subst w_1521
      exact absurd c_7 c_1508
    · skip
      subst w_1537
      subst w_1538
      exact absurd c_7 c_1525
    · skip
      subst w_1552
      subst w_1553
      exact absurd c_7 c_1542
    · skip
      subst w_1569
      subst w_1570
      exact absurd c_7 c_1557
    · skip
      subst w_1586
      subst w_1587
      exact absurd c_7 c_1574
    · skip
      subst w_1600
      subst w_1601
      exact absurd c_7 c_1591
    · skip
      subst w_1616
      subst w_1617
      exact absurd c_7 c_1605
    · skip
      subst w_1632
      subst w_1633
      exact absurd c_7 c_1621
    · skip
      subst w_1645
      subst w_1646
      exact absurd c_7 c_1637
    · skip
      subst w_1660
      subst w_1661
      exact absurd c_7 c_1650
    · skip
      subst w_1675
      subst w_1676
      exact absurd c_7 c_1665
    · skip
      subst w_1687
      subst w_1688
      exact absurd c_7 c_1680
    · skip
      subst w_1701
      subst w_1702
      exact absurd c_7 c_1692
    · skip
      subst w_1715
      subst w_1716
      exact absurd c_7 c_1706
  · skip
    subst w_13
    subst w_14
    obtain ⟨hP, hD⟩ := va_join (wr := [(m0, .inr (11, y0))]) (w1 := [(h0, .inr (10, [.ref x0, .int 0, .ref x1, .ref x2, .ref x3, .ref x4, .ref x5, .ref x6, .ref x7, .ref x8, .int 0, .int 3000])), (o0, .inl (kA 1, 1, .inr (.inl (fun _ => 0))))]) hP hD [0, 2] [1] rfl rfl (by decide) (by decide) hk1 hFc hP1 hD1
    generalize H1 = H at hP hS ⊢
    have hP : va_P D vwCl [(m0, .inr (11, y0)), (h0, .inr (10, [.ref x0, .int 0, .ref x1, .ref x2, .ref x3, .ref x4, .ref x5, .ref x6, .ref x7, .ref x8, .int 0, .int 3000])), (o0, .inl (kA 1, 1, .inr (.inl (fun _ => 0))))] H := hP
    have hD : va_D A [(m0, .inr (11, y0)), (h0, .inr (10, [.ref x0, .int 0, .ref x1, .ref x2, .ref x3, .ref x4, .ref x5, .ref x6, .ref x7, .ref x8, .int 0, .int 3000])), (o0, .inl (kA 1, 1, .inr (.inl (fun _ => 0))))] := hD
    refine lv_istore (lv' := [(5, .int 1), (0, .ref b), (1, .ref h0), (2, .ref m0), (3, .ref o0), (4, .int 0)]) hx hb dL_law_1531 hl (by decide) rfl (fun ls hl => ?_)
    refine lv_aload_n hx hb dL_law_1533 rfl (lv_at hl 3 rfl) ?_
    refine lv_aload_n hx hb dL_law_1534 rfl (lv_at hl 1 rfl) ?_
    refine lv_iload hx hb dL_law_1535 (lv_at hl 5 rfl) ?_
    refine lv_iconst (v := 1) hx hb dL_law_1537 (by decide) ?_
    refine lv_iadd hx hb dL_law_1538 ?_
    refine W.eq (g2 := F0 m 1539 ls [.int 1, .ref b, .ref m0]) rfl ?_
    refine va_sld hx hb hX hbl hbA hS (show vp_in 1 8 by unfold vp_in; decide) dL_law_1539 ?_
    refine W.eq (g2 := F0 m 1540 ls [.int (xs 1), .ref m0]) rfl ?_
    refine lv_aload_n hx hb dL_law_1540 rfl (lv_at hl 1 rfl) ?_
    refine lv_iload hx hb dL_law_1541 (lv_at hl 5 rfl) ?_
    refine lv_iconst (v := 2) hx hb dL_law_1543 (by decide) ?_
    refine lv_iadd hx hb dL_law_1544 ?_
    refine W.eq (g2 := F0 m 1545 ls [.int 2, .ref b, .int (xs 1), .ref m0]) rfl ?_
    refine va_sld hx hb hX hbl hbA hS (show vp_in 2 8 by unfold vp_in; decide) dL_law_1545 ?_
    refine W.eq (g2 := F0 m 1546 ls [.int (xs 2), .int (xs 1), .ref m0]) rfl ?_
    refine lv_aload_n hx hb dL_law_1546 rfl (lv_at hl 1 rfl) ?_
    refine lv_iload hx hb dL_law_1547 (lv_at hl 5 rfl) ?_
    refine lv_iconst (v := 3) hx hb dL_law_1549 (by decide) ?_
    refine lv_iadd hx hb dL_law_1550 ?_
    refine W.eq (g2 := F0 m 1551 ls [.int 3, .ref b, .int (xs 2), .int (xs 1), .ref m0]) rfl ?_
    refine va_sld hx hb hX hbl hbA hS (show vp_in 3 8 by unfold vp_in; decide) dL_law_1551 ?_
    refine W.eq (g2 := F0 m 1552 ls [.int (xs 3), .int (xs 2), .int (xs 1), .ref m0]) rfl ?_
    refine lv_aload_n hx hb dL_law_1552 rfl (lv_at hl 1 rfl) ?_
    refine lv_iload hx hb dL_law_1553 (lv_at hl 5 rfl) ?_
    refine lv_iconst (v := 4) hx hb dL_law_1555 (by decide) ?_
    refine lv_iadd hx hb dL_law_1556 ?_
    refine W.eq (g2 := F0 m 1557 ls [.int 4, .ref b, .int (xs 3), .int (xs 2), .int (xs 1), .ref m0]) rfl ?_
    refine va_sld hx hb hX hbl hbA hS (show vp_in 4 8 by unfold vp_in; decide) dL_law_1557 ?_
    refine W.eq (g2 := F0 m 1558 ls [.int (xs 4), .int (xs 3), .int (xs 2), .int (xs 1), .ref m0]) rfl ?_
    refine lv_i2l (v := (xs 4).toInt64) hx hb dL_law_1558 rfl ?_
    refine lv_bipush (v := 32) hx hb dL_law_1559 (by decide) ?_
    refine lv_lshl (v := ((xs 4).toInt64) <<< ((32 : Int32).toInt64 &&& 63)) hx hb dL_law_1561 rfl ?_
    refine lv_aload_n hx hb dL_law_1562 rfl (lv_at hl 1 rfl) ?_
    refine lv_iload hx hb dL_law_1563 (lv_at hl 5 rfl) ?_
    refine lv_iconst (v := 5) hx hb dL_law_1565 (by decide) ?_
    refine lv_iadd hx hb dL_law_1566 ?_
    refine W.eq (g2 := F0 m 1567 ls [.int 5, .ref b, .long (((xs 4).toInt64) <<< ((32 : Int32).toInt64 &&& 63)), .int (xs 3), .int (xs 2), .int (xs 1), .ref m0]) rfl ?_
    refine va_sld hx hb hX hbl hbA hS (show vp_in 5 8 by unfold vp_in; decide) dL_law_1567 ?_
    refine W.eq (g2 := F0 m 1568 ls [.int (xs 5), .long (((xs 4).toInt64) <<< ((32 : Int32).toInt64 &&& 63)), .int (xs 3), .int (xs 2), .int (xs 1), .ref m0]) rfl ?_
    refine lv_i2l (v := (xs 5).toInt64) hx hb dL_law_1568 rfl ?_
    refine lv_ldc2 (v := 4294967295) hx hb hown (hG _ gw_2764) dL_law_1569 ?_
    refine lv_land hx hb dL_law_1572 ?_
    refine lv_lor hx hb dL_law_1573 ?_
    refine lv_aload_n hx hb dL_law_1574 rfl (lv_at hl 1 rfl) ?_
    refine lv_iload hx hb dL_law_1575 (lv_at hl 5 rfl) ?_
    refine lv_bipush (v := 6) hx hb dL_law_1577 (by decide) ?_
    refine lv_iadd hx hb dL_law_1579 ?_
    refine W.eq (g2 := F0 m 1580 ls [.int 6, .ref b, .long ((((xs 4).toInt64) <<< ((32 : Int32).toInt64 &&& 63)) ||| (((xs 5).toInt64) &&& 4294967295)), .int (xs 3), .int (xs 2), .int (xs 1), .ref m0]) rfl ?_
    refine va_sld hx hb hX hbl hbA hS (show vp_in 6 8 by unfold vp_in; decide) dL_law_1580 ?_
    refine W.eq (g2 := F0 m 1581 ls [.int (xs 6), .long ((((xs 4).toInt64) <<< ((32 : Int32).toInt64 &&& 63)) ||| (((xs 5).toInt64) &&& 4294967295)), .int (xs 3), .int (xs 2), .int (xs 1), .ref m0]) rfl ?_
    refine lv_i2l (v := (xs 6).toInt64) hx hb dL_law_1581 rfl ?_
    refine lv_bipush (v := 32) hx hb dL_law_1582 (by decide) ?_
    refine lv_lshl (v := ((xs 6).toInt64) <<< ((32 : Int32).toInt64 &&& 63)) hx hb dL_law_1584 rfl ?_
    refine lv_aload_n hx hb dL_law_1585 rfl (lv_at hl 1 rfl) ?_
    refine lv_iload hx hb dL_law_1586 (lv_at hl 5 rfl) ?_
    refine lv_bipush (v := 7) hx hb dL_law_1588 (by decide) ?_
    refine lv_iadd hx hb dL_law_1590 ?_
    refine W.eq (g2 := F0 m 1591 ls [.int 7, .ref b, .long (((xs 6).toInt64) <<< ((32 : Int32).toInt64 &&& 63)), .long ((((xs 4).toInt64) <<< ((32 : Int32).toInt64 &&& 63)) ||| (((xs 5).toInt64) &&& 4294967295)), .int (xs 3), .int (xs 2), .int (xs 1), .ref m0]) rfl ?_
    refine va_sld hx hb hX hbl hbA hS (show vp_in 7 8 by unfold vp_in; decide) dL_law_1591 ?_
    refine W.eq (g2 := F0 m 1592 ls [.int (xs 7), .long (((xs 6).toInt64) <<< ((32 : Int32).toInt64 &&& 63)), .long ((((xs 4).toInt64) <<< ((32 : Int32).toInt64 &&& 63)) ||| (((xs 5).toInt64) &&& 4294967295)), .int (xs 3), .int (xs 2), .int (xs 1), .ref m0]) rfl ?_
    refine lv_i2l (v := (xs 7).toInt64) hx hb dL_law_1592 rfl ?_
    refine lv_ldc2 (v := 4294967295) hx hb hown (hG _ gw_2764) dL_law_1593 ?_
    refine lv_land hx hb dL_law_1596 ?_
    refine lv_lor hx hb dL_law_1597 ?_
    have hPc := hP.sub (ws' := [(m0, .inr (11, y0))]) [0] rfl
    have hDc := hD.sub (ws' := [(m0, .inr (11, y0))]) [0] (by decide) rfl
    have hFc := va_free (wc := [(m0, .inr (11, y0))]) hD hS hA [0] rfl
    refine va_calll (va_runV (As := [.int (xs 1), .int (xs 2), .int (xs 3), .long ((((xs 4).toInt64) <<< ((32 : Int32).toInt64 &&& 63)) ||| (((xs 5).toInt64) &&& 4294967295)), .long ((((xs 6).toInt64) <<< ((32 : Int32).toInt64 &&& 63)) ||| (((xs 7).toInt64) &&& 4294967295))]) (rest := []) ⟨hx, hb, hml, hown, hts⟩ (a153_X12_work l  D kA V H.size m0 (xs 1) (xs 2) (xs 3) ((((xs 4).toInt64) <<< ((32 : Int32).toInt64 &&& 63)) ||| (((xs 5).toInt64) &&& 4294967295)) ((((xs 6).toInt64) <<< ((32 : Int32).toInt64 &&& 63)) ||| (((xs 7).toInt64) &&& 4294967295)) y0 (fun k hk => (hq k hk)) hq9) (cwV 5 hts (gw_V gw_2756 gw_2757 gw_2758 gw_16 gw_2759) rfl rfl rfl (by decide +kernel) ⟨(Nat.le_of_ble_eq_true rfl), (Nat.le_of_ble_eq_true rfl)⟩) ⟨aP.blind, va_recv hK hP (ci := 11) (q0 := 0) rfl rfl, aP.pre hE hS hPc hK hDc hFc⟩ rfl rfl hl.1 rfl (lv_room (Nat.le_of_ble_eq_true rfl)) dL_law_1598 ⟨(Nat.le_of_ble_eq_true rfl), (Nat.le_of_ble_eq_true rfl)⟩) hS (fun q _ h => hFc q h) hFc (fun r_1729 u t H1 locs ht hvm hw hB hz1 hk1 hS => ?_)
    obtain ⟨u_1730, rfl⟩ : ∃ z, z = u := ⟨u, rfl⟩
    obtain ⟨hP1, hD1⟩ := hB
    rw [ht] at hP1
    try dsimp only at hw hP1 hD1
    rcases hw with ⟨c_1731, c_1732, w_1733, w_1734⟩ | ⟨c_1735, c_1736, c_1737, w_1738, w_1739⟩ | ⟨c_1740, c_1741, c_1742, c_1743, w_1744, w_1745⟩ | ⟨c_1746, c_1747, c_1748, c_1749, c_1750, w_1751, w_1752⟩ | ⟨c_1753, c_1754, c_1755, c_1756, c_1757, w_1758, w_1759⟩ | ⟨c_1760, c_1761, c_1762, w_1763, w_1764⟩ | ⟨c_1765, c_1766, c_1767, c_1768, w_1769, w_1770⟩ | ⟨c_1771, c_1772, c_1773, c_1774, c_1775, w_1776, w_1777⟩ | ⟨c_1778, c_1779, c_1780, c_1781, c_1782, c_1783, w_1784, w_1785⟩ | ⟨c_1786, c_1787, c_1788, c_1789, c_1790, c_1791, w_1792, w_1793⟩ | ⟨c_1794, c_1795, c_1796, w_1797, w_1798⟩ | ⟨c_1799, c_1800, c_1801, c_1802, w_1803, w_1804⟩ | ⟨c_1805, c_1806, c_1807, c_1808, c_1809, w_1810, w_1811⟩ | ⟨c_1812, c_1813, c_1814, c_1815, c_1816, c_1817, w_1818, w_1819⟩ | ⟨c_1820, c_1821, c_1822, c_1823, c_1824, c_1825, c_1826, c_1827, c_1828, c_1829, c_1830, c_1831, c_1832, c_1833, c_1834, c_1835, c_1836, c_1837, c_1838, w_1839, w_1840⟩ | ⟨c_1841, c_1842, c_1843, c_1844, c_1845, c_1846, c_1847, c_1848, c_1849, c_1850, c_1851, c_1852, c_1853, c_1854, c_1855, c_1856, c_1857, c_1858, c_1859, c_1860, w_1861, w_1862⟩ | ⟨c_1863, c_1864, c_1865, c_1866, c_1867, c_1868, c_1869, c_1870, c_1871, c_1872, c_1873, c_1874, c_1875, c_1876, c_1877, c_1878, c_1879, c_1880, c_1881, c_1882, c_1883, w_1884, w_1885⟩ | ⟨c_1886, c_1887, c_1888, c_1889, c_1890, c_1891, c_1892, c_1893, c_1894, c_1895, c_1896, c_1897, c_1898, c_1899, c_1900, c_1901, c_1902, c_1903, c_1904, c_1905, c_1906, w_1907, w_1908⟩ | ⟨c_1909, c_1910, c_1911, c_1912, c_1913, c_1914, c_1915, c_1916, c_1917, c_1918, c_1919, c_1920, c_1921, c_1922, c_1923, c_1924, c_1925, c_1926, c_1927, w_1928, w_1929⟩ | ⟨c_1930, c_1931, c_1932, c_1933, c_1934, c_1935, c_1936, c_1937, c_1938, c_1939, c_1940, c_1941, c_1942, c_1943, c_1944, c_1945, c_1946, c_1947, c_1948, c_1949, w_1950, w_1951⟩ | ⟨c_1952, c_1953, c_1954, c_1955, c_1956, c_1957, c_1958, c_1959, c_1960, c_1961, c_1962, c_1963, c_1964, c_1965, c_1966, c_1967, c_1968, c_1969, w_1970, w_1971⟩ | ⟨c_1972, c_1973, c_1974, c_1975, c_1976, c_1977, c_1978, c_1979, c_1980, c_1981, c_1982, c_1983, c_1984, c_1985, c_1986, c_1987, c_1988, c_1989, c_1990, w_1991, w_1992⟩ | ⟨c_1993, c_1994, c_1995, c_1996, c_1997, c_1998, c_1999, c_2000, c_2001, c_2002, c_2003, c_2004, c_2005, c_2006, c_2007, c_2008, c_2009, w_2010, w_2011⟩ | ⟨c_2012, c_2013, c_2014, c_2015, c_2016, c_2017, c_2018, c_2019, c_2020, c_2021, c_2022, c_2023, c_2024, c_2025, c_2026, c_2027, c_2028, c_2029, c_2030, w_2031, w_2032⟩ | ⟨c_2033, c_2034, c_2035, c_2036, c_2037, c_2038, c_2039, c_2040, c_2041, c_2042, c_2043, c_2044, c_2045, c_2046, c_2047, c_2048, c_2049, c_2050, c_2051, w_2052, w_2053⟩ | ⟨c_2054, c_2055, c_2056, c_2057, c_2058, c_2059, c_2060, c_2061, c_2062, c_2063, c_2064, c_2065, c_2066, c_2067, c_2068, c_2069, w_2070, w_2071⟩ | ⟨c_2072, c_2073, c_2074, c_2075, c_2076, c_2077, c_2078, c_2079, c_2080, c_2081, c_2082, c_2083, c_2084, c_2085, c_2086, c_2087, c_2088, c_2089, w_2090, w_2091⟩ | ⟨c_2092, c_2093, c_2094, c_2095, c_2096, c_2097, c_2098, c_2099, c_2100, c_2101, c_2102, c_2103, c_2104, c_2105, c_2106, c_2107, c_2108, c_2109, w_2110, w_2111⟩ | ⟨c_2112, c_2113, c_2114, c_2115, c_2116, c_2117, c_2118, c_2119, c_2120, c_2121, c_2122, c_2123, c_2124, c_2125, c_2126, w_2127, w_2128⟩ | ⟨c_2129, c_2130, c_2131, c_2132, c_2133, c_2134, c_2135, c_2136, c_2137, c_2138, c_2139, c_2140, c_2141, c_2142, c_2143, c_2144, c_2145, w_2146, w_2147⟩ | ⟨c_2148, c_2149, c_2150, c_2151, c_2152, c_2153, c_2154, c_2155, c_2156, c_2157, c_2158, c_2159, c_2160, c_2161, c_2162, c_2163, c_2164, w_2165, w_2166⟩ | ⟨c_2167, c_2168, c_2169, c_2170, c_2171, c_2172, c_2173, c_2174, c_2175, c_2176, c_2177, c_2178, c_2179, c_2180, c_2181, w_2182, w_2183⟩ | ⟨c_2184, c_2185, c_2186, c_2187, c_2188, c_2189, c_2190, c_2191, c_2192, c_2193, c_2194, c_2195, c_2196, c_2197, c_2198, c_2199, c_2200, w_2201, w_2202⟩ | ⟨c_2203, c_2204, c_2205, c_2206, c_2207, c_2208, c_2209, c_2210, c_2211, c_2212, c_2213, c_2214, c_2215, c_2216, c_2217, c_2218, c_2219, w_2220, w_2221⟩ | ⟨c_2222, c_2223, c_2224, c_2225, c_2226, c_2227, c_2228, c_2229, c_2230, c_2231, c_2232, c_2233, c_2234, c_2235, c_2236, w_2237, w_2238⟩ | ⟨c_2239, c_2240, c_2241, c_2242, c_2243, c_2244, c_2245, c_2246, c_2247, c_2248, c_2249, c_2250, c_2251, c_2252, c_2253, c_2254, c_2255, w_2256, w_2257⟩ | ⟨c_2258, c_2259, c_2260, c_2261, c_2262, c_2263, c_2264, c_2265, c_2266, c_2267, c_2268, c_2269, c_2270, c_2271, c_2272, c_2273, c_2274, w_2275, w_2276⟩ | ⟨c_2277, c_2278, c_2279, c_2280, c_2281, c_2282, c_2283, c_2284, c_2285, c_2286, c_2287, c_2288, c_2289, w_2290, w_2291⟩ | ⟨c_2292, c_2293, c_2294, c_2295, c_2296, c_2297, c_2298, c_2299, c_2300, c_2301, c_2302, c_2303, c_2304, c_2305, c_2306, w_2307, w_2308⟩ | ⟨c_2309, c_2310, c_2311, c_2312, c_2313, c_2314, c_2315, c_2316, c_2317, c_2318, c_2319, c_2320, c_2321, c_2322, c_2323, w_2324, w_2325⟩ | ⟨c_2326, c_2327, c_2328, c_2329, c_2330, c_2331, c_2332, c_2333, c_2334, c_2335, c_2336, c_2337, c_2338, w_2339, w_2340⟩ | ⟨c_2341, c_2342, c_2343, c_2344, c_2345, c_2346, c_2347, c_2348, c_2349, c_2350, c_2351, c_2352, c_2353, c_2354, c_2355, w_2356, w_2357⟩ | ⟨c_2358, c_2359, c_2360, c_2361, c_2362, c_2363, c_2364, c_2365, c_2366, c_2367, c_2368, c_2369, c_2370, c_2371, c_2372, w_2373, w_2374⟩ | ⟨c_2375, c_2376, c_2377, c_2378, c_2379, c_2380, c_2381, c_2382, c_2383, c_2384, c_2385, c_2386, w_2387, w_2388⟩ | ⟨c_2389, c_2390, c_2391, c_2392, c_2393, c_2394, c_2395, c_2396, c_2397, c_2398, c_2399, c_2400, c_2401, c_2402, w_2403, w_2404⟩ | ⟨c_2405, c_2406, c_2407, c_2408, c_2409, c_2410, c_2411, c_2412, c_2413, c_2414, c_2415, c_2416, c_2417, c_2418, w_2419, w_2420⟩ | ⟨c_2421, c_2422, c_2423, c_2424, c_2425, c_2426, c_2427, c_2428, c_2429, c_2430, c_2431, w_2432, w_2433⟩ | ⟨c_2434, c_2435, c_2436, c_2437, c_2438, c_2439, c_2440, c_2441, c_2442, c_2443, c_2444, c_2445, c_2446, w_2447, w_2448⟩ | ⟨c_2449, c_2450, c_2451, c_2452, c_2453, c_2454, c_2455, c_2456, c_2457, c_2458, c_2459, c_2460, c_2461, w_2462, w_2463⟩ | ⟨c_2464, c_2465, c_2466, c_2467, c_2468, c_2469, c_2470, c_2471, c_2472, c_2473, w_2474, w_2475⟩ | ⟨c_2476, c_2477, c_2478, c_2479, c_2480, c_2481, c_2482, c_2483, c_2484, c_2485, c_2486, c_2487, w_2488, w_2489⟩ | ⟨c_2490, c_2491, c_2492, c_2493, c_2494, c_2495, c_2496, c_2497, c_2498, c_2499, c_2500, c_2501, w_2502, w_2503⟩
    · skip
      subst w_1733
      subst w_1734
      exact absurd c_1732 c_10
    · skip
      subst w_1738
      subst w_1739
      exact absurd c_1737 c_11
    · skip
      subst w_1744
      subst w_1745
      obtain ⟨hP, hD⟩ := va_join (wr := [(h0, .inr (10, [.ref x0, .int 0, .ref x1, .ref x2, .ref x3, .ref x4, .ref x5, .ref x6, .ref x7, .ref x8, .int 0, .int 3000])), (o0, .inl (kA 1, 1, .inr (.inl (fun _ => 0))))]) (w1 := [(m0, .inr (11, y0.set 9 (.int 1)))]) hP hD [0] [1, 2] rfl rfl (by decide) (by decide) hk1 hFc hP1 hD1
      generalize H1 = H at hP hS ⊢
      have hP : va_P D vwCl [(h0, .inr (10, [.ref x0, .int 0, .ref x1, .ref x2, .ref x3, .ref x4, .ref x5, .ref x6, .ref x7, .ref x8, .int 0, .int 3000])), (o0, .inl (kA 1, 1, .inr (.inl (fun _ => 0)))), (m0, .inr (11, y0.set 9 (.int 1)))] H := hP
      have hD : va_D A [(h0, .inr (10, [.ref x0, .int 0, .ref x1, .ref x2, .ref x3, .ref x4, .ref x5, .ref x6, .ref x7, .ref x8, .int 0, .int 3000])), (o0, .inl (kA 1, 1, .inr (.inl (fun _ => 0)))), (m0, .inr (11, y0.set 9 (.int 1)))] := hD
      refine lv_lstore (lv' := [(6, .long 0), (5, .int 1), (0, .ref b), (1, .ref h0), (2, .ref m0), (3, .ref o0), (4, .int 0)]) hx hb dL_law_1601 hl (by decide) rfl (fun ls hl => ?_)
      refine lv_aload_n hx hb dL_law_1603 rfl (lv_at hl 4 rfl) ?_
      have hPc := hP.sub (ws' := [(m0, .inr (11, y0.set 9 (.int 1)))]) [2] rfl
      have hDc := hD.sub (ws' := [(m0, .inr (11, y0.set 9 (.int 1)))]) [2] (by decide) rfl
      have hFc := va_free (wc := [(m0, .inr (11, y0.set 9 (.int 1)))]) hD hS hA [2] rfl
      refine va_calli (va_runV (As := []) (rest := []) ⟨hx, hb, hml, hown, hts⟩ (a174_X12_thrown l  D kA V H.size m0 (y0.set 9 (.int 1)) (fun k hk => (by rw [List.length_set]; exact (hq k hk))) (List.getElem?_set_self (hq 9 (by decide)))) (cwV 0 hts (gw_V gw_1879 gw_1880 gw_1881 gw_16 gw_1882) rfl rfl rfl (by decide +kernel) ⟨(Nat.le_of_ble_eq_true rfl), (Nat.le_of_ble_eq_true rfl)⟩) ⟨aP.blind, va_recv hK hP (ci := 11) (q0 := 2) rfl rfl, aP.pre hE hS hPc hK hDc hFc⟩ rfl rfl hl.1 rfl (lv_room (Nat.le_of_ble_eq_true rfl)) dL_law_1604 ⟨(Nat.le_of_ble_eq_true rfl), (Nat.le_of_ble_eq_true rfl)⟩) hS (fun q _ h => hFc q h) hFc (fun r_2504 u t H1 locs ht hvm hw hB hz1 hk1 hS => ?_)
      obtain ⟨hP1, hD1⟩ := hB
      rw [ht] at hP1
      try dsimp only at hw hP1 hD1
      have w_2505 := hw
      subst w_2505
      obtain ⟨hP, hD⟩ := va_join (wr := [(h0, .inr (10, [.ref x0, .int 0, .ref x1, .ref x2, .ref x3, .ref x4, .ref x5, .ref x6, .ref x7, .ref x8, .int 0, .int 3000])), (o0, .inl (kA 1, 1, .inr (.inl (fun _ => 0))))]) (w1 := [(m0, .inr (11, (y0.set 9 (.int 1))))]) hP hD [2] [0, 1] rfl rfl (by decide) (by decide) hk1 hFc hP1 hD1
      generalize H1 = H at hP hS ⊢
      have hP : va_P D vwCl [(h0, .inr (10, [.ref x0, .int 0, .ref x1, .ref x2, .ref x3, .ref x4, .ref x5, .ref x6, .ref x7, .ref x8, .int 0, .int 3000])), (o0, .inl (kA 1, 1, .inr (.inl (fun _ => 0)))), (m0, .inr (11, (y0.set 9 (.int 1))))] H := hP
      have hD : va_D A [(h0, .inr (10, [.ref x0, .int 0, .ref x1, .ref x2, .ref x3, .ref x4, .ref x5, .ref x6, .ref x7, .ref x8, .int 0, .int 3000])), (o0, .inl (kA 1, 1, .inr (.inl (fun _ => 0)))), (m0, .inr (11, (y0.set 9 (.int 1))))] := hD
      refine lv_iload hx hb dL_law_1607 (lv_at hl 1 rfl) ?_
      refine lv_icmp_eq (tgt := 1614) hx hb dL_law_1609 (by decide) (fun c_2506 => ?_) (fun c_2506 => ?_)
      · skip
        refine lv_iload hx hb dL_law_1614 (lv_at hl 1 rfl) ?_
        refine lv_if_ne (tgt := 1630) hx hb dL_law_1616 (by decide) (fun c_2507 => ?_) (fun c_2507 => ?_)
        · skip
          refine lv_goto (tgt := 1804) hx hb dL_law_1630 (by decide) ?_
          exact lk_tail hC hA2 (lv_sub hl [2, 6] rfl) hS (Nat.le_of_ble_eq_true rfl) (Nat.le_of_ble_eq_true rfl)
        · exact absurd c_2507 (by decide)
      · exact absurd (by decide) c_2506
    · skip
      subst w_1751
      subst w_1752
      exact absurd c_12 c_1749
    · skip
      subst w_1758
      subst w_1759
      exact absurd c_12 c_1756
    · skip
      subst w_1763
      subst w_1764
      exact absurd c_1762 c_10
    · skip
      subst w_1769
      subst w_1770
      exact absurd c_1768 c_11
    · skip
      subst w_1776
      subst w_1777
      obtain ⟨hP, hD⟩ := va_join (wr := [(h0, .inr (10, [.ref x0, .int 0, .ref x1, .ref x2, .ref x3, .ref x4, .ref x5, .ref x6, .ref x7, .ref x8, .int 0, .int 3000])), (o0, .inl (kA 1, 1, .inr (.inl (fun _ => 0))))]) (w1 := [(m0, .inr (11, y0.set 9 (.int 1)))]) hP hD [0] [1, 2] rfl rfl (by decide) (by decide) hk1 hFc hP1 hD1
      generalize H1 = H at hP hS ⊢
      have hP : va_P D vwCl [(h0, .inr (10, [.ref x0, .int 0, .ref x1, .ref x2, .ref x3, .ref x4, .ref x5, .ref x6, .ref x7, .ref x8, .int 0, .int 3000])), (o0, .inl (kA 1, 1, .inr (.inl (fun _ => 0)))), (m0, .inr (11, y0.set 9 (.int 1)))] H := hP
      have hD : va_D A [(h0, .inr (10, [.ref x0, .int 0, .ref x1, .ref x2, .ref x3, .ref x4, .ref x5, .ref x6, .ref x7, .ref x8, .int 0, .int 3000])), (o0, .inl (kA 1, 1, .inr (.inl (fun _ => 0)))), (m0, .inr (11, y0.set 9 (.int 1)))] := hD
      refine lv_lstore (lv' := [(6, .long 0), (5, .int 1), (0, .ref b), (1, .ref h0), (2, .ref m0), (3, .ref o0), (4, .int 0)]) hx hb dL_law_1601 hl (by decide) rfl (fun ls hl => ?_)
      refine lv_aload_n hx hb dL_law_1603 rfl (lv_at hl 4 rfl) ?_
      have hPc := hP.sub (ws' := [(m0, .inr (11, y0.set 9 (.int 1)))]) [2] rfl
      have hDc := hD.sub (ws' := [(m0, .inr (11, y0.set 9 (.int 1)))]) [2] (by decide) rfl
      have hFc := va_free (wc := [(m0, .inr (11, y0.set 9 (.int 1)))]) hD hS hA [2] rfl
      refine va_calli (va_runV (As := []) (rest := []) ⟨hx, hb, hml, hown, hts⟩ (a174_X12_thrown l  D kA V H.size m0 (y0.set 9 (.int 1)) (fun k hk => (by rw [List.length_set]; exact (hq k hk))) (List.getElem?_set_self (hq 9 (by decide)))) (cwV 0 hts (gw_V gw_1879 gw_1880 gw_1881 gw_16 gw_1882) rfl rfl rfl (by decide +kernel) ⟨(Nat.le_of_ble_eq_true rfl), (Nat.le_of_ble_eq_true rfl)⟩) ⟨aP.blind, va_recv hK hP (ci := 11) (q0 := 2) rfl rfl, aP.pre hE hS hPc hK hDc hFc⟩ rfl rfl hl.1 rfl (lv_room (Nat.le_of_ble_eq_true rfl)) dL_law_1604 ⟨(Nat.le_of_ble_eq_true rfl), (Nat.le_of_ble_eq_true rfl)⟩) hS (fun q _ h => hFc q h) hFc (fun r_2508 u t H1 locs ht hvm hw hB hz1 hk1 hS => ?_)
      obtain ⟨hP1, hD1⟩ := hB
      rw [ht] at hP1
      try dsimp only at hw hP1 hD1
      have w_2509 := hw
      subst w_2509
      obtain ⟨hP, hD⟩ := va_join (wr := [(h0, .inr (10, [.ref x0, .int 0, .ref x1, .ref x2, .ref x3, .ref x4, .ref x5, .ref x6, .ref x7, .ref x8, .int 0, .int 3000])), (o0, .inl (kA 1, 1, .inr (.inl (fun _ => 0))))]) (w1 := [(m0, .inr (11, (y0.set 9 (.int 1))))]) hP hD [2] [0, 1] rfl rfl (by decide) (by decide) hk1 hFc hP1 hD1
      generalize H1 = H at hP hS ⊢
      have hP : va_P D vwCl [(h0, .inr (10, [.ref x0, .int 0, .ref x1, .ref x2, .ref x3, .ref x4, .ref x5, .ref x6, .ref x7, .ref x8, .int 0, .int 3000])), (o0, .inl (kA 1, 1, .inr (.inl (fun _ => 0)))), (m0, .inr (11, (y0.set 9 (.int 1))))] H := hP
      have hD : va_D A [(h0, .inr (10, [.ref x0, .int 0, .ref x1, .ref x2, .ref x3, .ref x4, .ref x5, .ref x6, .ref x7, .ref x8, .int 0, .int 3000])), (o0, .inl (kA 1, 1, .inr (.inl (fun _ => 0)))), (m0, .inr (11, (y0.set 9 (.int 1))))] := hD
      refine lv_iload hx hb dL_law_1607 (lv_at hl 1 rfl) ?_
      refine lv_icmp_eq (tgt := 1614) hx hb dL_law_1609 (by decide) (fun c_2510 => ?_) (fun c_2510 => ?_)
      · skip
        refine lv_iload hx hb dL_law_1614 (lv_at hl 1 rfl) ?_
        refine lv_if_ne (tgt := 1630) hx hb dL_law_1616 (by decide) (fun c_2511 => ?_) (fun c_2511 => ?_)
        · skip
          refine lv_goto (tgt := 1804) hx hb dL_law_1630 (by decide) ?_
          exact lk_tail hC hA2 (lv_sub hl [2, 6] rfl) hS (Nat.le_of_ble_eq_true rfl) (Nat.le_of_ble_eq_true rfl)
        · exact absurd c_2511 (by decide)
      · exact absurd (by decide) c_2510
    · skip
      subst w_1784
      subst w_1785
      exact absurd c_12 c_1782
    · skip
      subst w_1792
      subst w_1793
      exact absurd c_12 c_1790
    · skip
      subst w_1797
      subst w_1798
      exact absurd c_1796 c_10
    · skip
      subst w_1803
      subst w_1804
      exact absurd c_1802 c_11
    · skip
      subst w_1810
      subst w_1811
      obtain ⟨hP, hD⟩ := va_join (wr := [(h0, .inr (10, [.ref x0, .int 0, .ref x1, .ref x2, .ref x3, .ref x4, .ref x5, .ref x6, .ref x7, .ref x8, .int 0, .int 3000])), (o0, .inl (kA 1, 1, .inr (.inl (fun _ => 0))))]) (w1 := [(m0, .inr (11, y0.set 9 (.int 1)))]) hP hD [0] [1, 2] rfl rfl (by decide) (by decide) hk1 hFc hP1 hD1
      generalize H1 = H at hP hS ⊢
      have hP : va_P D vwCl [(h0, .inr (10, [.ref x0, .int 0, .ref x1, .ref x2, .ref x3, .ref x4, .ref x5, .ref x6, .ref x7, .ref x8, .int 0, .int 3000])), (o0, .inl (kA 1, 1, .inr (.inl (fun _ => 0)))), (m0, .inr (11, y0.set 9 (.int 1)))] H := hP
      have hD : va_D A [(h0, .inr (10, [.ref x0, .int 0, .ref x1, .ref x2, .ref x3, .ref x4, .ref x5, .ref x6, .ref x7, .ref x8, .int 0, .int 3000])), (o0, .inl (kA 1, 1, .inr (.inl (fun _ => 0)))), (m0, .inr (11, y0.set 9 (.int 1)))] := hD
      refine lv_lstore (lv' := [(6, .long 0), (5, .int 1), (0, .ref b), (1, .ref h0), (2, .ref m0), (3, .ref o0), (4, .int 0)]) hx hb dL_law_1601 hl (by decide) rfl (fun ls hl => ?_)
      refine lv_aload_n hx hb dL_law_1603 rfl (lv_at hl 4 rfl) ?_
      have hPc := hP.sub (ws' := [(m0, .inr (11, y0.set 9 (.int 1)))]) [2] rfl
      have hDc := hD.sub (ws' := [(m0, .inr (11, y0.set 9 (.int 1)))]) [2] (by decide) rfl
      have hFc := va_free (wc := [(m0, .inr (11, y0.set 9 (.int 1)))]) hD hS hA [2] rfl
      refine va_calli (va_runV (As := []) (rest := []) ⟨hx, hb, hml, hown, hts⟩ (a174_X12_thrown l  D kA V H.size m0 (y0.set 9 (.int 1)) (fun k hk => (by rw [List.length_set]; exact (hq k hk))) (List.getElem?_set_self (hq 9 (by decide)))) (cwV 0 hts (gw_V gw_1879 gw_1880 gw_1881 gw_16 gw_1882) rfl rfl rfl (by decide +kernel) ⟨(Nat.le_of_ble_eq_true rfl), (Nat.le_of_ble_eq_true rfl)⟩) ⟨aP.blind, va_recv hK hP (ci := 11) (q0 := 2) rfl rfl, aP.pre hE hS hPc hK hDc hFc⟩ rfl rfl hl.1 rfl (lv_room (Nat.le_of_ble_eq_true rfl)) dL_law_1604 ⟨(Nat.le_of_ble_eq_true rfl), (Nat.le_of_ble_eq_true rfl)⟩) hS (fun q _ h => hFc q h) hFc (fun r_2512 u t H1 locs ht hvm hw hB hz1 hk1 hS => ?_)
      obtain ⟨hP1, hD1⟩ := hB
      rw [ht] at hP1
      try dsimp only at hw hP1 hD1
      have w_2513 := hw
      subst w_2513
      obtain ⟨hP, hD⟩ := va_join (wr := [(h0, .inr (10, [.ref x0, .int 0, .ref x1, .ref x2, .ref x3, .ref x4, .ref x5, .ref x6, .ref x7, .ref x8, .int 0, .int 3000])), (o0, .inl (kA 1, 1, .inr (.inl (fun _ => 0))))]) (w1 := [(m0, .inr (11, (y0.set 9 (.int 1))))]) hP hD [2] [0, 1] rfl rfl (by decide) (by decide) hk1 hFc hP1 hD1
      generalize H1 = H at hP hS ⊢
      have hP : va_P D vwCl [(h0, .inr (10, [.ref x0, .int 0, .ref x1, .ref x2, .ref x3, .ref x4, .ref x5, .ref x6, .ref x7, .ref x8, .int 0, .int 3000])), (o0, .inl (kA 1, 1, .inr (.inl (fun _ => 0)))), (m0, .inr (11, (y0.set 9 (.int 1))))] H := hP
      have hD : va_D A [(h0, .inr (10, [.ref x0, .int 0, .ref x1, .ref x2, .ref x3, .ref x4, .ref x5, .ref x6, .ref x7, .ref x8, .int 0, .int 3000])), (o0, .inl (kA 1, 1, .inr (.inl (fun _ => 0)))), (m0, .inr (11, (y0.set 9 (.int 1))))] := hD
      refine lv_iload hx hb dL_law_1607 (lv_at hl 1 rfl) ?_
      refine lv_icmp_eq (tgt := 1614) hx hb dL_law_1609 (by decide) (fun c_2514 => ?_) (fun c_2514 => ?_)
      · skip
        refine lv_iload hx hb dL_law_1614 (lv_at hl 1 rfl) ?_
        refine lv_if_ne (tgt := 1630) hx hb dL_law_1616 (by decide) (fun c_2515 => ?_) (fun c_2515 => ?_)
        · skip
          refine lv_goto (tgt := 1804) hx hb dL_law_1630 (by decide) ?_
          exact lk_tail hC hA2 (lv_sub hl [2, 6] rfl) hS (Nat.le_of_ble_eq_true rfl) (Nat.le_of_ble_eq_true rfl)
        · exact absurd c_2515 (by decide)
      · exact absurd (by decide) c_2514
    · skip
      subst w_1818
      subst w_1819
      exact absurd c_12 c_1816
    · skip
      subst w_1839
      subst w_1840
      exact absurd c_12 c_1824
    · skip
      subst w_1861
      subst w_1862
      exact absurd c_12 c_1845
    · skip
      subst w_1884
      subst w_1885
      exact absurd c_12 c_1867
    · skip
      subst w_1907
      subst w_1908
      exact absurd c_12 c_1890
    · skip
      subst w_1928
      subst w_1929
      exact absurd c_12 c_1913
    · skip
      subst w_1950
      subst w_1951
      exact absurd c_12 c_1934
    · skip
      subst w_1970
      subst w_1971
      exact absurd c_12 c_1956
    · skip
      subst w_1991
      subst w_1992
      exact absurd c_12 c_1976
    · skip
      subst w_2010
      subst w_2011
      exact absurd c_12 c_1997
    · skip
      subst w_2031
      subst w_2032
      exact absurd c_12 c_2016
    · skip
      subst w_2052
      subst w_2053
      exact absurd c_12 c_2037
    · skip
      subst w_2070
      subst w_2071
      exact absurd c_12 c_2058
    · skip
      subst w_2090
      subst w_2091
      exact absurd c_12 c_2076
    · skip
      subst w_2110
      subst w_2111
      exact absurd c_12 c_2096
    · skip
      subst w_2127
      subst w_2128
      exact absurd c_12 c_2116
    · skip
      subst w_2146
      subst w_2147
      exact absurd c_12 c_2133
    · skip
      subst w_2165
      subst w_2166
      exact absurd c_12 c_2152
    · skip
      subst w_2182
      subst w_2183
      exact absurd c_12 c_2171
    · skip
      subst w_2201
      subst w_2202
      exact absurd c_12 c_2188
    · skip
      subst w_2220
      subst w_2221
      exact absurd c_12 c_2207
    · skip
      subst w_2237
      subst w_2238
      exact absurd c_12 c_2226
    · skip
      subst w_2256
      subst w_2257
      exact absurd c_12 c_2243
    · skip
      subst w_2275
      subst w_2276
      exact absurd c_12 c_2262
    · skip
      subst w_2290
      subst w_2291
      exact absurd c_12 c_2281
    · skip
      subst w_2307
      subst w_2308
      exact absurd c_12 c_2296
    · skip
      subst w_2324
      subst w_2325
      exact absurd c_12 c_2313
    · skip
      subst w_2339
      subst w_2340
      exact absurd c_12 c_2330
    · skip
      subst w_2356
      subst w_2357
      exact absurd c_12 c_2345
    · skip
      subst w_2373
      subst w_2374
      exact absurd c_12 c_2362
    · skip
      subst w_2387
      subst w_2388
      exact absurd c_12 c_2379
    · skip
      subst w_2403
      subst w_2404
      exact absurd c_12 c_2393
    · skip
      subst w_2419
      subst w_2420
      exact absurd c_12 c_2409
    · skip
      subst w_2432
      subst w_2433
      exact absurd c_12 c_2425
    · skip
      subst w_2447
      subst w_2448
      exact absurd c_12 c_2438
    · skip
      subst w_2462
      subst w_2463
      exact absurd c_12 c_2453
    · skip
      subst w_2474
      subst w_2475
      exact absurd c_12 c_2468
    · skip
      subst w_2488
      subst w_2489
      exact absurd c_12 c_2480
    · skip
      subst w_2502
      subst w_2503
      exact absurd c_12 c_2494
  · skip
    subst w_19
    subst w_20
    obtain ⟨hP, hD⟩ := va_join (wr := [(m0, .inr (11, y0))]) (w1 := [(h0, .inr (10, [.ref x0, .int 0, .ref x1, .ref x2, .ref x3, .ref x4, .ref x5, .ref x6, .ref x7, .ref x8, .int 0, .int 3000])), (o0, .inl (kA 1, 1, .inr (.inl (fun _ => 0))))]) hP hD [0, 2] [1] rfl rfl (by decide) (by decide) hk1 hFc hP1 hD1
    generalize H1 = H at hP hS ⊢
    have hP : va_P D vwCl [(m0, .inr (11, y0)), (h0, .inr (10, [.ref x0, .int 0, .ref x1, .ref x2, .ref x3, .ref x4, .ref x5, .ref x6, .ref x7, .ref x8, .int 0, .int 3000])), (o0, .inl (kA 1, 1, .inr (.inl (fun _ => 0))))] H := hP
    have hD : va_D A [(m0, .inr (11, y0)), (h0, .inr (10, [.ref x0, .int 0, .ref x1, .ref x2, .ref x3, .ref x4, .ref x5, .ref x6, .ref x7, .ref x8, .int 0, .int 3000])), (o0, .inl (kA 1, 1, .inr (.inl (fun _ => 0))))] := hD
    refine lv_istore (lv' := [(5, .int 1), (0, .ref b), (1, .ref h0), (2, .ref m0), (3, .ref o0), (4, .int 0)]) hx hb dL_law_1531 hl (by decide) rfl (fun ls hl => ?_)
    refine lv_aload_n hx hb dL_law_1533 rfl (lv_at hl 3 rfl) ?_
    refine lv_aload_n hx hb dL_law_1534 rfl (lv_at hl 1 rfl) ?_
    refine lv_iload hx hb dL_law_1535 (lv_at hl 5 rfl) ?_
    refine lv_iconst (v := 1) hx hb dL_law_1537 (by decide) ?_
    refine lv_iadd hx hb dL_law_1538 ?_
    refine W.eq (g2 := F0 m 1539 ls [.int 1, .ref b, .ref m0]) rfl ?_
    refine va_sld hx hb hX hbl hbA hS (show vp_in 1 8 by unfold vp_in; decide) dL_law_1539 ?_
    refine W.eq (g2 := F0 m 1540 ls [.int (xs 1), .ref m0]) rfl ?_
    refine lv_aload_n hx hb dL_law_1540 rfl (lv_at hl 1 rfl) ?_
    refine lv_iload hx hb dL_law_1541 (lv_at hl 5 rfl) ?_
    refine lv_iconst (v := 2) hx hb dL_law_1543 (by decide) ?_
    refine lv_iadd hx hb dL_law_1544 ?_
    refine W.eq (g2 := F0 m 1545 ls [.int 2, .ref b, .int (xs 1), .ref m0]) rfl ?_
    refine va_sld hx hb hX hbl hbA hS (show vp_in 2 8 by unfold vp_in; decide) dL_law_1545 ?_
    refine W.eq (g2 := F0 m 1546 ls [.int (xs 2), .int (xs 1), .ref m0]) rfl ?_
    refine lv_aload_n hx hb dL_law_1546 rfl (lv_at hl 1 rfl) ?_
    refine lv_iload hx hb dL_law_1547 (lv_at hl 5 rfl) ?_
    refine lv_iconst (v := 3) hx hb dL_law_1549 (by decide) ?_
    refine lv_iadd hx hb dL_law_1550 ?_
    refine W.eq (g2 := F0 m 1551 ls [.int 3, .ref b, .int (xs 2), .int (xs 1), .ref m0]) rfl ?_
    refine va_sld hx hb hX hbl hbA hS (show vp_in 3 8 by unfold vp_in; decide) dL_law_1551 ?_
    refine W.eq (g2 := F0 m 1552 ls [.int (xs 3), .int (xs 2), .int (xs 1), .ref m0]) rfl ?_
    refine lv_aload_n hx hb dL_law_1552 rfl (lv_at hl 1 rfl) ?_
    refine lv_iload hx hb dL_law_1553 (lv_at hl 5 rfl) ?_
    refine lv_iconst (v := 4) hx hb dL_law_1555 (by decide) ?_
    refine lv_iadd hx hb dL_law_1556 ?_
    refine W.eq (g2 := F0 m 1557 ls [.int 4, .ref b, .int (xs 3), .int (xs 2), .int (xs 1), .ref m0]) rfl ?_
    refine va_sld hx hb hX hbl hbA hS (show vp_in 4 8 by unfold vp_in; decide) dL_law_1557 ?_
    refine W.eq (g2 := F0 m 1558 ls [.int (xs 4), .int (xs 3), .int (xs 2), .int (xs 1), .ref m0]) rfl ?_
    refine lv_i2l (v := (xs 4).toInt64) hx hb dL_law_1558 rfl ?_
    refine lv_bipush (v := 32) hx hb dL_law_1559 (by decide) ?_
    refine lv_lshl (v := ((xs 4).toInt64) <<< ((32 : Int32).toInt64 &&& 63)) hx hb dL_law_1561 rfl ?_
    refine lv_aload_n hx hb dL_law_1562 rfl (lv_at hl 1 rfl) ?_
    refine lv_iload hx hb dL_law_1563 (lv_at hl 5 rfl) ?_
    refine lv_iconst (v := 5) hx hb dL_law_1565 (by decide) ?_
    refine lv_iadd hx hb dL_law_1566 ?_
    refine W.eq (g2 := F0 m 1567 ls [.int 5, .ref b, .long (((xs 4).toInt64) <<< ((32 : Int32).toInt64 &&& 63)), .int (xs 3), .int (xs 2), .int (xs 1), .ref m0]) rfl ?_
    refine va_sld hx hb hX hbl hbA hS (show vp_in 5 8 by unfold vp_in; decide) dL_law_1567 ?_
    refine W.eq (g2 := F0 m 1568 ls [.int (xs 5), .long (((xs 4).toInt64) <<< ((32 : Int32).toInt64 &&& 63)), .int (xs 3), .int (xs 2), .int (xs 1), .ref m0]) rfl ?_
    refine lv_i2l (v := (xs 5).toInt64) hx hb dL_law_1568 rfl ?_
    refine lv_ldc2 (v := 4294967295) hx hb hown (hG _ gw_2764) dL_law_1569 ?_
    refine lv_land hx hb dL_law_1572 ?_
    refine lv_lor hx hb dL_law_1573 ?_
    refine lv_aload_n hx hb dL_law_1574 rfl (lv_at hl 1 rfl) ?_
    refine lv_iload hx hb dL_law_1575 (lv_at hl 5 rfl) ?_
    refine lv_bipush (v := 6) hx hb dL_law_1577 (by decide) ?_
    refine lv_iadd hx hb dL_law_1579 ?_
    refine W.eq (g2 := F0 m 1580 ls [.int 6, .ref b, .long ((((xs 4).toInt64) <<< ((32 : Int32).toInt64 &&& 63)) ||| (((xs 5).toInt64) &&& 4294967295)), .int (xs 3), .int (xs 2), .int (xs 1), .ref m0]) rfl ?_
    refine va_sld hx hb hX hbl hbA hS (show vp_in 6 8 by unfold vp_in; decide) dL_law_1580 ?_
    refine W.eq (g2 := F0 m 1581 ls [.int (xs 6), .long ((((xs 4).toInt64) <<< ((32 : Int32).toInt64 &&& 63)) ||| (((xs 5).toInt64) &&& 4294967295)), .int (xs 3), .int (xs 2), .int (xs 1), .ref m0]) rfl ?_
    refine lv_i2l (v := (xs 6).toInt64) hx hb dL_law_1581 rfl ?_
    refine lv_bipush (v := 32) hx hb dL_law_1582 (by decide) ?_
    refine lv_lshl (v := ((xs 6).toInt64) <<< ((32 : Int32).toInt64 &&& 63)) hx hb dL_law_1584 rfl ?_
    refine lv_aload_n hx hb dL_law_1585 rfl (lv_at hl 1 rfl) ?_
    refine lv_iload hx hb dL_law_1586 (lv_at hl 5 rfl) ?_
    refine lv_bipush (v := 7) hx hb dL_law_1588 (by decide) ?_
    refine lv_iadd hx hb dL_law_1590 ?_
    refine W.eq (g2 := F0 m 1591 ls [.int 7, .ref b, .long (((xs 6).toInt64) <<< ((32 : Int32).toInt64 &&& 63)), .long ((((xs 4).toInt64) <<< ((32 : Int32).toInt64 &&& 63)) ||| (((xs 5).toInt64) &&& 4294967295)), .int (xs 3), .int (xs 2), .int (xs 1), .ref m0]) rfl ?_
    refine va_sld hx hb hX hbl hbA hS (show vp_in 7 8 by unfold vp_in; decide) dL_law_1591 ?_
    refine W.eq (g2 := F0 m 1592 ls [.int (xs 7), .long (((xs 6).toInt64) <<< ((32 : Int32).toInt64 &&& 63)), .long ((((xs 4).toInt64) <<< ((32 : Int32).toInt64 &&& 63)) ||| (((xs 5).toInt64) &&& 4294967295)), .int (xs 3), .int (xs 2), .int (xs 1), .ref m0]) rfl ?_
    refine lv_i2l (v := (xs 7).toInt64) hx hb dL_law_1592 rfl ?_
    refine lv_ldc2 (v := 4294967295) hx hb hown (hG _ gw_2764) dL_law_1593 ?_
    refine lv_land hx hb dL_law_1596 ?_
    refine lv_lor hx hb dL_law_1597 ?_
    have hPc := hP.sub (ws' := [(m0, .inr (11, y0))]) [0] rfl
    have hDc := hD.sub (ws' := [(m0, .inr (11, y0))]) [0] (by decide) rfl
    have hFc := va_free (wc := [(m0, .inr (11, y0))]) hD hS hA [0] rfl
    refine va_calll (va_runV (As := [.int (xs 1), .int (xs 2), .int (xs 3), .long ((((xs 4).toInt64) <<< ((32 : Int32).toInt64 &&& 63)) ||| (((xs 5).toInt64) &&& 4294967295)), .long ((((xs 6).toInt64) <<< ((32 : Int32).toInt64 &&& 63)) ||| (((xs 7).toInt64) &&& 4294967295))]) (rest := []) ⟨hx, hb, hml, hown, hts⟩ (a153_X12_work l  D kA V H.size m0 (xs 1) (xs 2) (xs 3) ((((xs 4).toInt64) <<< ((32 : Int32).toInt64 &&& 63)) ||| (((xs 5).toInt64) &&& 4294967295)) ((((xs 6).toInt64) <<< ((32 : Int32).toInt64 &&& 63)) ||| (((xs 7).toInt64) &&& 4294967295)) y0 (fun k hk => (hq k hk)) hq9) (cwV 5 hts (gw_V gw_2756 gw_2757 gw_2758 gw_16 gw_2759) rfl rfl rfl (by decide +kernel) ⟨(Nat.le_of_ble_eq_true rfl), (Nat.le_of_ble_eq_true rfl)⟩) ⟨aP.blind, va_recv hK hP (ci := 11) (q0 := 0) rfl rfl, aP.pre hE hS hPc hK hDc hFc⟩ rfl rfl hl.1 rfl (lv_room (Nat.le_of_ble_eq_true rfl)) dL_law_1598 ⟨(Nat.le_of_ble_eq_true rfl), (Nat.le_of_ble_eq_true rfl)⟩) hS (fun q _ h => hFc q h) hFc (fun r_2516 u t H1 locs ht hvm hw hB hz1 hk1 hS => ?_)
    obtain ⟨u_2517, rfl⟩ : ∃ z, z = u := ⟨u, rfl⟩
    obtain ⟨hP1, hD1⟩ := hB
    rw [ht] at hP1
    try dsimp only at hw hP1 hD1
    rcases hw with ⟨c_2518, c_2519, w_2520, w_2521⟩ | ⟨c_2522, c_2523, c_2524, w_2525, w_2526⟩ | ⟨c_2527, c_2528, c_2529, c_2530, w_2531, w_2532⟩ | ⟨c_2533, c_2534, c_2535, c_2536, c_2537, w_2538, w_2539⟩ | ⟨c_2540, c_2541, c_2542, c_2543, c_2544, w_2545, w_2546⟩ | ⟨c_2547, c_2548, c_2549, w_2550, w_2551⟩ | ⟨c_2552, c_2553, c_2554, c_2555, w_2556, w_2557⟩ | ⟨c_2558, c_2559, c_2560, c_2561, c_2562, w_2563, w_2564⟩ | ⟨c_2565, c_2566, c_2567, c_2568, c_2569, c_2570, w_2571, w_2572⟩ | ⟨c_2573, c_2574, c_2575, c_2576, c_2577, c_2578, w_2579, w_2580⟩ | ⟨c_2581, c_2582, c_2583, w_2584, w_2585⟩ | ⟨c_2586, c_2587, c_2588, c_2589, w_2590, w_2591⟩ | ⟨c_2592, c_2593, c_2594, c_2595, c_2596, w_2597, w_2598⟩ | ⟨c_2599, c_2600, c_2601, c_2602, c_2603, c_2604, w_2605, w_2606⟩ | ⟨c_2607, c_2608, c_2609, c_2610, c_2611, c_2612, c_2613, c_2614, c_2615, c_2616, c_2617, c_2618, c_2619, c_2620, c_2621, c_2622, c_2623, c_2624, c_2625, w_2626, w_2627⟩ | ⟨c_2628, c_2629, c_2630, c_2631, c_2632, c_2633, c_2634, c_2635, c_2636, c_2637, c_2638, c_2639, c_2640, c_2641, c_2642, c_2643, c_2644, c_2645, c_2646, c_2647, w_2648, w_2649⟩ | ⟨c_2650, c_2651, c_2652, c_2653, c_2654, c_2655, c_2656, c_2657, c_2658, c_2659, c_2660, c_2661, c_2662, c_2663, c_2664, c_2665, c_2666, c_2667, c_2668, c_2669, c_2670, w_2671, w_2672⟩ | ⟨c_2673, c_2674, c_2675, c_2676, c_2677, c_2678, c_2679, c_2680, c_2681, c_2682, c_2683, c_2684, c_2685, c_2686, c_2687, c_2688, c_2689, c_2690, c_2691, c_2692, c_2693, w_2694, w_2695⟩ | ⟨c_2696, c_2697, c_2698, c_2699, c_2700, c_2701, c_2702, c_2703, c_2704, c_2705, c_2706, c_2707, c_2708, c_2709, c_2710, c_2711, c_2712, c_2713, c_2714, w_2715, w_2716⟩ | ⟨c_2717, c_2718, c_2719, c_2720, c_2721, c_2722, c_2723, c_2724, c_2725, c_2726, c_2727, c_2728, c_2729, c_2730, c_2731, c_2732, c_2733, c_2734, c_2735, c_2736, w_2737, w_2738⟩ | ⟨c_2739, c_2740, c_2741, c_2742, c_2743, c_2744, c_2745, c_2746, c_2747, c_2748, c_2749, c_2750, c_2751, c_2752, c_2753, c_2754, c_2755, c_2756, w_2757, w_2758⟩ | ⟨c_2759, c_2760, c_2761, c_2762, c_2763, c_2764, c_2765, c_2766, c_2767, c_2768, c_2769, c_2770, c_2771, c_2772, c_2773, c_2774, c_2775, c_2776, c_2777, w_2778, w_2779⟩ | ⟨c_2780, c_2781, c_2782, c_2783, c_2784, c_2785, c_2786, c_2787, c_2788, c_2789, c_2790, c_2791, c_2792, c_2793, c_2794, c_2795, c_2796, w_2797, w_2798⟩ | ⟨c_2799, c_2800, c_2801, c_2802, c_2803, c_2804, c_2805, c_2806, c_2807, c_2808, c_2809, c_2810, c_2811, c_2812, c_2813, c_2814, c_2815, c_2816, c_2817, w_2818, w_2819⟩ | ⟨c_2820, c_2821, c_2822, c_2823, c_2824, c_2825, c_2826, c_2827, c_2828, c_2829, c_2830, c_2831, c_2832, c_2833, c_2834, c_2835, c_2836, c_2837, c_2838, w_2839, w_2840⟩ | ⟨c_2841, c_2842, c_2843, c_2844, c_2845, c_2846, c_2847, c_2848, c_2849, c_2850, c_2851, c_2852, c_2853, c_2854, c_2855, c_2856, w_2857, w_2858⟩ | ⟨c_2859, c_2860, c_2861, c_2862, c_2863, c_2864, c_2865, c_2866, c_2867, c_2868, c_2869, c_2870, c_2871, c_2872, c_2873, c_2874, c_2875, c_2876, w_2877, w_2878⟩ | ⟨c_2879, c_2880, c_2881, c_2882, c_2883, c_2884, c_2885, c_2886, c_2887, c_2888, c_2889, c_2890, c_2891, c_2892, c_2893, c_2894, c_2895, c_2896, w_2897, w_2898⟩ | ⟨c_2899, c_2900, c_2901, c_2902, c_2903, c_2904, c_2905, c_2906, c_2907, c_2908, c_2909, c_2910, c_2911, c_2912, c_2913, w_2914, w_2915⟩ | ⟨c_2916, c_2917, c_2918, c_2919, c_2920, c_2921, c_2922, c_2923, c_2924, c_2925, c_2926, c_2927, c_2928, c_2929, c_2930, c_2931, c_2932, w_2933, w_2934⟩ | ⟨c_2935, c_2936, c_2937, c_2938, c_2939, c_2940, c_2941, c_2942, c_2943, c_2944, c_2945, c_2946, c_2947, c_2948, c_2949, c_2950, c_2951, w_2952, w_2953⟩ | ⟨c_2954, c_2955, c_2956, c_2957, c_2958, c_2959, c_2960, c_2961, c_2962, c_2963, c_2964, c_2965, c_2966, c_2967, c_2968, w_2969, w_2970⟩ | ⟨c_2971, c_2972, c_2973, c_2974, c_2975, c_2976, c_2977, c_2978, c_2979, c_2980, c_2981, c_2982, c_2983, c_2984, c_2985, c_2986, c_2987, w_2988, w_2989⟩ | ⟨c_2990, c_2991, c_2992, c_2993, c_2994, c_2995, c_2996, c_2997, c_2998, c_2999, c_3000, c_3001, c_3002, c_3003, c_3004, c_3005, c_3006, w_3007, w_3008⟩ | ⟨c_3009, c_3010, c_3011, c_3012, c_3013, c_3014, c_3015, c_3016, c_3017, c_3018, c_3019, c_3020, c_3021, c_3022, c_3023, w_3024, w_3025⟩ | ⟨c_3026, c_3027, c_3028, c_3029, c_3030, c_3031, c_3032, c_3033, c_3034, c_3035, c_3036, c_3037, c_3038, c_3039, c_3040, c_3041, c_3042, w_3043, w_3044⟩ | ⟨c_3045, c_3046, c_3047, c_3048, c_3049, c_3050, c_3051, c_3052, c_3053, c_3054, c_3055, c_3056, c_3057, c_3058, c_3059, c_3060, c_3061, w_3062, w_3063⟩ | ⟨c_3064, c_3065, c_3066, c_3067, c_3068, c_3069, c_3070, c_3071, c_3072, c_3073, c_3074, c_3075, c_3076, w_3077, w_3078⟩ | ⟨c_3079, c_3080, c_3081, c_3082, c_3083, c_3084, c_3085, c_3086, c_3087, c_3088, c_3089, c_3090, c_3091, c_3092, c_3093, w_3094, w_3095⟩ | ⟨c_3096, c_3097, c_3098, c_3099, c_3100, c_3101, c_3102, c_3103, c_3104, c_3105, c_3106, c_3107, c_3108, c_3109, c_3110, w_3111, w_3112⟩ | ⟨c_3113, c_3114, c_3115, c_3116, c_3117, c_3118, c_3119, c_3120, c_3121, c_3122, c_3123, c_3124, c_3125, w_3126, w_3127⟩ | ⟨c_3128, c_3129, c_3130, c_3131, c_3132, c_3133, c_3134, c_3135, c_3136, c_3137, c_3138, c_3139, c_3140, c_3141, c_3142, w_3143, w_3144⟩ | ⟨c_3145, c_3146, c_3147, c_3148, c_3149, c_3150, c_3151, c_3152, c_3153, c_3154, c_3155, c_3156, c_3157, c_3158, c_3159, w_3160, w_3161⟩ | ⟨c_3162, c_3163, c_3164, c_3165, c_3166, c_3167, c_3168, c_3169, c_3170, c_3171, c_3172, c_3173, w_3174, w_3175⟩ | ⟨c_3176, c_3177, c_3178, c_3179, c_3180, c_3181, c_3182, c_3183, c_3184, c_3185, c_3186, c_3187, c_3188, c_3189, w_3190, w_3191⟩ | ⟨c_3192, c_3193, c_3194, c_3195, c_3196, c_3197, c_3198, c_3199, c_3200, c_3201, c_3202, c_3203, c_3204, c_3205, w_3206, w_3207⟩ | ⟨c_3208, c_3209, c_3210, c_3211, c_3212, c_3213, c_3214, c_3215, c_3216, c_3217, c_3218, w_3219, w_3220⟩ | ⟨c_3221, c_3222, c_3223, c_3224, c_3225, c_3226, c_3227, c_3228, c_3229, c_3230, c_3231, c_3232, c_3233, w_3234, w_3235⟩ | ⟨c_3236, c_3237, c_3238, c_3239, c_3240, c_3241, c_3242, c_3243, c_3244, c_3245, c_3246, c_3247, c_3248, w_3249, w_3250⟩ | ⟨c_3251, c_3252, c_3253, c_3254, c_3255, c_3256, c_3257, c_3258, c_3259, c_3260, w_3261, w_3262⟩ | ⟨c_3263, c_3264, c_3265, c_3266, c_3267, c_3268, c_3269, c_3270, c_3271, c_3272, c_3273, c_3274, w_3275, w_3276⟩ | ⟨c_3277, c_3278, c_3279, c_3280, c_3281, c_3282, c_3283, c_3284, c_3285, c_3286, c_3287, c_3288, w_3289, w_3290⟩
    · skip
      subst w_2520
      subst w_2521
      exact absurd c_2519 c_15
    · skip
      subst w_2525
      subst w_2526
      exact absurd c_2524 c_16
    · skip
      subst w_2531
      subst w_2532
      exact absurd c_2530 c_17
    · skip
      subst w_2538
      subst w_2539
      obtain ⟨hP, hD⟩ := va_join (wr := [(h0, .inr (10, [.ref x0, .int 0, .ref x1, .ref x2, .ref x3, .ref x4, .ref x5, .ref x6, .ref x7, .ref x8, .int 0, .int 3000])), (o0, .inl (kA 1, 1, .inr (.inl (fun _ => 0))))]) (w1 := [(m0, .inr (11, y0.set 9 (.int 1)))]) hP hD [0] [1, 2] rfl rfl (by decide) (by decide) hk1 hFc hP1 hD1
      generalize H1 = H at hP hS ⊢
      have hP : va_P D vwCl [(h0, .inr (10, [.ref x0, .int 0, .ref x1, .ref x2, .ref x3, .ref x4, .ref x5, .ref x6, .ref x7, .ref x8, .int 0, .int 3000])), (o0, .inl (kA 1, 1, .inr (.inl (fun _ => 0)))), (m0, .inr (11, y0.set 9 (.int 1)))] H := hP
      have hD : va_D A [(h0, .inr (10, [.ref x0, .int 0, .ref x1, .ref x2, .ref x3, .ref x4, .ref x5, .ref x6, .ref x7, .ref x8, .int 0, .int 3000])), (o0, .inl (kA 1, 1, .inr (.inl (fun _ => 0)))), (m0, .inr (11, y0.set 9 (.int 1)))] := hD
      refine lv_lstore (lv' := [(6, .long 0), (5, .int 1), (0, .ref b), (1, .ref h0), (2, .ref m0), (3, .ref o0), (4, .int 0)]) hx hb dL_law_1601 hl (by decide) rfl (fun ls hl => ?_)
      refine lv_aload_n hx hb dL_law_1603 rfl (lv_at hl 4 rfl) ?_
      have hPc := hP.sub (ws' := [(m0, .inr (11, y0.set 9 (.int 1)))]) [2] rfl
      have hDc := hD.sub (ws' := [(m0, .inr (11, y0.set 9 (.int 1)))]) [2] (by decide) rfl
      have hFc := va_free (wc := [(m0, .inr (11, y0.set 9 (.int 1)))]) hD hS hA [2] rfl
      refine va_calli (va_runV (As := []) (rest := []) ⟨hx, hb, hml, hown, hts⟩ (a174_X12_thrown l  D kA V H.size m0 (y0.set 9 (.int 1)) (fun k hk => (by rw [List.length_set]; exact (hq k hk))) (List.getElem?_set_self (hq 9 (by decide)))) (cwV 0 hts (gw_V gw_1879 gw_1880 gw_1881 gw_16 gw_1882) rfl rfl rfl (by decide +kernel) ⟨(Nat.le_of_ble_eq_true rfl), (Nat.le_of_ble_eq_true rfl)⟩) ⟨aP.blind, va_recv hK hP (ci := 11) (q0 := 2) rfl rfl, aP.pre hE hS hPc hK hDc hFc⟩ rfl rfl hl.1 rfl (lv_room (Nat.le_of_ble_eq_true rfl)) dL_law_1604 ⟨(Nat.le_of_ble_eq_true rfl), (Nat.le_of_ble_eq_true rfl)⟩) hS (fun q _ h => hFc q h) hFc (fun r_3291 u t H1 locs ht hvm hw hB hz1 hk1 hS => ?_)
      obtain ⟨hP1, hD1⟩ := hB
      rw [ht] at hP1
      try dsimp only at hw hP1 hD1
      have w_3292 := hw
      subst w_3292
      obtain ⟨hP, hD⟩ := va_join (wr := [(h0, .inr (10, [.ref x0, .int 0, .ref x1, .ref x2, .ref x3, .ref x4, .ref x5, .ref x6, .ref x7, .ref x8, .int 0, .int 3000])), (o0, .inl (kA 1, 1, .inr (.inl (fun _ => 0))))]) (w1 := [(m0, .inr (11, (y0.set 9 (.int 1))))]) hP hD [2] [0, 1] rfl rfl (by decide) (by decide) hk1 hFc hP1 hD1
      generalize H1 = H at hP hS ⊢
      have hP : va_P D vwCl [(h0, .inr (10, [.ref x0, .int 0, .ref x1, .ref x2, .ref x3, .ref x4, .ref x5, .ref x6, .ref x7, .ref x8, .int 0, .int 3000])), (o0, .inl (kA 1, 1, .inr (.inl (fun _ => 0)))), (m0, .inr (11, (y0.set 9 (.int 1))))] H := hP
      have hD : va_D A [(h0, .inr (10, [.ref x0, .int 0, .ref x1, .ref x2, .ref x3, .ref x4, .ref x5, .ref x6, .ref x7, .ref x8, .int 0, .int 3000])), (o0, .inl (kA 1, 1, .inr (.inl (fun _ => 0)))), (m0, .inr (11, (y0.set 9 (.int 1))))] := hD
      refine lv_iload hx hb dL_law_1607 (lv_at hl 1 rfl) ?_
      refine lv_icmp_eq (tgt := 1614) hx hb dL_law_1609 (by decide) (fun c_3293 => ?_) (fun c_3293 => ?_)
      · skip
        refine lv_iload hx hb dL_law_1614 (lv_at hl 1 rfl) ?_
        refine lv_if_ne (tgt := 1630) hx hb dL_law_1616 (by decide) (fun c_3294 => ?_) (fun c_3294 => ?_)
        · skip
          refine lv_goto (tgt := 1804) hx hb dL_law_1630 (by decide) ?_
          exact lk_tail hC hA2 (lv_sub hl [2, 6] rfl) hS (Nat.le_of_ble_eq_true rfl) (Nat.le_of_ble_eq_true rfl)
        · exact absurd c_3294 (by decide)
      · exact absurd (by decide) c_3293
    · skip
      subst w_2545
      subst w_2546
      exact absurd c_18 c_2544
    · skip
      subst w_2550
      subst w_2551
      exact absurd c_2549 c_15
    · skip
      subst w_2556
      subst w_2557
      exact absurd c_2555 c_16
    · skip
      subst w_2563
      subst w_2564
      exact absurd c_2562 c_17
    · skip
      subst w_2571
      subst w_2572
      obtain ⟨hP, hD⟩ := va_join (wr := [(h0, .inr (10, [.ref x0, .int 0, .ref x1, .ref x2, .ref x3, .ref x4, .ref x5, .ref x6, .ref x7, .ref x8, .int 0, .int 3000])), (o0, .inl (kA 1, 1, .inr (.inl (fun _ => 0))))]) (w1 := [(m0, .inr (11, y0.set 9 (.int 1)))]) hP hD [0] [1, 2] rfl rfl (by decide) (by decide) hk1 hFc hP1 hD1
      generalize H1 = H at hP hS ⊢
      have hP : va_P D vwCl [(h0, .inr (10, [.ref x0, .int 0, .ref x1, .ref x2, .ref x3, .ref x4, .ref x5, .ref x6, .ref x7, .ref x8, .int 0, .int 3000])), (o0, .inl (kA 1, 1, .inr (.inl (fun _ => 0)))), (m0, .inr (11, y0.set 9 (.int 1)))] H := hP
      have hD : va_D A [(h0, .inr (10, [.ref x0, .int 0, .ref x1, .ref x2, .ref x3, .ref x4, .ref x5, .ref x6, .ref x7, .ref x8, .int 0, .int 3000])), (o0, .inl (kA 1, 1, .inr (.inl (fun _ => 0)))), (m0, .inr (11, y0.set 9 (.int 1)))] := hD
      refine lv_lstore (lv' := [(6, .long 0), (5, .int 1), (0, .ref b), (1, .ref h0), (2, .ref m0), (3, .ref o0), (4, .int 0)]) hx hb dL_law_1601 hl (by decide) rfl (fun ls hl => ?_)
      refine lv_aload_n hx hb dL_law_1603 rfl (lv_at hl 4 rfl) ?_
      have hPc := hP.sub (ws' := [(m0, .inr (11, y0.set 9 (.int 1)))]) [2] rfl
      have hDc := hD.sub (ws' := [(m0, .inr (11, y0.set 9 (.int 1)))]) [2] (by decide) rfl
      have hFc := va_free (wc := [(m0, .inr (11, y0.set 9 (.int 1)))]) hD hS hA [2] rfl
      refine va_calli (va_runV (As := []) (rest := []) ⟨hx, hb, hml, hown, hts⟩ (a174_X12_thrown l  D kA V H.size m0 (y0.set 9 (.int 1)) (fun k hk => (by rw [List.length_set]; exact (hq k hk))) (List.getElem?_set_self (hq 9 (by decide)))) (cwV 0 hts (gw_V gw_1879 gw_1880 gw_1881 gw_16 gw_1882) rfl rfl rfl (by decide +kernel) ⟨(Nat.le_of_ble_eq_true rfl), (Nat.le_of_ble_eq_true rfl)⟩) ⟨aP.blind, va_recv hK hP (ci := 11) (q0 := 2) rfl rfl, aP.pre hE hS hPc hK hDc hFc⟩ rfl rfl hl.1 rfl (lv_room (Nat.le_of_ble_eq_true rfl)) dL_law_1604 ⟨(Nat.le_of_ble_eq_true rfl), (Nat.le_of_ble_eq_true rfl)⟩) hS (fun q _ h => hFc q h) hFc (fun r_3295 u t H1 locs ht hvm hw hB hz1 hk1 hS => ?_)
      obtain ⟨hP1, hD1⟩ := hB
      rw [ht] at hP1
      try dsimp only at hw hP1 hD1
      have w_3296 := hw
      subst w_3296
      obtain ⟨hP, hD⟩ := va_join (wr := [(h0, .inr (10, [.ref x0, .int 0, .ref x1, .ref x2, .ref x3, .ref x4, .ref x5, .ref x6, .ref x7, .ref x8, .int 0, .int 3000])), (o0, .inl (kA 1, 1, .inr (.inl (fun _ => 0))))]) (w1 := [(m0, .inr (11, (y0.set 9 (.int 1))))]) hP hD [2] [0, 1] rfl rfl (by decide) (by decide) hk1 hFc hP1 hD1
      generalize H1 = H at hP hS ⊢
      have hP : va_P D vwCl [(h0, .inr (10, [.ref x0, .int 0, .ref x1, .ref x2, .ref x3, .ref x4, .ref x5, .ref x6, .ref x7, .ref x8, .int 0, .int 3000])), (o0, .inl (kA 1, 1, .inr (.inl (fun _ => 0)))), (m0, .inr (11, (y0.set 9 (.int 1))))] H := hP
      have hD : va_D A [(h0, .inr (10, [.ref x0, .int 0, .ref x1, .ref x2, .ref x3, .ref x4, .ref x5, .ref x6, .ref x7, .ref x8, .int 0, .int 3000])), (o0, .inl (kA 1, 1, .inr (.inl (fun _ => 0)))), (m0, .inr (11, (y0.set 9 (.int 1))))] := hD
      refine lv_iload hx hb dL_law_1607 (lv_at hl 1 rfl) ?_
      refine lv_icmp_eq (tgt := 1614) hx hb dL_law_1609 (by decide) (fun c_3297 => ?_) (fun c_3297 => ?_)
      · skip
        refine lv_iload hx hb dL_law_1614 (lv_at hl 1 rfl) ?_
        refine lv_if_ne (tgt := 1630) hx hb dL_law_1616 (by decide) (fun c_3298 => ?_) (fun c_3298 => ?_)
        · skip
          refine lv_goto (tgt := 1804) hx hb dL_law_1630 (by decide) ?_
          exact lk_tail hC hA2 (lv_sub hl [2, 6] rfl) hS (Nat.le_of_ble_eq_true rfl) (Nat.le_of_ble_eq_true rfl)
        · exact absurd c_3298 (by decide)
      · exact absurd (by decide) c_3297
    · skip
      subst w_2579
      subst w_2580
      exact absurd c_18 c_2578
    · skip
      subst w_2584
      subst w_2585
      exact absurd c_2583 c_15
    · skip
      subst w_2590
      subst w_2591
      exact absurd c_2589 c_16
    · skip
      subst w_2597
      subst w_2598
      exact absurd c_2596 c_17
    · skip
      subst w_2605
      subst w_2606
      obtain ⟨hP, hD⟩ := va_join (wr := [(h0, .inr (10, [.ref x0, .int 0, .ref x1, .ref x2, .ref x3, .ref x4, .ref x5, .ref x6, .ref x7, .ref x8, .int 0, .int 3000])), (o0, .inl (kA 1, 1, .inr (.inl (fun _ => 0))))]) (w1 := [(m0, .inr (11, y0.set 9 (.int 1)))]) hP hD [0] [1, 2] rfl rfl (by decide) (by decide) hk1 hFc hP1 hD1
      generalize H1 = H at hP hS ⊢
      have hP : va_P D vwCl [(h0, .inr (10, [.ref x0, .int 0, .ref x1, .ref x2, .ref x3, .ref x4, .ref x5, .ref x6, .ref x7, .ref x8, .int 0, .int 3000])), (o0, .inl (kA 1, 1, .inr (.inl (fun _ => 0)))), (m0, .inr (11, y0.set 9 (.int 1)))] H := hP
      have hD : va_D A [(h0, .inr (10, [.ref x0, .int 0, .ref x1, .ref x2, .ref x3, .ref x4, .ref x5, .ref x6, .ref x7, .ref x8, .int 0, .int 3000])), (o0, .inl (kA 1, 1, .inr (.inl (fun _ => 0)))), (m0, .inr (11, y0.set 9 (.int 1)))] := hD
      refine lv_lstore (lv' := [(6, .long 0), (5, .int 1), (0, .ref b), (1, .ref h0), (2, .ref m0), (3, .ref o0), (4, .int 0)]) hx hb dL_law_1601 hl (by decide) rfl (fun ls hl => ?_)
      refine lv_aload_n hx hb dL_law_1603 rfl (lv_at hl 4 rfl) ?_
      have hPc := hP.sub (ws' := [(m0, .inr (11, y0.set 9 (.int 1)))]) [2] rfl
      have hDc := hD.sub (ws' := [(m0, .inr (11, y0.set 9 (.int 1)))]) [2] (by decide) rfl
      have hFc := va_free (wc := [(m0, .inr (11, y0.set 9 (.int 1)))]) hD hS hA [2] rfl
      refine va_calli (va_runV (As := []) (rest := []) ⟨hx, hb, hml, hown, hts⟩ (a174_X12_thrown l  D kA V H.size m0 (y0.set 9 (.int 1)) (fun k hk => (by rw [List.length_set]; exact (hq k hk))) (List.getElem?_set_self (hq 9 (by decide)))) (cwV 0 hts (gw_V gw_1879 gw_1880 gw_1881 gw_16 gw_1882) rfl rfl rfl (by decide +kernel) ⟨(Nat.le_of_ble_eq_true rfl), (Nat.le_of_ble_eq_true rfl)⟩) ⟨aP.blind, va_recv hK hP (ci := 11) (q0 := 2) rfl rfl, aP.pre hE hS hPc hK hDc hFc⟩ rfl rfl hl.1 rfl (lv_room (Nat.le_of_ble_eq_true rfl)) dL_law_1604 ⟨(Nat.le_of_ble_eq_true rfl), (Nat.le_of_ble_eq_true rfl)⟩) hS (fun q _ h => hFc q h) hFc (fun r_3299 u t H1 locs ht hvm hw hB hz1 hk1 hS => ?_)
      obtain ⟨hP1, hD1⟩ := hB
      rw [ht] at hP1
      try dsimp only at hw hP1 hD1
      have w_3300 := hw
      subst w_3300
      obtain ⟨hP, hD⟩ := va_join (wr := [(h0, .inr (10, [.ref x0, .int 0, .ref x1, .ref x2, .ref x3, .ref x4, .ref x5, .ref x6, .ref x7, .ref x8, .int 0, .int 3000])), (o0, .inl (kA 1, 1, .inr (.inl (fun _ => 0))))]) (w1 := [(m0, .inr (11, (y0.set 9 (.int 1))))]) hP hD [2] [0, 1] rfl rfl (by decide) (by decide) hk1 hFc hP1 hD1
      generalize H1 = H at hP hS ⊢
      have hP : va_P D vwCl [(h0, .inr (10, [.ref x0, .int 0, .ref x1, .ref x2, .ref x3, .ref x4, .ref x5, .ref x6, .ref x7, .ref x8, .int 0, .int 3000])), (o0, .inl (kA 1, 1, .inr (.inl (fun _ => 0)))), (m0, .inr (11, (y0.set 9 (.int 1))))] H := hP
      have hD : va_D A [(h0, .inr (10, [.ref x0, .int 0, .ref x1, .ref x2, .ref x3, .ref x4, .ref x5, .ref x6, .ref x7, .ref x8, .int 0, .int 3000])), (o0, .inl (kA 1, 1, .inr (.inl (fun _ => 0)))), (m0, .inr (11, (y0.set 9 (.int 1))))] := hD
      refine lv_iload hx hb dL_law_1607 (lv_at hl 1 rfl) ?_
      refine lv_icmp_eq (tgt := 1614) hx hb dL_law_1609 (by decide) (fun c_3301 => ?_) (fun c_3301 => ?_)
      · skip
        refine lv_iload hx hb dL_law_1614 (lv_at hl 1 rfl) ?_
        refine lv_if_ne (tgt := 1630) hx hb dL_law_1616 (by decide) (fun c_3302 => ?_) (fun c_3302 => ?_)
        · skip
          refine lv_goto (tgt := 1804) hx hb dL_law_1630 (by decide) ?_
          exact lk_tail hC hA2 (lv_sub hl [2, 6] rfl) hS (Nat.le_of_ble_eq_true rfl) (Nat.le_of_ble_eq_true rfl)
        · exact absurd c_3302 (by decide)
      · exact absurd (by decide) c_3301
    · skip
      subst w_2626
      subst w_2627
      exact absurd c_18 c_2612
    · skip
      subst w_2648
      subst w_2649
      exact absurd c_18 c_2633
    · skip
      subst w_2671
      subst w_2672
      exact absurd c_18 c_2655
    · skip
      subst w_2694
      subst w_2695
      exact absurd c_18 c_2678
    · skip
      subst w_2715
      subst w_2716
      exact absurd c_18 c_2701
    · skip
      subst w_2737
      subst w_2738
      exact absurd c_18 c_2722
    · skip
      subst w_2757
      subst w_2758
      exact absurd c_18 c_2744
    · skip
      subst w_2778
      subst w_2779
      exact absurd c_18 c_2764
    · skip
      subst w_2797
      subst w_2798
      exact absurd c_18 c_2785
    · skip
      subst w_2818
      subst w_2819
      exact absurd c_18 c_2804
    · skip
      subst w_2839
      subst w_2840
      exact absurd c_18 c_2825
    · skip
      subst w_2857
      subst w_2858
      exact absurd c_18 c_2846
    · skip
      subst w_2877
      subst w_2878
      exact absurd c_18 c_2864
    · skip
      subst w_2897
      subst w_2898
      exact absurd c_18 c_2884
    · skip
      subst w_2914
      subst w_2915
      exact absurd c_18 c_2904
    · skip
      subst w_2933
      subst w_2934
      exact absurd c_18 c_2921
    · skip
      subst w_2952
      subst w_2953
      exact absurd c_18 c_2940
    · skip
      subst w_2969
      subst w_2970
      exact absurd c_18 c_2959
    · skip
      subst w_2988
      subst w_2989
      exact absurd c_18 c_2976
    · skip
      subst w_3007
      subst w_3008
      exact absurd c_18 c_2995
    · skip
      subst w_3024
      subst w_3025
      exact absurd c_18 c_3014
    · skip
      subst w_3043
      subst w_3044
      exact absurd c_18 c_3031
    · skip
      subst w_3062
      subst w_3063
      exact absurd c_18 c_3050
    · skip
      subst w_3077
      subst w_3078
      exact absurd c_18 c_3069
    · skip
      subst w_3094
      subst w_3095
      exact absurd c_18 c_3084
    · skip
      subst w_3111
      subst w_3112
      exact absurd c_18 c_3101
    · skip
      subst w_3126
      subst w_3127
      exact absurd c_18 c_3118
    · skip
      subst w_3143
      subst w_3144
      exact absurd c_18 c_3133
    · skip
      subst w_3160
      subst w_3161
      exact absurd c_18 c_3150
    · skip
      subst w_3174
      subst w_3175
      exact absurd c_18 c_3167
    · skip
      subst w_3190
      subst w_3191
      exact absurd c_18 c_3181
    · skip
      subst w_3206
      subst w_3207
      exact absurd c_18 c_3197
    · skip
      subst w_3219
      subst w_3220
      exact absurd c_18 c_3213
    · skip
      subst w_3234
      subst w_3235
      exact absurd c_18 c_3226
    · skip
      subst w_3249
      subst w_3250
      exact absurd c_18 c_3241
    · skip
      subst w_3261
      subst w_3262
      exact absurd c_18 c_3256
    · skip
      subst w_3275
      subst w_3276
      exact absurd c_18 c_3268
    · skip
      subst w_3289
      subst w_3290
      exact absurd c_18 c_3282
  · skip
    subst w_26
    subst w_27
    obtain ⟨hP, hD⟩ := va_join (wr := [(m0, .inr (11, y0))]) (w1 := [(h0, .inr (10, [.ref x0, .int 0, .ref x1, .ref x2, .ref x3, .ref x4, .ref x5, .ref x6, .ref x7, .ref x8, .int 0, .int 3000])), (o0, .inl (kA 1, 1, .inr (.inl (fun _ => 0))))]) hP hD [0, 2] [1] rfl rfl (by decide) (by decide) hk1 hFc hP1 hD1
    generalize H1 = H at hP hS ⊢
    have hP : va_P D vwCl [(m0, .inr (11, y0)), (h0, .inr (10, [.ref x0, .int 0, .ref x1, .ref x2, .ref x3, .ref x4, .ref x5, .ref x6, .ref x7, .ref x8, .int 0, .int 3000])), (o0, .inl (kA 1, 1, .inr (.inl (fun _ => 0))))] H := hP
    have hD : va_D A [(m0, .inr (11, y0)), (h0, .inr (10, [.ref x0, .int 0, .ref x1, .ref x2, .ref x3, .ref x4, .ref x5, .ref x6, .ref x7, .ref x8, .int 0, .int 3000])), (o0, .inl (kA 1, 1, .inr (.inl (fun _ => 0))))] := hD
    refine lv_istore (lv' := [(5, .int 1), (0, .ref b), (1, .ref h0), (2, .ref m0), (3, .ref o0), (4, .int 0)]) hx hb dL_law_1531 hl (by decide) rfl (fun ls hl => ?_)
    refine lv_aload_n hx hb dL_law_1533 rfl (lv_at hl 3 rfl) ?_
    refine lv_aload_n hx hb dL_law_1534 rfl (lv_at hl 1 rfl) ?_
    refine lv_iload hx hb dL_law_1535 (lv_at hl 5 rfl) ?_
    refine lv_iconst (v := 1) hx hb dL_law_1537 (by decide) ?_
    refine lv_iadd hx hb dL_law_1538 ?_
    refine W.eq (g2 := F0 m 1539 ls [.int 1, .ref b, .ref m0]) rfl ?_
    refine va_sld hx hb hX hbl hbA hS (show vp_in 1 8 by unfold vp_in; decide) dL_law_1539 ?_
    refine W.eq (g2 := F0 m 1540 ls [.int (xs 1), .ref m0]) rfl ?_
    refine lv_aload_n hx hb dL_law_1540 rfl (lv_at hl 1 rfl) ?_
    refine lv_iload hx hb dL_law_1541 (lv_at hl 5 rfl) ?_
    refine lv_iconst (v := 2) hx hb dL_law_1543 (by decide) ?_
    refine lv_iadd hx hb dL_law_1544 ?_
    refine W.eq (g2 := F0 m 1545 ls [.int 2, .ref b, .int (xs 1), .ref m0]) rfl ?_
    refine va_sld hx hb hX hbl hbA hS (show vp_in 2 8 by unfold vp_in; decide) dL_law_1545 ?_
    refine W.eq (g2 := F0 m 1546 ls [.int (xs 2), .int (xs 1), .ref m0]) rfl ?_
    refine lv_aload_n hx hb dL_law_1546 rfl (lv_at hl 1 rfl) ?_
    refine lv_iload hx hb dL_law_1547 (lv_at hl 5 rfl) ?_
    refine lv_iconst (v := 3) hx hb dL_law_1549 (by decide) ?_
    refine lv_iadd hx hb dL_law_1550 ?_
    refine W.eq (g2 := F0 m 1551 ls [.int 3, .ref b, .int (xs 2), .int (xs 1), .ref m0]) rfl ?_
    refine va_sld hx hb hX hbl hbA hS (show vp_in 3 8 by unfold vp_in; decide) dL_law_1551 ?_
    refine W.eq (g2 := F0 m 1552 ls [.int (xs 3), .int (xs 2), .int (xs 1), .ref m0]) rfl ?_
    refine lv_aload_n hx hb dL_law_1552 rfl (lv_at hl 1 rfl) ?_
    refine lv_iload hx hb dL_law_1553 (lv_at hl 5 rfl) ?_
    refine lv_iconst (v := 4) hx hb dL_law_1555 (by decide) ?_
    refine lv_iadd hx hb dL_law_1556 ?_
    refine W.eq (g2 := F0 m 1557 ls [.int 4, .ref b, .int (xs 3), .int (xs 2), .int (xs 1), .ref m0]) rfl ?_
    refine va_sld hx hb hX hbl hbA hS (show vp_in 4 8 by unfold vp_in; decide) dL_law_1557 ?_
    refine W.eq (g2 := F0 m 1558 ls [.int (xs 4), .int (xs 3), .int (xs 2), .int (xs 1), .ref m0]) rfl ?_
    refine lv_i2l (v := (xs 4).toInt64) hx hb dL_law_1558 rfl ?_
    refine lv_bipush (v := 32) hx hb dL_law_1559 (by decide) ?_
    refine lv_lshl (v := ((xs 4).toInt64) <<< ((32 : Int32).toInt64 &&& 63)) hx hb dL_law_1561 rfl ?_
    refine lv_aload_n hx hb dL_law_1562 rfl (lv_at hl 1 rfl) ?_
    refine lv_iload hx hb dL_law_1563 (lv_at hl 5 rfl) ?_
    refine lv_iconst (v := 5) hx hb dL_law_1565 (by decide) ?_
    refine lv_iadd hx hb dL_law_1566 ?_
    refine W.eq (g2 := F0 m 1567 ls [.int 5, .ref b, .long (((xs 4).toInt64) <<< ((32 : Int32).toInt64 &&& 63)), .int (xs 3), .int (xs 2), .int (xs 1), .ref m0]) rfl ?_
    refine va_sld hx hb hX hbl hbA hS (show vp_in 5 8 by unfold vp_in; decide) dL_law_1567 ?_
    refine W.eq (g2 := F0 m 1568 ls [.int (xs 5), .long (((xs 4).toInt64) <<< ((32 : Int32).toInt64 &&& 63)), .int (xs 3), .int (xs 2), .int (xs 1), .ref m0]) rfl ?_
    refine lv_i2l (v := (xs 5).toInt64) hx hb dL_law_1568 rfl ?_
    refine lv_ldc2 (v := 4294967295) hx hb hown (hG _ gw_2764) dL_law_1569 ?_
    refine lv_land hx hb dL_law_1572 ?_
    refine lv_lor hx hb dL_law_1573 ?_
    refine lv_aload_n hx hb dL_law_1574 rfl (lv_at hl 1 rfl) ?_
    refine lv_iload hx hb dL_law_1575 (lv_at hl 5 rfl) ?_
    refine lv_bipush (v := 6) hx hb dL_law_1577 (by decide) ?_
    refine lv_iadd hx hb dL_law_1579 ?_
    refine W.eq (g2 := F0 m 1580 ls [.int 6, .ref b, .long ((((xs 4).toInt64) <<< ((32 : Int32).toInt64 &&& 63)) ||| (((xs 5).toInt64) &&& 4294967295)), .int (xs 3), .int (xs 2), .int (xs 1), .ref m0]) rfl ?_
    refine va_sld hx hb hX hbl hbA hS (show vp_in 6 8 by unfold vp_in; decide) dL_law_1580 ?_
    refine W.eq (g2 := F0 m 1581 ls [.int (xs 6), .long ((((xs 4).toInt64) <<< ((32 : Int32).toInt64 &&& 63)) ||| (((xs 5).toInt64) &&& 4294967295)), .int (xs 3), .int (xs 2), .int (xs 1), .ref m0]) rfl ?_
    refine lv_i2l (v := (xs 6).toInt64) hx hb dL_law_1581 rfl ?_
    refine lv_bipush (v := 32) hx hb dL_law_1582 (by decide) ?_
    refine lv_lshl (v := ((xs 6).toInt64) <<< ((32 : Int32).toInt64 &&& 63)) hx hb dL_law_1584 rfl ?_
    refine lv_aload_n hx hb dL_law_1585 rfl (lv_at hl 1 rfl) ?_
    refine lv_iload hx hb dL_law_1586 (lv_at hl 5 rfl) ?_
    refine lv_bipush (v := 7) hx hb dL_law_1588 (by decide) ?_
    refine lv_iadd hx hb dL_law_1590 ?_
    refine W.eq (g2 := F0 m 1591 ls [.int 7, .ref b, .long (((xs 6).toInt64) <<< ((32 : Int32).toInt64 &&& 63)), .long ((((xs 4).toInt64) <<< ((32 : Int32).toInt64 &&& 63)) ||| (((xs 5).toInt64) &&& 4294967295)), .int (xs 3), .int (xs 2), .int (xs 1), .ref m0]) rfl ?_
    refine va_sld hx hb hX hbl hbA hS (show vp_in 7 8 by unfold vp_in; decide) dL_law_1591 ?_
    refine W.eq (g2 := F0 m 1592 ls [.int (xs 7), .long (((xs 6).toInt64) <<< ((32 : Int32).toInt64 &&& 63)), .long ((((xs 4).toInt64) <<< ((32 : Int32).toInt64 &&& 63)) ||| (((xs 5).toInt64) &&& 4294967295)), .int (xs 3), .int (xs 2), .int (xs 1), .ref m0]) rfl ?_
    refine lv_i2l (v := (xs 7).toInt64) hx hb dL_law_1592 rfl ?_
    refine lv_ldc2 (v := 4294967295) hx hb hown (hG _ gw_2764) dL_law_1593 ?_
    refine lv_land hx hb dL_law_1596 ?_
    refine lv_lor hx hb dL_law_1597 ?_
    have hPc := hP.sub (ws' := [(m0, .inr (11, y0))]) [0] rfl
    have hDc := hD.sub (ws' := [(m0, .inr (11, y0))]) [0] (by decide) rfl
    have hFc := va_free (wc := [(m0, .inr (11, y0))]) hD hS hA [0] rfl
    refine va_calll (va_runV (As := [.int (xs 1), .int (xs 2), .int (xs 3), .long ((((xs 4).toInt64) <<< ((32 : Int32).toInt64 &&& 63)) ||| (((xs 5).toInt64) &&& 4294967295)), .long ((((xs 6).toInt64) <<< ((32 : Int32).toInt64 &&& 63)) ||| (((xs 7).toInt64) &&& 4294967295))]) (rest := []) ⟨hx, hb, hml, hown, hts⟩ (a153_X12_work l  D kA V H.size m0 (xs 1) (xs 2) (xs 3) ((((xs 4).toInt64) <<< ((32 : Int32).toInt64 &&& 63)) ||| (((xs 5).toInt64) &&& 4294967295)) ((((xs 6).toInt64) <<< ((32 : Int32).toInt64 &&& 63)) ||| (((xs 7).toInt64) &&& 4294967295)) y0 (fun k hk => (hq k hk)) hq9) (cwV 5 hts (gw_V gw_2756 gw_2757 gw_2758 gw_16 gw_2759) rfl rfl rfl (by decide +kernel) ⟨(Nat.le_of_ble_eq_true rfl), (Nat.le_of_ble_eq_true rfl)⟩) ⟨aP.blind, va_recv hK hP (ci := 11) (q0 := 0) rfl rfl, aP.pre hE hS hPc hK hDc hFc⟩ rfl rfl hl.1 rfl (lv_room (Nat.le_of_ble_eq_true rfl)) dL_law_1598 ⟨(Nat.le_of_ble_eq_true rfl), (Nat.le_of_ble_eq_true rfl)⟩) hS (fun q _ h => hFc q h) hFc (fun r_3303 u t H1 locs ht hvm hw hB hz1 hk1 hS => ?_)
    obtain ⟨u_3304, rfl⟩ : ∃ z, z = u := ⟨u, rfl⟩
    obtain ⟨hP1, hD1⟩ := hB
    rw [ht] at hP1
    try dsimp only at hw hP1 hD1
    rcases hw with ⟨c_3305, c_3306, w_3307, w_3308⟩ | ⟨c_3309, c_3310, c_3311, w_3312, w_3313⟩ | ⟨c_3314, c_3315, c_3316, c_3317, w_3318, w_3319⟩ | ⟨c_3320, c_3321, c_3322, c_3323, c_3324, w_3325, w_3326⟩ | ⟨c_3327, c_3328, c_3329, c_3330, c_3331, w_3332, w_3333⟩ | ⟨c_3334, c_3335, c_3336, w_3337, w_3338⟩ | ⟨c_3339, c_3340, c_3341, c_3342, w_3343, w_3344⟩ | ⟨c_3345, c_3346, c_3347, c_3348, c_3349, w_3350, w_3351⟩ | ⟨c_3352, c_3353, c_3354, c_3355, c_3356, c_3357, w_3358, w_3359⟩ | ⟨c_3360, c_3361, c_3362, c_3363, c_3364, c_3365, w_3366, w_3367⟩ | ⟨c_3368, c_3369, c_3370, w_3371, w_3372⟩ | ⟨c_3373, c_3374, c_3375, c_3376, w_3377, w_3378⟩ | ⟨c_3379, c_3380, c_3381, c_3382, c_3383, w_3384, w_3385⟩ | ⟨c_3386, c_3387, c_3388, c_3389, c_3390, c_3391, w_3392, w_3393⟩ | ⟨c_3394, c_3395, c_3396, c_3397, c_3398, c_3399, c_3400, c_3401, c_3402, c_3403, c_3404, c_3405, c_3406, c_3407, c_3408, c_3409, c_3410, c_3411, c_3412, w_3413, w_3414⟩ | ⟨c_3415, c_3416, c_3417, c_3418, c_3419, c_3420, c_3421, c_3422, c_3423, c_3424, c_3425, c_3426, c_3427, c_3428, c_3429, c_3430, c_3431, c_3432, c_3433, c_3434, w_3435, w_3436⟩ | ⟨c_3437, c_3438, c_3439, c_3440, c_3441, c_3442, c_3443, c_3444, c_3445, c_3446, c_3447, c_3448, c_3449, c_3450, c_3451, c_3452, c_3453, c_3454, c_3455, c_3456, c_3457, w_3458, w_3459⟩ | ⟨c_3460, c_3461, c_3462, c_3463, c_3464, c_3465, c_3466, c_3467, c_3468, c_3469, c_3470, c_3471, c_3472, c_3473, c_3474, c_3475, c_3476, c_3477, c_3478, c_3479, c_3480, w_3481, w_3482⟩ | ⟨c_3483, c_3484, c_3485, c_3486, c_3487, c_3488, c_3489, c_3490, c_3491, c_3492, c_3493, c_3494, c_3495, c_3496, c_3497, c_3498, c_3499, c_3500, c_3501, w_3502, w_3503⟩ | ⟨c_3504, c_3505, c_3506, c_3507, c_3508, c_3509, c_3510, c_3511, c_3512, c_3513, c_3514, c_3515, c_3516, c_3517, c_3518, c_3519, c_3520, c_3521, c_3522, c_3523, w_3524, w_3525⟩ | ⟨c_3526, c_3527, c_3528, c_3529, c_3530, c_3531, c_3532, c_3533, c_3534, c_3535, c_3536, c_3537, c_3538, c_3539, c_3540, c_3541, c_3542, c_3543, w_3544, w_3545⟩ | ⟨c_3546, c_3547, c_3548, c_3549, c_3550, c_3551, c_3552, c_3553, c_3554, c_3555, c_3556, c_3557, c_3558, c_3559, c_3560, c_3561, c_3562, c_3563, c_3564, w_3565, w_3566⟩ | ⟨c_3567, c_3568, c_3569, c_3570, c_3571, c_3572, c_3573, c_3574, c_3575, c_3576, c_3577, c_3578, c_3579, c_3580, c_3581, c_3582, c_3583, w_3584, w_3585⟩ | ⟨c_3586, c_3587, c_3588, c_3589, c_3590, c_3591, c_3592, c_3593, c_3594, c_3595, c_3596, c_3597, c_3598, c_3599, c_3600, c_3601, c_3602, c_3603, c_3604, w_3605, w_3606⟩ | ⟨c_3607, c_3608, c_3609, c_3610, c_3611, c_3612, c_3613, c_3614, c_3615, c_3616, c_3617, c_3618, c_3619, c_3620, c_3621, c_3622, c_3623, c_3624, c_3625, w_3626, w_3627⟩ | ⟨c_3628, c_3629, c_3630, c_3631, c_3632, c_3633, c_3634, c_3635, c_3636, c_3637, c_3638, c_3639, c_3640, c_3641, c_3642, c_3643, w_3644, w_3645⟩ | ⟨c_3646, c_3647, c_3648, c_3649, c_3650, c_3651, c_3652, c_3653, c_3654, c_3655, c_3656, c_3657, c_3658, c_3659, c_3660, c_3661, c_3662, c_3663, w_3664, w_3665⟩ | ⟨c_3666, c_3667, c_3668, c_3669, c_3670, c_3671, c_3672, c_3673, c_3674, c_3675, c_3676, c_3677, c_3678, c_3679, c_3680, c_3681, c_3682, c_3683, w_3684, w_3685⟩ | ⟨c_3686, c_3687, c_3688, c_3689, c_3690, c_3691, c_3692, c_3693, c_3694, c_3695, c_3696, c_3697, c_3698, c_3699, c_3700, w_3701, w_3702⟩ | ⟨c_3703, c_3704, c_3705, c_3706, c_3707, c_3708, c_3709, c_3710, c_3711, c_3712, c_3713, c_3714, c_3715, c_3716, c_3717, c_3718, c_3719, w_3720, w_3721⟩ | ⟨c_3722, c_3723, c_3724, c_3725, c_3726, c_3727, c_3728, c_3729, c_3730, c_3731, c_3732, c_3733, c_3734, c_3735, c_3736, c_3737, c_3738, w_3739, w_3740⟩ | ⟨c_3741, c_3742, c_3743, c_3744, c_3745, c_3746, c_3747, c_3748, c_3749, c_3750, c_3751, c_3752, c_3753, c_3754, c_3755, w_3756, w_3757⟩ | ⟨c_3758, c_3759, c_3760, c_3761, c_3762, c_3763, c_3764, c_3765, c_3766, c_3767, c_3768, c_3769, c_3770, c_3771, c_3772, c_3773, c_3774, w_3775, w_3776⟩ | ⟨c_3777, c_3778, c_3779, c_3780, c_3781, c_3782, c_3783, c_3784, c_3785, c_3786, c_3787, c_3788, c_3789, c_3790, c_3791, c_3792, c_3793, w_3794, w_3795⟩ | ⟨c_3796, c_3797, c_3798, c_3799, c_3800, c_3801, c_3802, c_3803, c_3804, c_3805, c_3806, c_3807, c_3808, c_3809, c_3810, w_3811, w_3812⟩ | ⟨c_3813, c_3814, c_3815, c_3816, c_3817, c_3818, c_3819, c_3820, c_3821, c_3822, c_3823, c_3824, c_3825, c_3826, c_3827, c_3828, c_3829, w_3830, w_3831⟩ | ⟨c_3832, c_3833, c_3834, c_3835, c_3836, c_3837, c_3838, c_3839, c_3840, c_3841, c_3842, c_3843, c_3844, c_3845, c_3846, c_3847, c_3848, w_3849, w_3850⟩ | ⟨c_3851, c_3852, c_3853, c_3854, c_3855, c_3856, c_3857, c_3858, c_3859, c_3860, c_3861, c_3862, c_3863, w_3864, w_3865⟩ | ⟨c_3866, c_3867, c_3868, c_3869, c_3870, c_3871, c_3872, c_3873, c_3874, c_3875, c_3876, c_3877, c_3878, c_3879, c_3880, w_3881, w_3882⟩ | ⟨c_3883, c_3884, c_3885, c_3886, c_3887, c_3888, c_3889, c_3890, c_3891, c_3892, c_3893, c_3894, c_3895, c_3896, c_3897, w_3898, w_3899⟩ | ⟨c_3900, c_3901, c_3902, c_3903, c_3904, c_3905, c_3906, c_3907, c_3908, c_3909, c_3910, c_3911, c_3912, w_3913, w_3914⟩ | ⟨c_3915, c_3916, c_3917, c_3918, c_3919, c_3920, c_3921, c_3922, c_3923, c_3924, c_3925, c_3926, c_3927, c_3928, c_3929, w_3930, w_3931⟩ | ⟨c_3932, c_3933, c_3934, c_3935, c_3936, c_3937, c_3938, c_3939, c_3940, c_3941, c_3942, c_3943, c_3944, c_3945, c_3946, w_3947, w_3948⟩ | ⟨c_3949, c_3950, c_3951, c_3952, c_3953, c_3954, c_3955, c_3956, c_3957, c_3958, c_3959, c_3960, w_3961, w_3962⟩ | ⟨c_3963, c_3964, c_3965, c_3966, c_3967, c_3968, c_3969, c_3970, c_3971, c_3972, c_3973, c_3974, c_3975, c_3976, w_3977, w_3978⟩ | ⟨c_3979, c_3980, c_3981, c_3982, c_3983, c_3984, c_3985, c_3986, c_3987, c_3988, c_3989, c_3990, c_3991, c_3992, w_3993, w_3994⟩ | ⟨c_3995, c_3996, c_3997, c_3998, c_3999, c_4000, c_4001, c_4002, c_4003, c_4004, c_4005, w_4006, w_4007⟩ | ⟨c_4008, c_4009, c_4010, c_4011, c_4012, c_4013, c_4014, c_4015, c_4016, c_4017, c_4018, c_4019, c_4020, w_4021, w_4022⟩ | ⟨c_4023, c_4024, c_4025, c_4026, c_4027, c_4028, c_4029, c_4030, c_4031, c_4032, c_4033, c_4034, c_4035, w_4036, w_4037⟩ | ⟨c_4038, c_4039, c_4040, c_4041, c_4042, c_4043, c_4044, c_4045, c_4046, c_4047, w_4048, w_4049⟩ | ⟨c_4050, c_4051, c_4052, c_4053, c_4054, c_4055, c_4056, c_4057, c_4058, c_4059, c_4060, c_4061, w_4062, w_4063⟩ | ⟨c_4064, c_4065, c_4066, c_4067, c_4068, c_4069, c_4070, c_4071, c_4072, c_4073, c_4074, c_4075, w_4076, w_4077⟩
    · skip
      subst w_3307
      subst w_3308
      exact absurd c_3306 c_21
    · skip
      subst w_3312
      subst w_3313
      exact absurd c_3311 c_22
    · skip
      subst w_3318
      subst w_3319
      exact absurd c_3317 c_23
    · skip
      subst w_3325
      subst w_3326
      exact absurd c_3324 c_24
    · skip
      subst w_3332
      subst w_3333
      obtain ⟨hP, hD⟩ := va_join (wr := [(h0, .inr (10, [.ref x0, .int 0, .ref x1, .ref x2, .ref x3, .ref x4, .ref x5, .ref x6, .ref x7, .ref x8, .int 0, .int 3000])), (o0, .inl (kA 1, 1, .inr (.inl (fun _ => 0))))]) (w1 := [(m0, .inr (11, y0.set 9 (.int 1)))]) hP hD [0] [1, 2] rfl rfl (by decide) (by decide) hk1 hFc hP1 hD1
      generalize H1 = H at hP hS ⊢
      have hP : va_P D vwCl [(h0, .inr (10, [.ref x0, .int 0, .ref x1, .ref x2, .ref x3, .ref x4, .ref x5, .ref x6, .ref x7, .ref x8, .int 0, .int 3000])), (o0, .inl (kA 1, 1, .inr (.inl (fun _ => 0)))), (m0, .inr (11, y0.set 9 (.int 1)))] H := hP
      have hD : va_D A [(h0, .inr (10, [.ref x0, .int 0, .ref x1, .ref x2, .ref x3, .ref x4, .ref x5, .ref x6, .ref x7, .ref x8, .int 0, .int 3000])), (o0, .inl (kA 1, 1, .inr (.inl (fun _ => 0)))), (m0, .inr (11, y0.set 9 (.int 1)))] := hD
      refine lv_lstore (lv' := [(6, .long 0), (5, .int 1), (0, .ref b), (1, .ref h0), (2, .ref m0), (3, .ref o0), (4, .int 0)]) hx hb dL_law_1601 hl (by decide) rfl (fun ls hl => ?_)
      refine lv_aload_n hx hb dL_law_1603 rfl (lv_at hl 4 rfl) ?_
      have hPc := hP.sub (ws' := [(m0, .inr (11, y0.set 9 (.int 1)))]) [2] rfl
      have hDc := hD.sub (ws' := [(m0, .inr (11, y0.set 9 (.int 1)))]) [2] (by decide) rfl
      have hFc := va_free (wc := [(m0, .inr (11, y0.set 9 (.int 1)))]) hD hS hA [2] rfl
      refine va_calli (va_runV (As := []) (rest := []) ⟨hx, hb, hml, hown, hts⟩ (a174_X12_thrown l  D kA V H.size m0 (y0.set 9 (.int 1)) (fun k hk => (by rw [List.length_set]; exact (hq k hk))) (List.getElem?_set_self (hq 9 (by decide)))) (cwV 0 hts (gw_V gw_1879 gw_1880 gw_1881 gw_16 gw_1882) rfl rfl rfl (by decide +kernel) ⟨(Nat.le_of_ble_eq_true rfl), (Nat.le_of_ble_eq_true rfl)⟩) ⟨aP.blind, va_recv hK hP (ci := 11) (q0 := 2) rfl rfl, aP.pre hE hS hPc hK hDc hFc⟩ rfl rfl hl.1 rfl (lv_room (Nat.le_of_ble_eq_true rfl)) dL_law_1604 ⟨(Nat.le_of_ble_eq_true rfl), (Nat.le_of_ble_eq_true rfl)⟩) hS (fun q _ h => hFc q h) hFc (fun r_4078 u t H1 locs ht hvm hw hB hz1 hk1 hS => ?_)
      obtain ⟨hP1, hD1⟩ := hB
      rw [ht] at hP1
      try dsimp only at hw hP1 hD1
      have w_4079 := hw
      subst w_4079
      obtain ⟨hP, hD⟩ := va_join (wr := [(h0, .inr (10, [.ref x0, .int 0, .ref x1, .ref x2, .ref x3, .ref x4, .ref x5, .ref x6, .ref x7, .ref x8, .int 0, .int 3000])), (o0, .inl (kA 1, 1, .inr (.inl (fun _ => 0))))]) (w1 := [(m0, .inr (11, (y0.set 9 (.int 1))))]) hP hD [2] [0, 1] rfl rfl (by decide) (by decide) hk1 hFc hP1 hD1
      generalize H1 = H at hP hS ⊢
      have hP : va_P D vwCl [(h0, .inr (10, [.ref x0, .int 0, .ref x1, .ref x2, .ref x3, .ref x4, .ref x5, .ref x6, .ref x7, .ref x8, .int 0, .int 3000])), (o0, .inl (kA 1, 1, .inr (.inl (fun _ => 0)))), (m0, .inr (11, (y0.set 9 (.int 1))))] H := hP
      have hD : va_D A [(h0, .inr (10, [.ref x0, .int 0, .ref x1, .ref x2, .ref x3, .ref x4, .ref x5, .ref x6, .ref x7, .ref x8, .int 0, .int 3000])), (o0, .inl (kA 1, 1, .inr (.inl (fun _ => 0)))), (m0, .inr (11, (y0.set 9 (.int 1))))] := hD
      refine lv_iload hx hb dL_law_1607 (lv_at hl 1 rfl) ?_
      refine lv_icmp_eq (tgt := 1614) hx hb dL_law_1609 (by decide) (fun c_4080 => ?_) (fun c_4080 => ?_)
      · skip
        refine lv_iload hx hb dL_law_1614 (lv_at hl 1 rfl) ?_
        refine lv_if_ne (tgt := 1630) hx hb dL_law_1616 (by decide) (fun c_4081 => ?_) (fun c_4081 => ?_)
        · skip
          refine lv_goto (tgt := 1804) hx hb dL_law_1630 (by decide) ?_
          exact lk_tail hC hA2 (lv_sub hl [2, 6] rfl) hS (Nat.le_of_ble_eq_true rfl) (Nat.le_of_ble_eq_true rfl)
        · exact absurd c_4081 (by decide)
      · exact absurd (by decide) c_4080
    · skip
      subst w_3337
      subst w_3338
      exact absurd c_25 c_3334
    · skip
      subst w_3343
      subst w_3344
      exact absurd c_25 c_3339
    · skip
      subst w_3350
      subst w_3351
      exact absurd c_25 c_3345
    · skip
      subst w_3358
      subst w_3359
      exact absurd c_25 c_3352
    · skip
      subst w_3366
      subst w_3367
      exact absurd c_25 c_3360
    · skip
      subst w_3371
      subst w_3372
      exact absurd c_25 c_3368
    · skip
      subst w_3377
      subst w_3378
      exact absurd c_25 c_3373
    · skip
      subst w_3384
      subst w_3385
      exact absurd c_25 c_3379
    · skip
      subst w_3392
      subst w_3393
      exact absurd c_25 c_3386
    · skip
      subst w_3413
      subst w_3414
      exact absurd c_25 c_3394
    · skip
      subst w_3435
      subst w_3436
      exact absurd c_25 c_3415
    · skip
      subst w_3458
      subst w_3459
      exact absurd c_25 c_3437
    · skip
      subst w_3481
      subst w_3482
      exact absurd c_25 c_3460
    · skip
      subst w_3502
      subst w_3503
      exact absurd c_25 c_3483
    · skip
      subst w_3524
      subst w_3525
      exact absurd c_25 c_3504
    · skip
      subst w_3544
      subst w_3545
      exact absurd c_25 c_3526
    · skip
      subst w_3565
      subst w_3566
      exact absurd c_25 c_3546
    · skip
      subst w_3584
      subst w_3585
      exact absurd c_25 c_3567
    · skip
      subst w_3605
      subst w_3606
      exact absurd c_25 c_3586
    · skip
      subst w_3626
      subst w_3627
      exact absurd c_25 c_3607
    · skip
      subst w_3644
      subst w_3645
      exact absurd c_25 c_3628
    · skip
      subst w_3664
      subst w_3665
      exact absurd c_25 c_3646
    · skip
      subst w_3684
      subst w_3685
      exact absurd c_25 c_3666
    · skip
      subst w_3701
      subst w_3702
      exact absurd c_25 c_3686
    · skip
      subst w_3720
      subst w_3721
      exact absurd c_25 c_3703
    · skip
      subst w_3739
      subst w_3740
      exact absurd c_25 c_3722
    · skip
      subst w_3756
      subst w_3757
      exact absurd c_25 c_3741
    · skip
      subst w_3775
      subst w_3776
      exact absurd c_25 c_3758
    · skip
      subst w_3794
      subst w_3795
      exact absurd c_25 c_3777
    · skip
      subst w_3811
      subst w_3812
      exact absurd c_25 c_3796
    · skip
      subst w_3830
      subst w_3831
      exact absurd c_25 c_3813
    · skip
      subst w_3849
      subst w_3850
      exact absurd c_25 c_3832
    · skip
      subst w_3864
      subst w_3865
      exact absurd c_25 c_3851
    · skip
      subst w_3881
      subst w_3882
      exact absurd c_25 c_3866
    · skip
      subst w_3898
      subst w_3899
      exact absurd c_25 c_3883
    · skip
      subst w_3913
      subst w_3914
      exact absurd c_25 c_3900
    · skip
      subst w_3930
      subst w_3931
      exact absurd c_25 c_3915
    · skip
      subst w_3947
      subst w_3948
      exact absurd c_25 c_3932
    · skip
      subst w_3961
      subst w_3962
      exact absurd c_25 c_3949
    · skip
      subst w_3977
      subst w_3978
      exact absurd c_25 c_3963
    · skip
      subst w_3993
      subst w_3994
      exact absurd c_25 c_3979
    · skip
      subst w_4006
      subst w_4007
      exact absurd c_25 c_3995
    · skip
      subst w_4021
      subst w_4022
      exact absurd c_25 c_4008
    · skip
      subst w_4036
      subst w_4037
      exact absurd c_25 c_4023
    · skip
      subst w_4048
      subst w_4049
      exact absurd c_25 c_4038
    · skip
      subst w_4062
      subst w_4063
      exact absurd c_25 c_4050
    · skip
      subst w_4076
      subst w_4077
      exact absurd c_25 c_4064
  · skip
    subst w_36
    subst w_37
    obtain ⟨hP, hD⟩ := va_join (wr := [(m0, .inr (11, y0))]) (w1 := [(h0, .inr (10, [.ref x0, .int 0, .ref x1, .ref x2, .ref x3, .ref x4, .ref x5, .ref x6, .ref x7, .ref x8, .int 0, .int 3000])), (o0, .inl (kA 1, 1, .inr (.inl (fun _ => 0))))]) hP hD [0, 2] [1] rfl rfl (by decide) (by decide) hk1 hFc hP1 hD1
    generalize H1 = H at hP hS ⊢
    have hP : va_P D vwCl [(m0, .inr (11, y0)), (h0, .inr (10, [.ref x0, .int 0, .ref x1, .ref x2, .ref x3, .ref x4, .ref x5, .ref x6, .ref x7, .ref x8, .int 0, .int 3000])), (o0, .inl (kA 1, 1, .inr (.inl (fun _ => 0))))] H := hP
    have hD : va_D A [(m0, .inr (11, y0)), (h0, .inr (10, [.ref x0, .int 0, .ref x1, .ref x2, .ref x3, .ref x4, .ref x5, .ref x6, .ref x7, .ref x8, .int 0, .int 3000])), (o0, .inl (kA 1, 1, .inr (.inl (fun _ => 0))))] := hD
    refine lv_istore (lv' := [(5, .int 2), (0, .ref b), (1, .ref h0), (2, .ref m0), (3, .ref o0), (4, .int 0)]) hx hb dL_law_1531 hl (by decide) rfl (fun ls hl => ?_)
    refine lv_aload_n hx hb dL_law_1533 rfl (lv_at hl 3 rfl) ?_
    refine lv_aload_n hx hb dL_law_1534 rfl (lv_at hl 1 rfl) ?_
    refine lv_iload hx hb dL_law_1535 (lv_at hl 5 rfl) ?_
    refine lv_iconst (v := 1) hx hb dL_law_1537 (by decide) ?_
    refine lv_iadd hx hb dL_law_1538 ?_
    refine W.eq (g2 := F0 m 1539 ls [.int 1, .ref b, .ref m0]) rfl ?_
    refine va_sld hx hb hX hbl hbA hS (show vp_in 1 8 by unfold vp_in; decide) dL_law_1539 ?_
    refine W.eq (g2 := F0 m 1540 ls [.int (xs 1), .ref m0]) rfl ?_
    refine lv_aload_n hx hb dL_law_1540 rfl (lv_at hl 1 rfl) ?_
    refine lv_iload hx hb dL_law_1541 (lv_at hl 5 rfl) ?_
    refine lv_iconst (v := 2) hx hb dL_law_1543 (by decide) ?_
    refine lv_iadd hx hb dL_law_1544 ?_
    refine W.eq (g2 := F0 m 1545 ls [.int 2, .ref b, .int (xs 1), .ref m0]) rfl ?_
    refine va_sld hx hb hX hbl hbA hS (show vp_in 2 8 by unfold vp_in; decide) dL_law_1545 ?_
    refine W.eq (g2 := F0 m 1546 ls [.int (xs 2), .int (xs 1), .ref m0]) rfl ?_
    refine lv_aload_n hx hb dL_law_1546 rfl (lv_at hl 1 rfl) ?_
    refine lv_iload hx hb dL_law_1547 (lv_at hl 5 rfl) ?_
    refine lv_iconst (v := 3) hx hb dL_law_1549 (by decide) ?_
    refine lv_iadd hx hb dL_law_1550 ?_
    refine W.eq (g2 := F0 m 1551 ls [.int 3, .ref b, .int (xs 2), .int (xs 1), .ref m0]) rfl ?_
    refine va_sld hx hb hX hbl hbA hS (show vp_in 3 8 by unfold vp_in; decide) dL_law_1551 ?_
    refine W.eq (g2 := F0 m 1552 ls [.int (xs 3), .int (xs 2), .int (xs 1), .ref m0]) rfl ?_
    refine lv_aload_n hx hb dL_law_1552 rfl (lv_at hl 1 rfl) ?_
    refine lv_iload hx hb dL_law_1553 (lv_at hl 5 rfl) ?_
    refine lv_iconst (v := 4) hx hb dL_law_1555 (by decide) ?_
    refine lv_iadd hx hb dL_law_1556 ?_
    refine W.eq (g2 := F0 m 1557 ls [.int 4, .ref b, .int (xs 3), .int (xs 2), .int (xs 1), .ref m0]) rfl ?_
    refine va_sld hx hb hX hbl hbA hS (show vp_in 4 8 by unfold vp_in; decide) dL_law_1557 ?_
    refine W.eq (g2 := F0 m 1558 ls [.int (xs 4), .int (xs 3), .int (xs 2), .int (xs 1), .ref m0]) rfl ?_
    refine lv_i2l (v := (xs 4).toInt64) hx hb dL_law_1558 rfl ?_
    refine lv_bipush (v := 32) hx hb dL_law_1559 (by decide) ?_
    refine lv_lshl (v := ((xs 4).toInt64) <<< ((32 : Int32).toInt64 &&& 63)) hx hb dL_law_1561 rfl ?_
    refine lv_aload_n hx hb dL_law_1562 rfl (lv_at hl 1 rfl) ?_
    refine lv_iload hx hb dL_law_1563 (lv_at hl 5 rfl) ?_
    refine lv_iconst (v := 5) hx hb dL_law_1565 (by decide) ?_
    refine lv_iadd hx hb dL_law_1566 ?_
    refine W.eq (g2 := F0 m 1567 ls [.int 5, .ref b, .long (((xs 4).toInt64) <<< ((32 : Int32).toInt64 &&& 63)), .int (xs 3), .int (xs 2), .int (xs 1), .ref m0]) rfl ?_
    refine va_sld hx hb hX hbl hbA hS (show vp_in 5 8 by unfold vp_in; decide) dL_law_1567 ?_
    refine W.eq (g2 := F0 m 1568 ls [.int (xs 5), .long (((xs 4).toInt64) <<< ((32 : Int32).toInt64 &&& 63)), .int (xs 3), .int (xs 2), .int (xs 1), .ref m0]) rfl ?_
    refine lv_i2l (v := (xs 5).toInt64) hx hb dL_law_1568 rfl ?_
    refine lv_ldc2 (v := 4294967295) hx hb hown (hG _ gw_2764) dL_law_1569 ?_
    refine lv_land hx hb dL_law_1572 ?_
    refine lv_lor hx hb dL_law_1573 ?_
    refine lv_aload_n hx hb dL_law_1574 rfl (lv_at hl 1 rfl) ?_
    refine lv_iload hx hb dL_law_1575 (lv_at hl 5 rfl) ?_
    refine lv_bipush (v := 6) hx hb dL_law_1577 (by decide) ?_
    refine lv_iadd hx hb dL_law_1579 ?_
    refine W.eq (g2 := F0 m 1580 ls [.int 6, .ref b, .long ((((xs 4).toInt64) <<< ((32 : Int32).toInt64 &&& 63)) ||| (((xs 5).toInt64) &&& 4294967295)), .int (xs 3), .int (xs 2), .int (xs 1), .ref m0]) rfl ?_
    refine va_sld hx hb hX hbl hbA hS (show vp_in 6 8 by unfold vp_in; decide) dL_law_1580 ?_
    refine W.eq (g2 := F0 m 1581 ls [.int (xs 6), .long ((((xs 4).toInt64) <<< ((32 : Int32).toInt64 &&& 63)) ||| (((xs 5).toInt64) &&& 4294967295)), .int (xs 3), .int (xs 2), .int (xs 1), .ref m0]) rfl ?_
    refine lv_i2l (v := (xs 6).toInt64) hx hb dL_law_1581 rfl ?_
    refine lv_bipush (v := 32) hx hb dL_law_1582 (by decide) ?_
    refine lv_lshl (v := ((xs 6).toInt64) <<< ((32 : Int32).toInt64 &&& 63)) hx hb dL_law_1584 rfl ?_
    refine lv_aload_n hx hb dL_law_1585 rfl (lv_at hl 1 rfl) ?_
    refine lv_iload hx hb dL_law_1586 (lv_at hl 5 rfl) ?_
    refine lv_bipush (v := 7) hx hb dL_law_1588 (by decide) ?_
    refine lv_iadd hx hb dL_law_1590 ?_
    refine W.eq (g2 := F0 m 1591 ls [.int 7, .ref b, .long (((xs 6).toInt64) <<< ((32 : Int32).toInt64 &&& 63)), .long ((((xs 4).toInt64) <<< ((32 : Int32).toInt64 &&& 63)) ||| (((xs 5).toInt64) &&& 4294967295)), .int (xs 3), .int (xs 2), .int (xs 1), .ref m0]) rfl ?_
    refine va_sld hx hb hX hbl hbA hS (show vp_in 7 8 by unfold vp_in; decide) dL_law_1591 ?_
    refine W.eq (g2 := F0 m 1592 ls [.int (xs 7), .long (((xs 6).toInt64) <<< ((32 : Int32).toInt64 &&& 63)), .long ((((xs 4).toInt64) <<< ((32 : Int32).toInt64 &&& 63)) ||| (((xs 5).toInt64) &&& 4294967295)), .int (xs 3), .int (xs 2), .int (xs 1), .ref m0]) rfl ?_
    refine lv_i2l (v := (xs 7).toInt64) hx hb dL_law_1592 rfl ?_
    refine lv_ldc2 (v := 4294967295) hx hb hown (hG _ gw_2764) dL_law_1593 ?_
    refine lv_land hx hb dL_law_1596 ?_
    refine lv_lor hx hb dL_law_1597 ?_
    have hPc := hP.sub (ws' := [(m0, .inr (11, y0))]) [0] rfl
    have hDc := hD.sub (ws' := [(m0, .inr (11, y0))]) [0] (by decide) rfl
    have hFc := va_free (wc := [(m0, .inr (11, y0))]) hD hS hA [0] rfl
    refine va_calll (va_runV (As := [.int (xs 1), .int (xs 2), .int (xs 3), .long ((((xs 4).toInt64) <<< ((32 : Int32).toInt64 &&& 63)) ||| (((xs 5).toInt64) &&& 4294967295)), .long ((((xs 6).toInt64) <<< ((32 : Int32).toInt64 &&& 63)) ||| (((xs 7).toInt64) &&& 4294967295))]) (rest := []) ⟨hx, hb, hml, hown, hts⟩ (a153_X12_work l  D kA V H.size m0 (xs 1) (xs 2) (xs 3) ((((xs 4).toInt64) <<< ((32 : Int32).toInt64 &&& 63)) ||| (((xs 5).toInt64) &&& 4294967295)) ((((xs 6).toInt64) <<< ((32 : Int32).toInt64 &&& 63)) ||| (((xs 7).toInt64) &&& 4294967295)) y0 (fun k hk => (hq k hk)) hq9) (cwV 5 hts (gw_V gw_2756 gw_2757 gw_2758 gw_16 gw_2759) rfl rfl rfl (by decide +kernel) ⟨(Nat.le_of_ble_eq_true rfl), (Nat.le_of_ble_eq_true rfl)⟩) ⟨aP.blind, va_recv hK hP (ci := 11) (q0 := 0) rfl rfl, aP.pre hE hS hPc hK hDc hFc⟩ rfl rfl hl.1 rfl (lv_room (Nat.le_of_ble_eq_true rfl)) dL_law_1598 ⟨(Nat.le_of_ble_eq_true rfl), (Nat.le_of_ble_eq_true rfl)⟩) hS (fun q _ h => hFc q h) hFc (fun r_4082 u t H1 locs ht hvm hw hB hz1 hk1 hS => ?_)
    obtain ⟨u_4083, rfl⟩ : ∃ z, z = u := ⟨u, rfl⟩
    obtain ⟨hP1, hD1⟩ := hB
    rw [ht] at hP1
    try dsimp only at hw hP1 hD1
    rcases hw with ⟨c_4084, c_4085, w_4086, w_4087⟩ | ⟨c_4088, c_4089, c_4090, w_4091, w_4092⟩ | ⟨c_4093, c_4094, c_4095, c_4096, w_4097, w_4098⟩ | ⟨c_4099, c_4100, c_4101, c_4102, c_4103, w_4104, w_4105⟩ | ⟨c_4106, c_4107, c_4108, c_4109, c_4110, w_4111, w_4112⟩ | ⟨c_4113, c_4114, c_4115, w_4116, w_4117⟩ | ⟨c_4118, c_4119, c_4120, c_4121, w_4122, w_4123⟩ | ⟨c_4124, c_4125, c_4126, c_4127, c_4128, w_4129, w_4130⟩ | ⟨c_4131, c_4132, c_4133, c_4134, c_4135, c_4136, w_4137, w_4138⟩ | ⟨c_4139, c_4140, c_4141, c_4142, c_4143, c_4144, w_4145, w_4146⟩ | ⟨c_4147, c_4148, c_4149, w_4150, w_4151⟩ | ⟨c_4152, c_4153, c_4154, c_4155, w_4156, w_4157⟩ | ⟨c_4158, c_4159, c_4160, c_4161, c_4162, w_4163, w_4164⟩ | ⟨c_4165, c_4166, c_4167, c_4168, c_4169, c_4170, w_4171, w_4172⟩ | ⟨c_4173, c_4174, c_4175, c_4176, c_4177, c_4178, c_4179, c_4180, c_4181, c_4182, c_4183, c_4184, c_4185, c_4186, c_4187, c_4188, c_4189, c_4190, c_4191, w_4192, w_4193⟩ | ⟨c_4194, c_4195, c_4196, c_4197, c_4198, c_4199, c_4200, c_4201, c_4202, c_4203, c_4204, c_4205, c_4206, c_4207, c_4208, c_4209, c_4210, c_4211, c_4212, c_4213, w_4214, w_4215⟩ | ⟨c_4216, c_4217, c_4218, c_4219, c_4220, c_4221, c_4222, c_4223, c_4224, c_4225, c_4226, c_4227, c_4228, c_4229, c_4230, c_4231, c_4232, c_4233, c_4234, c_4235, c_4236, w_4237, w_4238⟩ | ⟨c_4239, c_4240, c_4241, c_4242, c_4243, c_4244, c_4245, c_4246, c_4247, c_4248, c_4249, c_4250, c_4251, c_4252, c_4253, c_4254, c_4255, c_4256, c_4257, c_4258, c_4259, w_4260, w_4261⟩ | ⟨c_4262, c_4263, c_4264, c_4265, c_4266, c_4267, c_4268, c_4269, c_4270, c_4271, c_4272, c_4273, c_4274, c_4275, c_4276, c_4277, c_4278, c_4279, c_4280, w_4281, w_4282⟩ | ⟨c_4283, c_4284, c_4285, c_4286, c_4287, c_4288, c_4289, c_4290, c_4291, c_4292, c_4293, c_4294, c_4295, c_4296, c_4297, c_4298, c_4299, c_4300, c_4301, c_4302, w_4303, w_4304⟩ | ⟨c_4305, c_4306, c_4307, c_4308, c_4309, c_4310, c_4311, c_4312, c_4313, c_4314, c_4315, c_4316, c_4317, c_4318, c_4319, c_4320, c_4321, c_4322, w_4323, w_4324⟩ | ⟨c_4325, c_4326, c_4327, c_4328, c_4329, c_4330, c_4331, c_4332, c_4333, c_4334, c_4335, c_4336, c_4337, c_4338, c_4339, c_4340, c_4341, c_4342, c_4343, w_4344, w_4345⟩ | ⟨c_4346, c_4347, c_4348, c_4349, c_4350, c_4351, c_4352, c_4353, c_4354, c_4355, c_4356, c_4357, c_4358, c_4359, c_4360, c_4361, c_4362, w_4363, w_4364⟩ | ⟨c_4365, c_4366, c_4367, c_4368, c_4369, c_4370, c_4371, c_4372, c_4373, c_4374, c_4375, c_4376, c_4377, c_4378, c_4379, c_4380, c_4381, c_4382, c_4383, w_4384, w_4385⟩ | ⟨c_4386, c_4387, c_4388, c_4389, c_4390, c_4391, c_4392, c_4393, c_4394, c_4395, c_4396, c_4397, c_4398, c_4399, c_4400, c_4401, c_4402, c_4403, c_4404, w_4405, w_4406⟩ | ⟨c_4407, c_4408, c_4409, c_4410, c_4411, c_4412, c_4413, c_4414, c_4415, c_4416, c_4417, c_4418, c_4419, c_4420, c_4421, c_4422, w_4423, w_4424⟩ | ⟨c_4425, c_4426, c_4427, c_4428, c_4429, c_4430, c_4431, c_4432, c_4433, c_4434, c_4435, c_4436, c_4437, c_4438, c_4439, c_4440, c_4441, c_4442, w_4443, w_4444⟩ | ⟨c_4445, c_4446, c_4447, c_4448, c_4449, c_4450, c_4451, c_4452, c_4453, c_4454, c_4455, c_4456, c_4457, c_4458, c_4459, c_4460, c_4461, c_4462, w_4463, w_4464⟩ | ⟨c_4465, c_4466, c_4467, c_4468, c_4469, c_4470, c_4471, c_4472, c_4473, c_4474, c_4475, c_4476, c_4477, c_4478, c_4479, w_4480, w_4481⟩ | ⟨c_4482, c_4483, c_4484, c_4485, c_4486, c_4487, c_4488, c_4489, c_4490, c_4491, c_4492, c_4493, c_4494, c_4495, c_4496, c_4497, c_4498, w_4499, w_4500⟩ | ⟨c_4501, c_4502, c_4503, c_4504, c_4505, c_4506, c_4507, c_4508, c_4509, c_4510, c_4511, c_4512, c_4513, c_4514, c_4515, c_4516, c_4517, w_4518, w_4519⟩ | ⟨c_4520, c_4521, c_4522, c_4523, c_4524, c_4525, c_4526, c_4527, c_4528, c_4529, c_4530, c_4531, c_4532, c_4533, c_4534, w_4535, w_4536⟩ | ⟨c_4537, c_4538, c_4539, c_4540, c_4541, c_4542, c_4543, c_4544, c_4545, c_4546, c_4547, c_4548, c_4549, c_4550, c_4551, c_4552, c_4553, w_4554, w_4555⟩ | ⟨c_4556, c_4557, c_4558, c_4559, c_4560, c_4561, c_4562, c_4563, c_4564, c_4565, c_4566, c_4567, c_4568, c_4569, c_4570, c_4571, c_4572, w_4573, w_4574⟩ | ⟨c_4575, c_4576, c_4577, c_4578, c_4579, c_4580, c_4581, c_4582, c_4583, c_4584, c_4585, c_4586, c_4587, c_4588, c_4589, w_4590, w_4591⟩ | ⟨c_4592, c_4593, c_4594, c_4595, c_4596, c_4597, c_4598, c_4599, c_4600, c_4601, c_4602, c_4603, c_4604, c_4605, c_4606, c_4607, c_4608, w_4609, w_4610⟩ | ⟨c_4611, c_4612, c_4613, c_4614, c_4615, c_4616, c_4617, c_4618, c_4619, c_4620, c_4621, c_4622, c_4623, c_4624, c_4625, c_4626, c_4627, w_4628, w_4629⟩ | ⟨c_4630, c_4631, c_4632, c_4633, c_4634, c_4635, c_4636, c_4637, c_4638, c_4639, c_4640, c_4641, c_4642, w_4643, w_4644⟩ | ⟨c_4645, c_4646, c_4647, c_4648, c_4649, c_4650, c_4651, c_4652, c_4653, c_4654, c_4655, c_4656, c_4657, c_4658, c_4659, w_4660, w_4661⟩ | ⟨c_4662, c_4663, c_4664, c_4665, c_4666, c_4667, c_4668, c_4669, c_4670, c_4671, c_4672, c_4673, c_4674, c_4675, c_4676, w_4677, w_4678⟩ | ⟨c_4679, c_4680, c_4681, c_4682, c_4683, c_4684, c_4685, c_4686, c_4687, c_4688, c_4689, c_4690, c_4691, w_4692, w_4693⟩ | ⟨c_4694, c_4695, c_4696, c_4697, c_4698, c_4699, c_4700, c_4701, c_4702, c_4703, c_4704, c_4705, c_4706, c_4707, c_4708, w_4709, w_4710⟩ | ⟨c_4711, c_4712, c_4713, c_4714, c_4715, c_4716, c_4717, c_4718, c_4719, c_4720, c_4721, c_4722, c_4723, c_4724, c_4725, w_4726, w_4727⟩ | ⟨c_4728, c_4729, c_4730, c_4731, c_4732, c_4733, c_4734, c_4735, c_4736, c_4737, c_4738, c_4739, w_4740, w_4741⟩ | ⟨c_4742, c_4743, c_4744, c_4745, c_4746, c_4747, c_4748, c_4749, c_4750, c_4751, c_4752, c_4753, c_4754, c_4755, w_4756, w_4757⟩ | ⟨c_4758, c_4759, c_4760, c_4761, c_4762, c_4763, c_4764, c_4765, c_4766, c_4767, c_4768, c_4769, c_4770, c_4771, w_4772, w_4773⟩ | ⟨c_4774, c_4775, c_4776, c_4777, c_4778, c_4779, c_4780, c_4781, c_4782, c_4783, c_4784, w_4785, w_4786⟩ | ⟨c_4787, c_4788, c_4789, c_4790, c_4791, c_4792, c_4793, c_4794, c_4795, c_4796, c_4797, c_4798, c_4799, w_4800, w_4801⟩ | ⟨c_4802, c_4803, c_4804, c_4805, c_4806, c_4807, c_4808, c_4809, c_4810, c_4811, c_4812, c_4813, c_4814, w_4815, w_4816⟩ | ⟨c_4817, c_4818, c_4819, c_4820, c_4821, c_4822, c_4823, c_4824, c_4825, c_4826, w_4827, w_4828⟩ | ⟨c_4829, c_4830, c_4831, c_4832, c_4833, c_4834, c_4835, c_4836, c_4837, c_4838, c_4839, c_4840, w_4841, w_4842⟩ | ⟨c_4843, c_4844, c_4845, c_4846, c_4847, c_4848, c_4849, c_4850, c_4851, c_4852, c_4853, c_4854, w_4855, w_4856⟩
    · skip
      subst w_4086
      subst w_4087
      exact absurd c_4084 c_32
    · skip
      subst w_4091
      subst w_4092
      exact absurd c_4088 c_32
    · skip
      subst w_4097
      subst w_4098
      exact absurd c_4093 c_32
    · skip
      subst w_4104
      subst w_4105
      exact absurd c_4099 c_32
    · skip
      subst w_4111
      subst w_4112
      exact absurd c_4106 c_32
    · skip
      subst w_4116
      subst w_4117
      exact absurd c_4114 (Int32.not_lt.mpr c_33)
    · skip
      subst w_4122
      subst w_4123
      exact absurd c_4119 (Int32.not_lt.mpr c_33)
    · skip
      subst w_4129
      subst w_4130
      exact absurd c_4125 (Int32.not_lt.mpr c_33)
    · skip
      subst w_4137
      subst w_4138
      exact absurd c_4132 (Int32.not_lt.mpr c_33)
    · skip
      subst w_4145
      subst w_4146
      exact absurd c_4140 (Int32.not_lt.mpr c_33)
    · skip
      subst w_4150
      subst w_4151
      exact absurd c_4149 c_28
    · skip
      subst w_4156
      subst w_4157
      exact absurd c_4155 c_29
    · skip
      subst w_4163
      subst w_4164
      exact absurd c_4162 c_30
    · skip
      subst w_4171
      subst w_4172
      exact absurd c_4170 c_31
    · skip
      subst w_4192
      subst w_4193
      exact absurd c_35 c_4182
    · skip
      subst w_4214
      subst w_4215
      exact absurd c_35 c_4203
    · skip
      subst w_4237
      subst w_4238
      exact absurd c_35 c_4225
    · skip
      subst w_4260
      subst w_4261
      exact absurd c_35 c_4248
    · skip
      subst w_4281
      subst w_4282
      exact absurd c_35 c_4271
    · skip
      subst w_4303
      subst w_4304
      exact absurd c_35 c_4292
    · skip
      subst w_4323
      subst w_4324
      exact absurd c_35 c_4314
    · skip
      subst w_4344
      subst w_4345
      exact absurd c_35 c_4334
    · skip
      subst w_4363
      subst w_4364
      exact absurd c_35 c_4355
    · skip
      subst w_4384
      subst w_4385
      exact absurd c_35 c_4374
    · skip
      subst w_4405
      subst w_4406
      exact absurd c_35 c_4395
    · skip
      subst w_4423
      subst w_4424
      exact absurd c_35 c_4416
    · skip
      subst w_4443
      subst w_4444
      exact absurd c_35 c_4434
    · skip
      subst w_4463
      subst w_4464
      exact absurd c_35 c_4454
    · skip
      subst w_4480
      subst w_4481
      exact absurd c_35 c_4474
    · skip
      subst w_4499
      subst w_4500
      exact absurd c_35 c_4491
    · skip
      subst w_4518
      subst w_4519
      exact absurd c_35 c_4510
    · skip
      subst w_4535
      subst w_4536
      exact absurd c_35 c_4529
    · skip
      subst w_4554
      subst w_4555
      exact absurd c_35 c_4546
    · skip
      subst w_4573
      subst w_4574
      exact absurd c_35 c_4565
    · skip
      subst w_4590
      subst w_4591
      exact absurd c_35 c_4584
    · skip
      subst w_4609
      subst w_4610
      exact absurd c_35 c_4601
    · skip
      subst w_4628
      subst w_4629
      exact absurd c_35 c_4620
    · skip
      subst w_4643
      subst w_4644
      exact absurd c_34 c_4641
    · skip
      subst w_4660
      subst w_4661
      exact absurd c_34 c_4656
    · skip
      subst w_4677
      subst w_4678
      exact absurd c_34 c_4673
    · skip
      subst w_4692
      subst w_4693
      obtain ⟨hP, hD⟩ := va_join (wr := [(h0, .inr (10, [.ref x0, .int 0, .ref x1, .ref x2, .ref x3, .ref x4, .ref x5, .ref x6, .ref x7, .ref x8, .int 0, .int 3000])), (o0, .inl (kA 1, 1, .inr (.inl (fun _ => 0))))]) (w1 := [(m0, .inr (11, (y0.set 9 (.int 0)).set 9 (.int 2)))]) hP hD [0] [1, 2] rfl rfl (by decide) (by decide) hk1 hFc hP1 hD1
      generalize H1 = H at hP hS ⊢
      have hP : va_P D vwCl [(h0, .inr (10, [.ref x0, .int 0, .ref x1, .ref x2, .ref x3, .ref x4, .ref x5, .ref x6, .ref x7, .ref x8, .int 0, .int 3000])), (o0, .inl (kA 1, 1, .inr (.inl (fun _ => 0)))), (m0, .inr (11, (y0.set 9 (.int 0)).set 9 (.int 2)))] H := hP
      have hD : va_D A [(h0, .inr (10, [.ref x0, .int 0, .ref x1, .ref x2, .ref x3, .ref x4, .ref x5, .ref x6, .ref x7, .ref x8, .int 0, .int 3000])), (o0, .inl (kA 1, 1, .inr (.inl (fun _ => 0)))), (m0, .inr (11, (y0.set 9 (.int 0)).set 9 (.int 2)))] := hD
      refine lv_lstore (lv' := [(6, .long 0), (5, .int 2), (0, .ref b), (1, .ref h0), (2, .ref m0), (3, .ref o0), (4, .int 0)]) hx hb dL_law_1601 hl (by decide) rfl (fun ls hl => ?_)
      refine lv_aload_n hx hb dL_law_1603 rfl (lv_at hl 4 rfl) ?_
      have hPc := hP.sub (ws' := [(m0, .inr (11, (y0.set 9 (.int 0)).set 9 (.int 2)))]) [2] rfl
      have hDc := hD.sub (ws' := [(m0, .inr (11, (y0.set 9 (.int 0)).set 9 (.int 2)))]) [2] (by decide) rfl
      have hFc := va_free (wc := [(m0, .inr (11, (y0.set 9 (.int 0)).set 9 (.int 2)))]) hD hS hA [2] rfl
      refine va_calli (va_runV (As := []) (rest := []) ⟨hx, hb, hml, hown, hts⟩ (a175_X12_thrown l  D kA V H.size m0 ((y0.set 9 (.int 0)).set 9 (.int 2)) (fun k hk => (by rw [List.length_set]; exact (by rw [List.length_set]; exact (hq k hk)))) (List.getElem?_set_self (by rw [List.length_set]; exact (hq 9 (by decide))))) (cwV 0 hts (gw_V gw_1879 gw_1880 gw_1881 gw_16 gw_1882) rfl rfl rfl (by decide +kernel) ⟨(Nat.le_of_ble_eq_true rfl), (Nat.le_of_ble_eq_true rfl)⟩) ⟨aP.blind, va_recv hK hP (ci := 11) (q0 := 2) rfl rfl, aP.pre hE hS hPc hK hDc hFc⟩ rfl rfl hl.1 rfl (lv_room (Nat.le_of_ble_eq_true rfl)) dL_law_1604 ⟨(Nat.le_of_ble_eq_true rfl), (Nat.le_of_ble_eq_true rfl)⟩) hS (fun q _ h => hFc q h) hFc (fun r_4857 u t H1 locs ht hvm hw hB hz1 hk1 hS => ?_)
      obtain ⟨hP1, hD1⟩ := hB
      rw [ht] at hP1
      try dsimp only at hw hP1 hD1
      have w_4858 := hw
      subst w_4858
      obtain ⟨hP, hD⟩ := va_join (wr := [(h0, .inr (10, [.ref x0, .int 0, .ref x1, .ref x2, .ref x3, .ref x4, .ref x5, .ref x6, .ref x7, .ref x8, .int 0, .int 3000])), (o0, .inl (kA 1, 1, .inr (.inl (fun _ => 0))))]) (w1 := [(m0, .inr (11, ((y0.set 9 (.int 0)).set 9 (.int 2))))]) hP hD [2] [0, 1] rfl rfl (by decide) (by decide) hk1 hFc hP1 hD1
      generalize H1 = H at hP hS ⊢
      have hP : va_P D vwCl [(h0, .inr (10, [.ref x0, .int 0, .ref x1, .ref x2, .ref x3, .ref x4, .ref x5, .ref x6, .ref x7, .ref x8, .int 0, .int 3000])), (o0, .inl (kA 1, 1, .inr (.inl (fun _ => 0)))), (m0, .inr (11, ((y0.set 9 (.int 0)).set 9 (.int 2))))] H := hP
      have hD : va_D A [(h0, .inr (10, [.ref x0, .int 0, .ref x1, .ref x2, .ref x3, .ref x4, .ref x5, .ref x6, .ref x7, .ref x8, .int 0, .int 3000])), (o0, .inl (kA 1, 1, .inr (.inl (fun _ => 0)))), (m0, .inr (11, ((y0.set 9 (.int 0)).set 9 (.int 2))))] := hD
      refine lv_iload hx hb dL_law_1607 (lv_at hl 1 rfl) ?_
      refine lv_icmp_eq (tgt := 1614) hx hb dL_law_1609 (by decide) (fun c_4859 => ?_) (fun c_4859 => ?_)
      · skip
        refine lv_iload hx hb dL_law_1614 (lv_at hl 1 rfl) ?_
        refine lv_if_ne (tgt := 1630) hx hb dL_law_1616 (by decide) (fun c_4860 => ?_) (fun c_4860 => ?_)
        · skip
          refine lv_goto (tgt := 1804) hx hb dL_law_1630 (by decide) ?_
          exact lk_tail hC hA2 (lv_sub hl [2, 6] rfl) hS (Nat.le_of_ble_eq_true rfl) (Nat.le_of_ble_eq_true rfl)
        · exact absurd c_4860 (by decide)
      · exact absurd (by decide) c_4859
    · skip
      subst w_4709
      subst w_4710
      obtain ⟨hP, hD⟩ := va_join (wr := [(h0, .inr (10, [.ref x0, .int 0, .ref x1, .ref x2, .ref x3, .ref x4, .ref x5, .ref x6, .ref x7, .ref x8, .int 0, .int 3000])), (o0, .inl (kA 1, 1, .inr (.inl (fun _ => 0))))]) (w1 := [(m0, .inr (11, (y0.set 9 (.int 0)).set 9 (.int 2)))]) hP hD [0] [1, 2] rfl rfl (by decide) (by decide) hk1 hFc hP1 hD1
      generalize H1 = H at hP hS ⊢
      have hP : va_P D vwCl [(h0, .inr (10, [.ref x0, .int 0, .ref x1, .ref x2, .ref x3, .ref x4, .ref x5, .ref x6, .ref x7, .ref x8, .int 0, .int 3000])), (o0, .inl (kA 1, 1, .inr (.inl (fun _ => 0)))), (m0, .inr (11, (y0.set 9 (.int 0)).set 9 (.int 2)))] H := hP
      have hD : va_D A [(h0, .inr (10, [.ref x0, .int 0, .ref x1, .ref x2, .ref x3, .ref x4, .ref x5, .ref x6, .ref x7, .ref x8, .int 0, .int 3000])), (o0, .inl (kA 1, 1, .inr (.inl (fun _ => 0)))), (m0, .inr (11, (y0.set 9 (.int 0)).set 9 (.int 2)))] := hD
      refine lv_lstore (lv' := [(6, .long 0), (5, .int 2), (0, .ref b), (1, .ref h0), (2, .ref m0), (3, .ref o0), (4, .int 0)]) hx hb dL_law_1601 hl (by decide) rfl (fun ls hl => ?_)
      refine lv_aload_n hx hb dL_law_1603 rfl (lv_at hl 4 rfl) ?_
      have hPc := hP.sub (ws' := [(m0, .inr (11, (y0.set 9 (.int 0)).set 9 (.int 2)))]) [2] rfl
      have hDc := hD.sub (ws' := [(m0, .inr (11, (y0.set 9 (.int 0)).set 9 (.int 2)))]) [2] (by decide) rfl
      have hFc := va_free (wc := [(m0, .inr (11, (y0.set 9 (.int 0)).set 9 (.int 2)))]) hD hS hA [2] rfl
      refine va_calli (va_runV (As := []) (rest := []) ⟨hx, hb, hml, hown, hts⟩ (a175_X12_thrown l  D kA V H.size m0 ((y0.set 9 (.int 0)).set 9 (.int 2)) (fun k hk => (by rw [List.length_set]; exact (by rw [List.length_set]; exact (hq k hk)))) (List.getElem?_set_self (by rw [List.length_set]; exact (hq 9 (by decide))))) (cwV 0 hts (gw_V gw_1879 gw_1880 gw_1881 gw_16 gw_1882) rfl rfl rfl (by decide +kernel) ⟨(Nat.le_of_ble_eq_true rfl), (Nat.le_of_ble_eq_true rfl)⟩) ⟨aP.blind, va_recv hK hP (ci := 11) (q0 := 2) rfl rfl, aP.pre hE hS hPc hK hDc hFc⟩ rfl rfl hl.1 rfl (lv_room (Nat.le_of_ble_eq_true rfl)) dL_law_1604 ⟨(Nat.le_of_ble_eq_true rfl), (Nat.le_of_ble_eq_true rfl)⟩) hS (fun q _ h => hFc q h) hFc (fun r_4861 u t H1 locs ht hvm hw hB hz1 hk1 hS => ?_)
      obtain ⟨hP1, hD1⟩ := hB
      rw [ht] at hP1
      try dsimp only at hw hP1 hD1
      have w_4862 := hw
      subst w_4862
      obtain ⟨hP, hD⟩ := va_join (wr := [(h0, .inr (10, [.ref x0, .int 0, .ref x1, .ref x2, .ref x3, .ref x4, .ref x5, .ref x6, .ref x7, .ref x8, .int 0, .int 3000])), (o0, .inl (kA 1, 1, .inr (.inl (fun _ => 0))))]) (w1 := [(m0, .inr (11, ((y0.set 9 (.int 0)).set 9 (.int 2))))]) hP hD [2] [0, 1] rfl rfl (by decide) (by decide) hk1 hFc hP1 hD1
      generalize H1 = H at hP hS ⊢
      have hP : va_P D vwCl [(h0, .inr (10, [.ref x0, .int 0, .ref x1, .ref x2, .ref x3, .ref x4, .ref x5, .ref x6, .ref x7, .ref x8, .int 0, .int 3000])), (o0, .inl (kA 1, 1, .inr (.inl (fun _ => 0)))), (m0, .inr (11, ((y0.set 9 (.int 0)).set 9 (.int 2))))] H := hP
      have hD : va_D A [(h0, .inr (10, [.ref x0, .int 0, .ref x1, .ref x2, .ref x3, .ref x4, .ref x5, .ref x6, .ref x7, .ref x8, .int 0, .int 3000])), (o0, .inl (kA 1, 1, .inr (.inl (fun _ => 0)))), (m0, .inr (11, ((y0.set 9 (.int 0)).set 9 (.int 2))))] := hD
      refine lv_iload hx hb dL_law_1607 (lv_at hl 1 rfl) ?_
      refine lv_icmp_eq (tgt := 1614) hx hb dL_law_1609 (by decide) (fun c_4863 => ?_) (fun c_4863 => ?_)
      · skip
        refine lv_iload hx hb dL_law_1614 (lv_at hl 1 rfl) ?_
        refine lv_if_ne (tgt := 1630) hx hb dL_law_1616 (by decide) (fun c_4864 => ?_) (fun c_4864 => ?_)
        · skip
          refine lv_goto (tgt := 1804) hx hb dL_law_1630 (by decide) ?_
          exact lk_tail hC hA2 (lv_sub hl [2, 6] rfl) hS (Nat.le_of_ble_eq_true rfl) (Nat.le_of_ble_eq_true rfl)
        · exact absurd c_4864 (by decide)
      · exact absurd (by decide) c_4863
    · skip
      subst w_4726
      subst w_4727
      obtain ⟨hP, hD⟩ := va_join (wr := [(h0, .inr (10, [.ref x0, .int 0, .ref x1, .ref x2, .ref x3, .ref x4, .ref x5, .ref x6, .ref x7, .ref x8, .int 0, .int 3000])), (o0, .inl (kA 1, 1, .inr (.inl (fun _ => 0))))]) (w1 := [(m0, .inr (11, (y0.set 9 (.int 0)).set 9 (.int 2)))]) hP hD [0] [1, 2] rfl rfl (by decide) (by decide) hk1 hFc hP1 hD1
      generalize H1 = H at hP hS ⊢
      have hP : va_P D vwCl [(h0, .inr (10, [.ref x0, .int 0, .ref x1, .ref x2, .ref x3, .ref x4, .ref x5, .ref x6, .ref x7, .ref x8, .int 0, .int 3000])), (o0, .inl (kA 1, 1, .inr (.inl (fun _ => 0)))), (m0, .inr (11, (y0.set 9 (.int 0)).set 9 (.int 2)))] H := hP
      have hD : va_D A [(h0, .inr (10, [.ref x0, .int 0, .ref x1, .ref x2, .ref x3, .ref x4, .ref x5, .ref x6, .ref x7, .ref x8, .int 0, .int 3000])), (o0, .inl (kA 1, 1, .inr (.inl (fun _ => 0)))), (m0, .inr (11, (y0.set 9 (.int 0)).set 9 (.int 2)))] := hD
      refine lv_lstore (lv' := [(6, .long 0), (5, .int 2), (0, .ref b), (1, .ref h0), (2, .ref m0), (3, .ref o0), (4, .int 0)]) hx hb dL_law_1601 hl (by decide) rfl (fun ls hl => ?_)
      refine lv_aload_n hx hb dL_law_1603 rfl (lv_at hl 4 rfl) ?_
      have hPc := hP.sub (ws' := [(m0, .inr (11, (y0.set 9 (.int 0)).set 9 (.int 2)))]) [2] rfl
      have hDc := hD.sub (ws' := [(m0, .inr (11, (y0.set 9 (.int 0)).set 9 (.int 2)))]) [2] (by decide) rfl
      have hFc := va_free (wc := [(m0, .inr (11, (y0.set 9 (.int 0)).set 9 (.int 2)))]) hD hS hA [2] rfl
      refine va_calli (va_runV (As := []) (rest := []) ⟨hx, hb, hml, hown, hts⟩ (a175_X12_thrown l  D kA V H.size m0 ((y0.set 9 (.int 0)).set 9 (.int 2)) (fun k hk => (by rw [List.length_set]; exact (by rw [List.length_set]; exact (hq k hk)))) (List.getElem?_set_self (by rw [List.length_set]; exact (hq 9 (by decide))))) (cwV 0 hts (gw_V gw_1879 gw_1880 gw_1881 gw_16 gw_1882) rfl rfl rfl (by decide +kernel) ⟨(Nat.le_of_ble_eq_true rfl), (Nat.le_of_ble_eq_true rfl)⟩) ⟨aP.blind, va_recv hK hP (ci := 11) (q0 := 2) rfl rfl, aP.pre hE hS hPc hK hDc hFc⟩ rfl rfl hl.1 rfl (lv_room (Nat.le_of_ble_eq_true rfl)) dL_law_1604 ⟨(Nat.le_of_ble_eq_true rfl), (Nat.le_of_ble_eq_true rfl)⟩) hS (fun q _ h => hFc q h) hFc (fun r_4865 u t H1 locs ht hvm hw hB hz1 hk1 hS => ?_)
      obtain ⟨hP1, hD1⟩ := hB
      rw [ht] at hP1
      try dsimp only at hw hP1 hD1
      have w_4866 := hw
      subst w_4866
      obtain ⟨hP, hD⟩ := va_join (wr := [(h0, .inr (10, [.ref x0, .int 0, .ref x1, .ref x2, .ref x3, .ref x4, .ref x5, .ref x6, .ref x7, .ref x8, .int 0, .int 3000])), (o0, .inl (kA 1, 1, .inr (.inl (fun _ => 0))))]) (w1 := [(m0, .inr (11, ((y0.set 9 (.int 0)).set 9 (.int 2))))]) hP hD [2] [0, 1] rfl rfl (by decide) (by decide) hk1 hFc hP1 hD1
      generalize H1 = H at hP hS ⊢
      have hP : va_P D vwCl [(h0, .inr (10, [.ref x0, .int 0, .ref x1, .ref x2, .ref x3, .ref x4, .ref x5, .ref x6, .ref x7, .ref x8, .int 0, .int 3000])), (o0, .inl (kA 1, 1, .inr (.inl (fun _ => 0)))), (m0, .inr (11, ((y0.set 9 (.int 0)).set 9 (.int 2))))] H := hP
      have hD : va_D A [(h0, .inr (10, [.ref x0, .int 0, .ref x1, .ref x2, .ref x3, .ref x4, .ref x5, .ref x6, .ref x7, .ref x8, .int 0, .int 3000])), (o0, .inl (kA 1, 1, .inr (.inl (fun _ => 0)))), (m0, .inr (11, ((y0.set 9 (.int 0)).set 9 (.int 2))))] := hD
      refine lv_iload hx hb dL_law_1607 (lv_at hl 1 rfl) ?_
      refine lv_icmp_eq (tgt := 1614) hx hb dL_law_1609 (by decide) (fun c_4867 => ?_) (fun c_4867 => ?_)
      · skip
        refine lv_iload hx hb dL_law_1614 (lv_at hl 1 rfl) ?_
        refine lv_if_ne (tgt := 1630) hx hb dL_law_1616 (by decide) (fun c_4868 => ?_) (fun c_4868 => ?_)
        · skip
          refine lv_goto (tgt := 1804) hx hb dL_law_1630 (by decide) ?_
          exact lk_tail hC hA2 (lv_sub hl [2, 6] rfl) hS (Nat.le_of_ble_eq_true rfl) (Nat.le_of_ble_eq_true rfl)
        · exact absurd c_4868 (by decide)
      · exact absurd (by decide) c_4867
    · skip
      subst w_4740
      subst w_4741
      exact False.elim (by have a1 := (iyE (n := 2) c_4736 (by decide)); have a2 := (iyE (n := 3) c_35 (by decide)); omega)
    · skip
      subst w_4756
      subst w_4757
      exact False.elim (by have a1 := (iyE (n := 2) c_4750 (by decide)); have a2 := (iyE (n := 3) c_35 (by decide)); omega)
    · skip
      subst w_4772
      subst w_4773
      exact False.elim (by have a1 := (iyE (n := 2) c_4766 (by decide)); have a2 := (iyE (n := 3) c_35 (by decide)); omega)
    · skip
      subst w_4785
      subst w_4786
      exact False.elim (by have a1 := (iyE (n := 1) c_4781 (by decide)); have a2 := (iyE (n := 3) c_35 (by decide)); omega)
    · skip
      subst w_4800
      subst w_4801
      exact False.elim (by have a1 := (iyE (n := 1) c_4794 (by decide)); have a2 := (iyE (n := 3) c_35 (by decide)); omega)
    · skip
      subst w_4815
      subst w_4816
      exact False.elim (by have a1 := (iyE (n := 1) c_4809 (by decide)); have a2 := (iyE (n := 3) c_35 (by decide)); omega)
    · skip
      subst w_4827
      subst w_4828
      exact False.elim (by have a1 := (iyE (n := 0) c_4823 (by decide)); have a2 := (iyE (n := 3) c_35 (by decide)); omega)
    · skip
      subst w_4841
      subst w_4842
      exact False.elim (by have a1 := (iyE (n := 0) c_4835 (by decide)); have a2 := (iyE (n := 3) c_35 (by decide)); omega)
    · skip
      subst w_4855
      subst w_4856
      exact False.elim (by have a1 := (iyE (n := 0) c_4849 (by decide)); have a2 := (iyE (n := 3) c_35 (by decide)); omega)
  · skip
    subst w_47
    subst w_48
    obtain ⟨hP, hD⟩ := va_join (wr := [(m0, .inr (11, y0))]) (w1 := [(h0, .inr (10, [.ref x0, .int 0, .ref x1, .ref x2, .ref x3, .ref x4, .ref x5, .ref x6, .ref x7, .ref x8, .int 0, .int 3000])), (o0, .inl (kA 1, 1, .inr (.inl (fun _ => 0))))]) hP hD [0, 2] [1] rfl rfl (by decide) (by decide) hk1 hFc hP1 hD1
    generalize H1 = H at hP hS ⊢
    have hP : va_P D vwCl [(m0, .inr (11, y0)), (h0, .inr (10, [.ref x0, .int 0, .ref x1, .ref x2, .ref x3, .ref x4, .ref x5, .ref x6, .ref x7, .ref x8, .int 0, .int 3000])), (o0, .inl (kA 1, 1, .inr (.inl (fun _ => 0))))] H := hP
    have hD : va_D A [(m0, .inr (11, y0)), (h0, .inr (10, [.ref x0, .int 0, .ref x1, .ref x2, .ref x3, .ref x4, .ref x5, .ref x6, .ref x7, .ref x8, .int 0, .int 3000])), (o0, .inl (kA 1, 1, .inr (.inl (fun _ => 0))))] := hD
    refine lv_istore (lv' := [(5, .int 2), (0, .ref b), (1, .ref h0), (2, .ref m0), (3, .ref o0), (4, .int 0)]) hx hb dL_law_1531 hl (by decide) rfl (fun ls hl => ?_)
    refine lv_aload_n hx hb dL_law_1533 rfl (lv_at hl 3 rfl) ?_
    refine lv_aload_n hx hb dL_law_1534 rfl (lv_at hl 1 rfl) ?_
    refine lv_iload hx hb dL_law_1535 (lv_at hl 5 rfl) ?_
    refine lv_iconst (v := 1) hx hb dL_law_1537 (by decide) ?_
    refine lv_iadd hx hb dL_law_1538 ?_
    refine W.eq (g2 := F0 m 1539 ls [.int 1, .ref b, .ref m0]) rfl ?_
    refine va_sld hx hb hX hbl hbA hS (show vp_in 1 8 by unfold vp_in; decide) dL_law_1539 ?_
    refine W.eq (g2 := F0 m 1540 ls [.int (xs 1), .ref m0]) rfl ?_
    refine lv_aload_n hx hb dL_law_1540 rfl (lv_at hl 1 rfl) ?_
    refine lv_iload hx hb dL_law_1541 (lv_at hl 5 rfl) ?_
    refine lv_iconst (v := 2) hx hb dL_law_1543 (by decide) ?_
    refine lv_iadd hx hb dL_law_1544 ?_
    refine W.eq (g2 := F0 m 1545 ls [.int 2, .ref b, .int (xs 1), .ref m0]) rfl ?_
    refine va_sld hx hb hX hbl hbA hS (show vp_in 2 8 by unfold vp_in; decide) dL_law_1545 ?_
    refine W.eq (g2 := F0 m 1546 ls [.int (xs 2), .int (xs 1), .ref m0]) rfl ?_
    refine lv_aload_n hx hb dL_law_1546 rfl (lv_at hl 1 rfl) ?_
    refine lv_iload hx hb dL_law_1547 (lv_at hl 5 rfl) ?_
    refine lv_iconst (v := 3) hx hb dL_law_1549 (by decide) ?_
    refine lv_iadd hx hb dL_law_1550 ?_
    refine W.eq (g2 := F0 m 1551 ls [.int 3, .ref b, .int (xs 2), .int (xs 1), .ref m0]) rfl ?_
    refine va_sld hx hb hX hbl hbA hS (show vp_in 3 8 by unfold vp_in; decide) dL_law_1551 ?_
    refine W.eq (g2 := F0 m 1552 ls [.int (xs 3), .int (xs 2), .int (xs 1), .ref m0]) rfl ?_
    refine lv_aload_n hx hb dL_law_1552 rfl (lv_at hl 1 rfl) ?_
    refine lv_iload hx hb dL_law_1553 (lv_at hl 5 rfl) ?_
    refine lv_iconst (v := 4) hx hb dL_law_1555 (by decide) ?_
    refine lv_iadd hx hb dL_law_1556 ?_
    refine W.eq (g2 := F0 m 1557 ls [.int 4, .ref b, .int (xs 3), .int (xs 2), .int (xs 1), .ref m0]) rfl ?_
    refine va_sld hx hb hX hbl hbA hS (show vp_in 4 8 by unfold vp_in; decide) dL_law_1557 ?_
    refine W.eq (g2 := F0 m 1558 ls [.int (xs 4), .int (xs 3), .int (xs 2), .int (xs 1), .ref m0]) rfl ?_
    refine lv_i2l (v := (xs 4).toInt64) hx hb dL_law_1558 rfl ?_
    refine lv_bipush (v := 32) hx hb dL_law_1559 (by decide) ?_
    refine lv_lshl (v := ((xs 4).toInt64) <<< ((32 : Int32).toInt64 &&& 63)) hx hb dL_law_1561 rfl ?_
    refine lv_aload_n hx hb dL_law_1562 rfl (lv_at hl 1 rfl) ?_
    refine lv_iload hx hb dL_law_1563 (lv_at hl 5 rfl) ?_
    refine lv_iconst (v := 5) hx hb dL_law_1565 (by decide) ?_
    refine lv_iadd hx hb dL_law_1566 ?_
    refine W.eq (g2 := F0 m 1567 ls [.int 5, .ref b, .long (((xs 4).toInt64) <<< ((32 : Int32).toInt64 &&& 63)), .int (xs 3), .int (xs 2), .int (xs 1), .ref m0]) rfl ?_
    refine va_sld hx hb hX hbl hbA hS (show vp_in 5 8 by unfold vp_in; decide) dL_law_1567 ?_
    refine W.eq (g2 := F0 m 1568 ls [.int (xs 5), .long (((xs 4).toInt64) <<< ((32 : Int32).toInt64 &&& 63)), .int (xs 3), .int (xs 2), .int (xs 1), .ref m0]) rfl ?_
    refine lv_i2l (v := (xs 5).toInt64) hx hb dL_law_1568 rfl ?_
    refine lv_ldc2 (v := 4294967295) hx hb hown (hG _ gw_2764) dL_law_1569 ?_
    refine lv_land hx hb dL_law_1572 ?_
    refine lv_lor hx hb dL_law_1573 ?_
    refine lv_aload_n hx hb dL_law_1574 rfl (lv_at hl 1 rfl) ?_
    refine lv_iload hx hb dL_law_1575 (lv_at hl 5 rfl) ?_
    refine lv_bipush (v := 6) hx hb dL_law_1577 (by decide) ?_
    refine lv_iadd hx hb dL_law_1579 ?_
    refine W.eq (g2 := F0 m 1580 ls [.int 6, .ref b, .long ((((xs 4).toInt64) <<< ((32 : Int32).toInt64 &&& 63)) ||| (((xs 5).toInt64) &&& 4294967295)), .int (xs 3), .int (xs 2), .int (xs 1), .ref m0]) rfl ?_
    refine va_sld hx hb hX hbl hbA hS (show vp_in 6 8 by unfold vp_in; decide) dL_law_1580 ?_
    refine W.eq (g2 := F0 m 1581 ls [.int (xs 6), .long ((((xs 4).toInt64) <<< ((32 : Int32).toInt64 &&& 63)) ||| (((xs 5).toInt64) &&& 4294967295)), .int (xs 3), .int (xs 2), .int (xs 1), .ref m0]) rfl ?_
    refine lv_i2l (v := (xs 6).toInt64) hx hb dL_law_1581 rfl ?_
    refine lv_bipush (v := 32) hx hb dL_law_1582 (by decide) ?_
    refine lv_lshl (v := ((xs 6).toInt64) <<< ((32 : Int32).toInt64 &&& 63)) hx hb dL_law_1584 rfl ?_
    refine lv_aload_n hx hb dL_law_1585 rfl (lv_at hl 1 rfl) ?_
    refine lv_iload hx hb dL_law_1586 (lv_at hl 5 rfl) ?_
    refine lv_bipush (v := 7) hx hb dL_law_1588 (by decide) ?_
    refine lv_iadd hx hb dL_law_1590 ?_
    refine W.eq (g2 := F0 m 1591 ls [.int 7, .ref b, .long (((xs 6).toInt64) <<< ((32 : Int32).toInt64 &&& 63)), .long ((((xs 4).toInt64) <<< ((32 : Int32).toInt64 &&& 63)) ||| (((xs 5).toInt64) &&& 4294967295)), .int (xs 3), .int (xs 2), .int (xs 1), .ref m0]) rfl ?_
    refine va_sld hx hb hX hbl hbA hS (show vp_in 7 8 by unfold vp_in; decide) dL_law_1591 ?_
    refine W.eq (g2 := F0 m 1592 ls [.int (xs 7), .long (((xs 6).toInt64) <<< ((32 : Int32).toInt64 &&& 63)), .long ((((xs 4).toInt64) <<< ((32 : Int32).toInt64 &&& 63)) ||| (((xs 5).toInt64) &&& 4294967295)), .int (xs 3), .int (xs 2), .int (xs 1), .ref m0]) rfl ?_
    refine lv_i2l (v := (xs 7).toInt64) hx hb dL_law_1592 rfl ?_
    refine lv_ldc2 (v := 4294967295) hx hb hown (hG _ gw_2764) dL_law_1593 ?_
    refine lv_land hx hb dL_law_1596 ?_
    refine lv_lor hx hb dL_law_1597 ?_
    have hPc := hP.sub (ws' := [(m0, .inr (11, y0))]) [0] rfl
    have hDc := hD.sub (ws' := [(m0, .inr (11, y0))]) [0] (by decide) rfl
    have hFc := va_free (wc := [(m0, .inr (11, y0))]) hD hS hA [0] rfl
    refine va_calll (va_runV (As := [.int (xs 1), .int (xs 2), .int (xs 3), .long ((((xs 4).toInt64) <<< ((32 : Int32).toInt64 &&& 63)) ||| (((xs 5).toInt64) &&& 4294967295)), .long ((((xs 6).toInt64) <<< ((32 : Int32).toInt64 &&& 63)) ||| (((xs 7).toInt64) &&& 4294967295))]) (rest := []) ⟨hx, hb, hml, hown, hts⟩ (a153_X12_work l  D kA V H.size m0 (xs 1) (xs 2) (xs 3) ((((xs 4).toInt64) <<< ((32 : Int32).toInt64 &&& 63)) ||| (((xs 5).toInt64) &&& 4294967295)) ((((xs 6).toInt64) <<< ((32 : Int32).toInt64 &&& 63)) ||| (((xs 7).toInt64) &&& 4294967295)) y0 (fun k hk => (hq k hk)) hq9) (cwV 5 hts (gw_V gw_2756 gw_2757 gw_2758 gw_16 gw_2759) rfl rfl rfl (by decide +kernel) ⟨(Nat.le_of_ble_eq_true rfl), (Nat.le_of_ble_eq_true rfl)⟩) ⟨aP.blind, va_recv hK hP (ci := 11) (q0 := 0) rfl rfl, aP.pre hE hS hPc hK hDc hFc⟩ rfl rfl hl.1 rfl (lv_room (Nat.le_of_ble_eq_true rfl)) dL_law_1598 ⟨(Nat.le_of_ble_eq_true rfl), (Nat.le_of_ble_eq_true rfl)⟩) hS (fun q _ h => hFc q h) hFc (fun r_4869 u t H1 locs ht hvm hw hB hz1 hk1 hS => ?_)
    obtain ⟨u_4870, rfl⟩ : ∃ z, z = u := ⟨u, rfl⟩
    obtain ⟨hP1, hD1⟩ := hB
    rw [ht] at hP1
    try dsimp only at hw hP1 hD1
    rcases hw with ⟨c_4871, c_4872, w_4873, w_4874⟩ | ⟨c_4875, c_4876, c_4877, w_4878, w_4879⟩ | ⟨c_4880, c_4881, c_4882, c_4883, w_4884, w_4885⟩ | ⟨c_4886, c_4887, c_4888, c_4889, c_4890, w_4891, w_4892⟩ | ⟨c_4893, c_4894, c_4895, c_4896, c_4897, w_4898, w_4899⟩ | ⟨c_4900, c_4901, c_4902, w_4903, w_4904⟩ | ⟨c_4905, c_4906, c_4907, c_4908, w_4909, w_4910⟩ | ⟨c_4911, c_4912, c_4913, c_4914, c_4915, w_4916, w_4917⟩ | ⟨c_4918, c_4919, c_4920, c_4921, c_4922, c_4923, w_4924, w_4925⟩ | ⟨c_4926, c_4927, c_4928, c_4929, c_4930, c_4931, w_4932, w_4933⟩ | ⟨c_4934, c_4935, c_4936, w_4937, w_4938⟩ | ⟨c_4939, c_4940, c_4941, c_4942, w_4943, w_4944⟩ | ⟨c_4945, c_4946, c_4947, c_4948, c_4949, w_4950, w_4951⟩ | ⟨c_4952, c_4953, c_4954, c_4955, c_4956, c_4957, w_4958, w_4959⟩ | ⟨c_4960, c_4961, c_4962, c_4963, c_4964, c_4965, c_4966, c_4967, c_4968, c_4969, c_4970, c_4971, c_4972, c_4973, c_4974, c_4975, c_4976, c_4977, c_4978, w_4979, w_4980⟩ | ⟨c_4981, c_4982, c_4983, c_4984, c_4985, c_4986, c_4987, c_4988, c_4989, c_4990, c_4991, c_4992, c_4993, c_4994, c_4995, c_4996, c_4997, c_4998, c_4999, c_5000, w_5001, w_5002⟩ | ⟨c_5003, c_5004, c_5005, c_5006, c_5007, c_5008, c_5009, c_5010, c_5011, c_5012, c_5013, c_5014, c_5015, c_5016, c_5017, c_5018, c_5019, c_5020, c_5021, c_5022, c_5023, w_5024, w_5025⟩ | ⟨c_5026, c_5027, c_5028, c_5029, c_5030, c_5031, c_5032, c_5033, c_5034, c_5035, c_5036, c_5037, c_5038, c_5039, c_5040, c_5041, c_5042, c_5043, c_5044, c_5045, c_5046, w_5047, w_5048⟩ | ⟨c_5049, c_5050, c_5051, c_5052, c_5053, c_5054, c_5055, c_5056, c_5057, c_5058, c_5059, c_5060, c_5061, c_5062, c_5063, c_5064, c_5065, c_5066, c_5067, w_5068, w_5069⟩ | ⟨c_5070, c_5071, c_5072, c_5073, c_5074, c_5075, c_5076, c_5077, c_5078, c_5079, c_5080, c_5081, c_5082, c_5083, c_5084, c_5085, c_5086, c_5087, c_5088, c_5089, w_5090, w_5091⟩ | ⟨c_5092, c_5093, c_5094, c_5095, c_5096, c_5097, c_5098, c_5099, c_5100, c_5101, c_5102, c_5103, c_5104, c_5105, c_5106, c_5107, c_5108, c_5109, w_5110, w_5111⟩ | ⟨c_5112, c_5113, c_5114, c_5115, c_5116, c_5117, c_5118, c_5119, c_5120, c_5121, c_5122, c_5123, c_5124, c_5125, c_5126, c_5127, c_5128, c_5129, c_5130, w_5131, w_5132⟩ | ⟨c_5133, c_5134, c_5135, c_5136, c_5137, c_5138, c_5139, c_5140, c_5141, c_5142, c_5143, c_5144, c_5145, c_5146, c_5147, c_5148, c_5149, w_5150, w_5151⟩ | ⟨c_5152, c_5153, c_5154, c_5155, c_5156, c_5157, c_5158, c_5159, c_5160, c_5161, c_5162, c_5163, c_5164, c_5165, c_5166, c_5167, c_5168, c_5169, c_5170, w_5171, w_5172⟩ | ⟨c_5173, c_5174, c_5175, c_5176, c_5177, c_5178, c_5179, c_5180, c_5181, c_5182, c_5183, c_5184, c_5185, c_5186, c_5187, c_5188, c_5189, c_5190, c_5191, w_5192, w_5193⟩ | ⟨c_5194, c_5195, c_5196, c_5197, c_5198, c_5199, c_5200, c_5201, c_5202, c_5203, c_5204, c_5205, c_5206, c_5207, c_5208, c_5209, w_5210, w_5211⟩ | ⟨c_5212, c_5213, c_5214, c_5215, c_5216, c_5217, c_5218, c_5219, c_5220, c_5221, c_5222, c_5223, c_5224, c_5225, c_5226, c_5227, c_5228, c_5229, w_5230, w_5231⟩ | ⟨c_5232, c_5233, c_5234, c_5235, c_5236, c_5237, c_5238, c_5239, c_5240, c_5241, c_5242, c_5243, c_5244, c_5245, c_5246, c_5247, c_5248, c_5249, w_5250, w_5251⟩ | ⟨c_5252, c_5253, c_5254, c_5255, c_5256, c_5257, c_5258, c_5259, c_5260, c_5261, c_5262, c_5263, c_5264, c_5265, c_5266, w_5267, w_5268⟩ | ⟨c_5269, c_5270, c_5271, c_5272, c_5273, c_5274, c_5275, c_5276, c_5277, c_5278, c_5279, c_5280, c_5281, c_5282, c_5283, c_5284, c_5285, w_5286, w_5287⟩ | ⟨c_5288, c_5289, c_5290, c_5291, c_5292, c_5293, c_5294, c_5295, c_5296, c_5297, c_5298, c_5299, c_5300, c_5301, c_5302, c_5303, c_5304, w_5305, w_5306⟩ | ⟨c_5307, c_5308, c_5309, c_5310, c_5311, c_5312, c_5313, c_5314, c_5315, c_5316, c_5317, c_5318, c_5319, c_5320, c_5321, w_5322, w_5323⟩ | ⟨c_5324, c_5325, c_5326, c_5327, c_5328, c_5329, c_5330, c_5331, c_5332, c_5333, c_5334, c_5335, c_5336, c_5337, c_5338, c_5339, c_5340, w_5341, w_5342⟩ | ⟨c_5343, c_5344, c_5345, c_5346, c_5347, c_5348, c_5349, c_5350, c_5351, c_5352, c_5353, c_5354, c_5355, c_5356, c_5357, c_5358, c_5359, w_5360, w_5361⟩ | ⟨c_5362, c_5363, c_5364, c_5365, c_5366, c_5367, c_5368, c_5369, c_5370, c_5371, c_5372, c_5373, c_5374, c_5375, c_5376, w_5377, w_5378⟩ | ⟨c_5379, c_5380, c_5381, c_5382, c_5383, c_5384, c_5385, c_5386, c_5387, c_5388, c_5389, c_5390, c_5391, c_5392, c_5393, c_5394, c_5395, w_5396, w_5397⟩ | ⟨c_5398, c_5399, c_5400, c_5401, c_5402, c_5403, c_5404, c_5405, c_5406, c_5407, c_5408, c_5409, c_5410, c_5411, c_5412, c_5413, c_5414, w_5415, w_5416⟩ | ⟨c_5417, c_5418, c_5419, c_5420, c_5421, c_5422, c_5423, c_5424, c_5425, c_5426, c_5427, c_5428, c_5429, w_5430, w_5431⟩ | ⟨c_5432, c_5433, c_5434, c_5435, c_5436, c_5437, c_5438, c_5439, c_5440, c_5441, c_5442, c_5443, c_5444, c_5445, c_5446, w_5447, w_5448⟩ | ⟨c_5449, c_5450, c_5451, c_5452, c_5453, c_5454, c_5455, c_5456, c_5457, c_5458, c_5459, c_5460, c_5461, c_5462, c_5463, w_5464, w_5465⟩ | ⟨c_5466, c_5467, c_5468, c_5469, c_5470, c_5471, c_5472, c_5473, c_5474, c_5475, c_5476, c_5477, c_5478, w_5479, w_5480⟩ | ⟨c_5481, c_5482, c_5483, c_5484, c_5485, c_5486, c_5487, c_5488, c_5489, c_5490, c_5491, c_5492, c_5493, c_5494, c_5495, w_5496, w_5497⟩ | ⟨c_5498, c_5499, c_5500, c_5501, c_5502, c_5503, c_5504, c_5505, c_5506, c_5507, c_5508, c_5509, c_5510, c_5511, c_5512, w_5513, w_5514⟩ | ⟨c_5515, c_5516, c_5517, c_5518, c_5519, c_5520, c_5521, c_5522, c_5523, c_5524, c_5525, c_5526, w_5527, w_5528⟩ | ⟨c_5529, c_5530, c_5531, c_5532, c_5533, c_5534, c_5535, c_5536, c_5537, c_5538, c_5539, c_5540, c_5541, c_5542, w_5543, w_5544⟩ | ⟨c_5545, c_5546, c_5547, c_5548, c_5549, c_5550, c_5551, c_5552, c_5553, c_5554, c_5555, c_5556, c_5557, c_5558, w_5559, w_5560⟩ | ⟨c_5561, c_5562, c_5563, c_5564, c_5565, c_5566, c_5567, c_5568, c_5569, c_5570, c_5571, w_5572, w_5573⟩ | ⟨c_5574, c_5575, c_5576, c_5577, c_5578, c_5579, c_5580, c_5581, c_5582, c_5583, c_5584, c_5585, c_5586, w_5587, w_5588⟩ | ⟨c_5589, c_5590, c_5591, c_5592, c_5593, c_5594, c_5595, c_5596, c_5597, c_5598, c_5599, c_5600, c_5601, w_5602, w_5603⟩ | ⟨c_5604, c_5605, c_5606, c_5607, c_5608, c_5609, c_5610, c_5611, c_5612, c_5613, w_5614, w_5615⟩ | ⟨c_5616, c_5617, c_5618, c_5619, c_5620, c_5621, c_5622, c_5623, c_5624, c_5625, c_5626, c_5627, w_5628, w_5629⟩ | ⟨c_5630, c_5631, c_5632, c_5633, c_5634, c_5635, c_5636, c_5637, c_5638, c_5639, c_5640, c_5641, w_5642, w_5643⟩
    · skip
      subst w_4873
      subst w_4874
      exact absurd c_4871 c_42
    · skip
      subst w_4878
      subst w_4879
      exact absurd c_4875 c_42
    · skip
      subst w_4884
      subst w_4885
      exact absurd c_4880 c_42
    · skip
      subst w_4891
      subst w_4892
      exact absurd c_4886 c_42
    · skip
      subst w_4898
      subst w_4899
      exact absurd c_4893 c_42
    · skip
      subst w_4903
      subst w_4904
      exact absurd c_4901 (Int32.not_lt.mpr c_43)
    · skip
      subst w_4909
      subst w_4910
      exact absurd c_4906 (Int32.not_lt.mpr c_43)
    · skip
      subst w_4916
      subst w_4917
      exact absurd c_4912 (Int32.not_lt.mpr c_43)
    · skip
      subst w_4924
      subst w_4925
      exact absurd c_4919 (Int32.not_lt.mpr c_43)
    · skip
      subst w_4932
      subst w_4933
      exact absurd c_4927 (Int32.not_lt.mpr c_43)
    · skip
      subst w_4937
      subst w_4938
      exact absurd c_4936 c_38
    · skip
      subst w_4943
      subst w_4944
      exact absurd c_4942 c_39
    · skip
      subst w_4950
      subst w_4951
      exact absurd c_4949 c_40
    · skip
      subst w_4958
      subst w_4959
      exact absurd c_4957 c_41
    · skip
      subst w_4979
      subst w_4980
      exact absurd c_46 c_4970
    · skip
      subst w_5001
      subst w_5002
      exact absurd c_46 c_4991
    · skip
      subst w_5024
      subst w_5025
      exact absurd c_46 c_5013
    · skip
      subst w_5047
      subst w_5048
      exact absurd c_46 c_5036
    · skip
      subst w_5068
      subst w_5069
      exact absurd c_46 c_5059
    · skip
      subst w_5090
      subst w_5091
      exact absurd c_46 c_5080
    · skip
      subst w_5110
      subst w_5111
      exact absurd c_46 c_5102
    · skip
      subst w_5131
      subst w_5132
      exact absurd c_46 c_5122
    · skip
      subst w_5150
      subst w_5151
      exact absurd c_46 c_5143
    · skip
      subst w_5171
      subst w_5172
      exact absurd c_46 c_5162
    · skip
      subst w_5192
      subst w_5193
      exact absurd c_46 c_5183
    · skip
      subst w_5210
      subst w_5211
      exact absurd c_46 c_5204
    · skip
      subst w_5230
      subst w_5231
      exact absurd c_46 c_5222
    · skip
      subst w_5250
      subst w_5251
      exact absurd c_46 c_5242
    · skip
      subst w_5267
      subst w_5268
      exact absurd c_46 c_5262
    · skip
      subst w_5286
      subst w_5287
      exact absurd c_46 c_5279
    · skip
      subst w_5305
      subst w_5306
      exact absurd c_46 c_5298
    · skip
      subst w_5322
      subst w_5323
      exact absurd c_44 c_5320
    · skip
      subst w_5341
      subst w_5342
      exact absurd c_44 c_5337
    · skip
      subst w_5360
      subst w_5361
      exact absurd c_44 c_5356
    · skip
      subst w_5377
      subst w_5378
      obtain ⟨hP, hD⟩ := va_join (wr := [(h0, .inr (10, [.ref x0, .int 0, .ref x1, .ref x2, .ref x3, .ref x4, .ref x5, .ref x6, .ref x7, .ref x8, .int 0, .int 3000])), (o0, .inl (kA 1, 1, .inr (.inl (fun _ => 0))))]) (w1 := [(m0, .inr (11, (y0.set 9 (.int 0)).set 9 (.int 2)))]) hP hD [0] [1, 2] rfl rfl (by decide) (by decide) hk1 hFc hP1 hD1
      generalize H1 = H at hP hS ⊢
      have hP : va_P D vwCl [(h0, .inr (10, [.ref x0, .int 0, .ref x1, .ref x2, .ref x3, .ref x4, .ref x5, .ref x6, .ref x7, .ref x8, .int 0, .int 3000])), (o0, .inl (kA 1, 1, .inr (.inl (fun _ => 0)))), (m0, .inr (11, (y0.set 9 (.int 0)).set 9 (.int 2)))] H := hP
      have hD : va_D A [(h0, .inr (10, [.ref x0, .int 0, .ref x1, .ref x2, .ref x3, .ref x4, .ref x5, .ref x6, .ref x7, .ref x8, .int 0, .int 3000])), (o0, .inl (kA 1, 1, .inr (.inl (fun _ => 0)))), (m0, .inr (11, (y0.set 9 (.int 0)).set 9 (.int 2)))] := hD
      refine lv_lstore (lv' := [(6, .long 0), (5, .int 2), (0, .ref b), (1, .ref h0), (2, .ref m0), (3, .ref o0), (4, .int 0)]) hx hb dL_law_1601 hl (by decide) rfl (fun ls hl => ?_)
      refine lv_aload_n hx hb dL_law_1603 rfl (lv_at hl 4 rfl) ?_
      have hPc := hP.sub (ws' := [(m0, .inr (11, (y0.set 9 (.int 0)).set 9 (.int 2)))]) [2] rfl
      have hDc := hD.sub (ws' := [(m0, .inr (11, (y0.set 9 (.int 0)).set 9 (.int 2)))]) [2] (by decide) rfl
      have hFc := va_free (wc := [(m0, .inr (11, (y0.set 9 (.int 0)).set 9 (.int 2)))]) hD hS hA [2] rfl
      refine va_calli (va_runV (As := []) (rest := []) ⟨hx, hb, hml, hown, hts⟩ (a175_X12_thrown l  D kA V H.size m0 ((y0.set 9 (.int 0)).set 9 (.int 2)) (fun k hk => (by rw [List.length_set]; exact (by rw [List.length_set]; exact (hq k hk)))) (List.getElem?_set_self (by rw [List.length_set]; exact (hq 9 (by decide))))) (cwV 0 hts (gw_V gw_1879 gw_1880 gw_1881 gw_16 gw_1882) rfl rfl rfl (by decide +kernel) ⟨(Nat.le_of_ble_eq_true rfl), (Nat.le_of_ble_eq_true rfl)⟩) ⟨aP.blind, va_recv hK hP (ci := 11) (q0 := 2) rfl rfl, aP.pre hE hS hPc hK hDc hFc⟩ rfl rfl hl.1 rfl (lv_room (Nat.le_of_ble_eq_true rfl)) dL_law_1604 ⟨(Nat.le_of_ble_eq_true rfl), (Nat.le_of_ble_eq_true rfl)⟩) hS (fun q _ h => hFc q h) hFc (fun r_5644 u t H1 locs ht hvm hw hB hz1 hk1 hS => ?_)
      obtain ⟨hP1, hD1⟩ := hB
      rw [ht] at hP1
      try dsimp only at hw hP1 hD1
      have w_5645 := hw
      subst w_5645
      obtain ⟨hP, hD⟩ := va_join (wr := [(h0, .inr (10, [.ref x0, .int 0, .ref x1, .ref x2, .ref x3, .ref x4, .ref x5, .ref x6, .ref x7, .ref x8, .int 0, .int 3000])), (o0, .inl (kA 1, 1, .inr (.inl (fun _ => 0))))]) (w1 := [(m0, .inr (11, ((y0.set 9 (.int 0)).set 9 (.int 2))))]) hP hD [2] [0, 1] rfl rfl (by decide) (by decide) hk1 hFc hP1 hD1
      generalize H1 = H at hP hS ⊢
      have hP : va_P D vwCl [(h0, .inr (10, [.ref x0, .int 0, .ref x1, .ref x2, .ref x3, .ref x4, .ref x5, .ref x6, .ref x7, .ref x8, .int 0, .int 3000])), (o0, .inl (kA 1, 1, .inr (.inl (fun _ => 0)))), (m0, .inr (11, ((y0.set 9 (.int 0)).set 9 (.int 2))))] H := hP
      have hD : va_D A [(h0, .inr (10, [.ref x0, .int 0, .ref x1, .ref x2, .ref x3, .ref x4, .ref x5, .ref x6, .ref x7, .ref x8, .int 0, .int 3000])), (o0, .inl (kA 1, 1, .inr (.inl (fun _ => 0)))), (m0, .inr (11, ((y0.set 9 (.int 0)).set 9 (.int 2))))] := hD
      refine lv_iload hx hb dL_law_1607 (lv_at hl 1 rfl) ?_
      refine lv_icmp_eq (tgt := 1614) hx hb dL_law_1609 (by decide) (fun c_5646 => ?_) (fun c_5646 => ?_)
      · skip
        refine lv_iload hx hb dL_law_1614 (lv_at hl 1 rfl) ?_
        refine lv_if_ne (tgt := 1630) hx hb dL_law_1616 (by decide) (fun c_5647 => ?_) (fun c_5647 => ?_)
        · skip
          refine lv_goto (tgt := 1804) hx hb dL_law_1630 (by decide) ?_
          exact lk_tail hC hA2 (lv_sub hl [2, 6] rfl) hS (Nat.le_of_ble_eq_true rfl) (Nat.le_of_ble_eq_true rfl)
        · exact absurd c_5647 (by decide)
      · exact absurd (by decide) c_5646
    · skip
      subst w_5396
      subst w_5397
      obtain ⟨hP, hD⟩ := va_join (wr := [(h0, .inr (10, [.ref x0, .int 0, .ref x1, .ref x2, .ref x3, .ref x4, .ref x5, .ref x6, .ref x7, .ref x8, .int 0, .int 3000])), (o0, .inl (kA 1, 1, .inr (.inl (fun _ => 0))))]) (w1 := [(m0, .inr (11, (y0.set 9 (.int 0)).set 9 (.int 2)))]) hP hD [0] [1, 2] rfl rfl (by decide) (by decide) hk1 hFc hP1 hD1
      generalize H1 = H at hP hS ⊢
      have hP : va_P D vwCl [(h0, .inr (10, [.ref x0, .int 0, .ref x1, .ref x2, .ref x3, .ref x4, .ref x5, .ref x6, .ref x7, .ref x8, .int 0, .int 3000])), (o0, .inl (kA 1, 1, .inr (.inl (fun _ => 0)))), (m0, .inr (11, (y0.set 9 (.int 0)).set 9 (.int 2)))] H := hP
      have hD : va_D A [(h0, .inr (10, [.ref x0, .int 0, .ref x1, .ref x2, .ref x3, .ref x4, .ref x5, .ref x6, .ref x7, .ref x8, .int 0, .int 3000])), (o0, .inl (kA 1, 1, .inr (.inl (fun _ => 0)))), (m0, .inr (11, (y0.set 9 (.int 0)).set 9 (.int 2)))] := hD
      refine lv_lstore (lv' := [(6, .long 0), (5, .int 2), (0, .ref b), (1, .ref h0), (2, .ref m0), (3, .ref o0), (4, .int 0)]) hx hb dL_law_1601 hl (by decide) rfl (fun ls hl => ?_)
      refine lv_aload_n hx hb dL_law_1603 rfl (lv_at hl 4 rfl) ?_
      have hPc := hP.sub (ws' := [(m0, .inr (11, (y0.set 9 (.int 0)).set 9 (.int 2)))]) [2] rfl
      have hDc := hD.sub (ws' := [(m0, .inr (11, (y0.set 9 (.int 0)).set 9 (.int 2)))]) [2] (by decide) rfl
      have hFc := va_free (wc := [(m0, .inr (11, (y0.set 9 (.int 0)).set 9 (.int 2)))]) hD hS hA [2] rfl
      refine va_calli (va_runV (As := []) (rest := []) ⟨hx, hb, hml, hown, hts⟩ (a175_X12_thrown l  D kA V H.size m0 ((y0.set 9 (.int 0)).set 9 (.int 2)) (fun k hk => (by rw [List.length_set]; exact (by rw [List.length_set]; exact (hq k hk)))) (List.getElem?_set_self (by rw [List.length_set]; exact (hq 9 (by decide))))) (cwV 0 hts (gw_V gw_1879 gw_1880 gw_1881 gw_16 gw_1882) rfl rfl rfl (by decide +kernel) ⟨(Nat.le_of_ble_eq_true rfl), (Nat.le_of_ble_eq_true rfl)⟩) ⟨aP.blind, va_recv hK hP (ci := 11) (q0 := 2) rfl rfl, aP.pre hE hS hPc hK hDc hFc⟩ rfl rfl hl.1 rfl (lv_room (Nat.le_of_ble_eq_true rfl)) dL_law_1604 ⟨(Nat.le_of_ble_eq_true rfl), (Nat.le_of_ble_eq_true rfl)⟩) hS (fun q _ h => hFc q h) hFc (fun r_5648 u t H1 locs ht hvm hw hB hz1 hk1 hS => ?_)
      obtain ⟨hP1, hD1⟩ := hB
      rw [ht] at hP1
      try dsimp only at hw hP1 hD1
      have w_5649 := hw
      subst w_5649
      obtain ⟨hP, hD⟩ := va_join (wr := [(h0, .inr (10, [.ref x0, .int 0, .ref x1, .ref x2, .ref x3, .ref x4, .ref x5, .ref x6, .ref x7, .ref x8, .int 0, .int 3000])), (o0, .inl (kA 1, 1, .inr (.inl (fun _ => 0))))]) (w1 := [(m0, .inr (11, ((y0.set 9 (.int 0)).set 9 (.int 2))))]) hP hD [2] [0, 1] rfl rfl (by decide) (by decide) hk1 hFc hP1 hD1
      generalize H1 = H at hP hS ⊢
      have hP : va_P D vwCl [(h0, .inr (10, [.ref x0, .int 0, .ref x1, .ref x2, .ref x3, .ref x4, .ref x5, .ref x6, .ref x7, .ref x8, .int 0, .int 3000])), (o0, .inl (kA 1, 1, .inr (.inl (fun _ => 0)))), (m0, .inr (11, ((y0.set 9 (.int 0)).set 9 (.int 2))))] H := hP
      have hD : va_D A [(h0, .inr (10, [.ref x0, .int 0, .ref x1, .ref x2, .ref x3, .ref x4, .ref x5, .ref x6, .ref x7, .ref x8, .int 0, .int 3000])), (o0, .inl (kA 1, 1, .inr (.inl (fun _ => 0)))), (m0, .inr (11, ((y0.set 9 (.int 0)).set 9 (.int 2))))] := hD
      refine lv_iload hx hb dL_law_1607 (lv_at hl 1 rfl) ?_
      refine lv_icmp_eq (tgt := 1614) hx hb dL_law_1609 (by decide) (fun c_5650 => ?_) (fun c_5650 => ?_)
      · skip
        refine lv_iload hx hb dL_law_1614 (lv_at hl 1 rfl) ?_
        refine lv_if_ne (tgt := 1630) hx hb dL_law_1616 (by decide) (fun c_5651 => ?_) (fun c_5651 => ?_)
        · skip
          refine lv_goto (tgt := 1804) hx hb dL_law_1630 (by decide) ?_
          exact lk_tail hC hA2 (lv_sub hl [2, 6] rfl) hS (Nat.le_of_ble_eq_true rfl) (Nat.le_of_ble_eq_true rfl)
        · exact absurd c_5651 (by decide)
      · exact absurd (by decide) c_5650
    · skip
      subst w_5415
      subst w_5416
      obtain ⟨hP, hD⟩ := va_join (wr := [(h0, .inr (10, [.ref x0, .int 0, .ref x1, .ref x2, .ref x3, .ref x4, .ref x5, .ref x6, .ref x7, .ref x8, .int 0, .int 3000])), (o0, .inl (kA 1, 1, .inr (.inl (fun _ => 0))))]) (w1 := [(m0, .inr (11, (y0.set 9 (.int 0)).set 9 (.int 2)))]) hP hD [0] [1, 2] rfl rfl (by decide) (by decide) hk1 hFc hP1 hD1
      generalize H1 = H at hP hS ⊢
      have hP : va_P D vwCl [(h0, .inr (10, [.ref x0, .int 0, .ref x1, .ref x2, .ref x3, .ref x4, .ref x5, .ref x6, .ref x7, .ref x8, .int 0, .int 3000])), (o0, .inl (kA 1, 1, .inr (.inl (fun _ => 0)))), (m0, .inr (11, (y0.set 9 (.int 0)).set 9 (.int 2)))] H := hP
      have hD : va_D A [(h0, .inr (10, [.ref x0, .int 0, .ref x1, .ref x2, .ref x3, .ref x4, .ref x5, .ref x6, .ref x7, .ref x8, .int 0, .int 3000])), (o0, .inl (kA 1, 1, .inr (.inl (fun _ => 0)))), (m0, .inr (11, (y0.set 9 (.int 0)).set 9 (.int 2)))] := hD
      refine lv_lstore (lv' := [(6, .long 0), (5, .int 2), (0, .ref b), (1, .ref h0), (2, .ref m0), (3, .ref o0), (4, .int 0)]) hx hb dL_law_1601 hl (by decide) rfl (fun ls hl => ?_)
      refine lv_aload_n hx hb dL_law_1603 rfl (lv_at hl 4 rfl) ?_
      have hPc := hP.sub (ws' := [(m0, .inr (11, (y0.set 9 (.int 0)).set 9 (.int 2)))]) [2] rfl
      have hDc := hD.sub (ws' := [(m0, .inr (11, (y0.set 9 (.int 0)).set 9 (.int 2)))]) [2] (by decide) rfl
      have hFc := va_free (wc := [(m0, .inr (11, (y0.set 9 (.int 0)).set 9 (.int 2)))]) hD hS hA [2] rfl
      refine va_calli (va_runV (As := []) (rest := []) ⟨hx, hb, hml, hown, hts⟩ (a175_X12_thrown l  D kA V H.size m0 ((y0.set 9 (.int 0)).set 9 (.int 2)) (fun k hk => (by rw [List.length_set]; exact (by rw [List.length_set]; exact (hq k hk)))) (List.getElem?_set_self (by rw [List.length_set]; exact (hq 9 (by decide))))) (cwV 0 hts (gw_V gw_1879 gw_1880 gw_1881 gw_16 gw_1882) rfl rfl rfl (by decide +kernel) ⟨(Nat.le_of_ble_eq_true rfl), (Nat.le_of_ble_eq_true rfl)⟩) ⟨aP.blind, va_recv hK hP (ci := 11) (q0 := 2) rfl rfl, aP.pre hE hS hPc hK hDc hFc⟩ rfl rfl hl.1 rfl (lv_room (Nat.le_of_ble_eq_true rfl)) dL_law_1604 ⟨(Nat.le_of_ble_eq_true rfl), (Nat.le_of_ble_eq_true rfl)⟩) hS (fun q _ h => hFc q h) hFc (fun r_5652 u t H1 locs ht hvm hw hB hz1 hk1 hS => ?_)
      obtain ⟨hP1, hD1⟩ := hB
      rw [ht] at hP1
      try dsimp only at hw hP1 hD1
      have w_5653 := hw
      subst w_5653
      obtain ⟨hP, hD⟩ := va_join (wr := [(h0, .inr (10, [.ref x0, .int 0, .ref x1, .ref x2, .ref x3, .ref x4, .ref x5, .ref x6, .ref x7, .ref x8, .int 0, .int 3000])), (o0, .inl (kA 1, 1, .inr (.inl (fun _ => 0))))]) (w1 := [(m0, .inr (11, ((y0.set 9 (.int 0)).set 9 (.int 2))))]) hP hD [2] [0, 1] rfl rfl (by decide) (by decide) hk1 hFc hP1 hD1
      generalize H1 = H at hP hS ⊢
      have hP : va_P D vwCl [(h0, .inr (10, [.ref x0, .int 0, .ref x1, .ref x2, .ref x3, .ref x4, .ref x5, .ref x6, .ref x7, .ref x8, .int 0, .int 3000])), (o0, .inl (kA 1, 1, .inr (.inl (fun _ => 0)))), (m0, .inr (11, ((y0.set 9 (.int 0)).set 9 (.int 2))))] H := hP
      have hD : va_D A [(h0, .inr (10, [.ref x0, .int 0, .ref x1, .ref x2, .ref x3, .ref x4, .ref x5, .ref x6, .ref x7, .ref x8, .int 0, .int 3000])), (o0, .inl (kA 1, 1, .inr (.inl (fun _ => 0)))), (m0, .inr (11, ((y0.set 9 (.int 0)).set 9 (.int 2))))] := hD
      refine lv_iload hx hb dL_law_1607 (lv_at hl 1 rfl) ?_
      refine lv_icmp_eq (tgt := 1614) hx hb dL_law_1609 (by decide) (fun c_5654 => ?_) (fun c_5654 => ?_)
      · skip
        refine lv_iload hx hb dL_law_1614 (lv_at hl 1 rfl) ?_
        refine lv_if_ne (tgt := 1630) hx hb dL_law_1616 (by decide) (fun c_5655 => ?_) (fun c_5655 => ?_)
        · skip
          refine lv_goto (tgt := 1804) hx hb dL_law_1630 (by decide) ?_
          exact lk_tail hC hA2 (lv_sub hl [2, 6] rfl) hS (Nat.le_of_ble_eq_true rfl) (Nat.le_of_ble_eq_true rfl)
        · exact absurd c_5655 (by decide)
      · exact absurd (by decide) c_5654
    · skip
      subst w_5430
      subst w_5431
      exact absurd c_5426 c_45
    · skip
      subst w_5447
      subst w_5448
      exact absurd c_5441 c_45
    · skip
      subst w_5464
      subst w_5465
      exact absurd c_5458 c_45
    · skip
      subst w_5479
      subst w_5480
      exact absurd c_5475 c_45
    · skip
      subst w_5496
      subst w_5497
      exact absurd c_5490 c_45
    · skip
      subst w_5513
      subst w_5514
      exact absurd c_5507 c_45
    · skip
      subst w_5527
      subst w_5528
      exact False.elim (by have a1 := (iyE (n := 2) c_5523 (by decide)); have a2 := (iyE (n := 4) c_46 (by decide)); omega)
    · skip
      subst w_5543
      subst w_5544
      exact False.elim (by have a1 := (iyE (n := 2) c_5537 (by decide)); have a2 := (iyE (n := 4) c_46 (by decide)); omega)
    · skip
      subst w_5559
      subst w_5560
      exact False.elim (by have a1 := (iyE (n := 2) c_5553 (by decide)); have a2 := (iyE (n := 4) c_46 (by decide)); omega)
    · skip
      subst w_5572
      subst w_5573
      exact False.elim (by have a1 := (iyE (n := 1) c_5568 (by decide)); have a2 := (iyE (n := 4) c_46 (by decide)); omega)
    · skip
      subst w_5587
      subst w_5588
      exact False.elim (by have a1 := (iyE (n := 1) c_5581 (by decide)); have a2 := (iyE (n := 4) c_46 (by decide)); omega)
    · skip
      subst w_5602
      subst w_5603
      exact False.elim (by have a1 := (iyE (n := 1) c_5596 (by decide)); have a2 := (iyE (n := 4) c_46 (by decide)); omega)
    · skip
      subst w_5614
      subst w_5615
      exact False.elim (by have a1 := (iyE (n := 0) c_5610 (by decide)); have a2 := (iyE (n := 4) c_46 (by decide)); omega)
    · skip
      subst w_5628
      subst w_5629
      exact False.elim (by have a1 := (iyE (n := 0) c_5622 (by decide)); have a2 := (iyE (n := 4) c_46 (by decide)); omega)
    · skip
      subst w_5642
      subst w_5643
      exact False.elim (by have a1 := (iyE (n := 0) c_5636 (by decide)); have a2 := (iyE (n := 4) c_46 (by decide)); omega)
  · skip
    subst w_55
    subst w_56
    obtain ⟨hP, hD⟩ := va_join (wr := [(m0, .inr (11, y0))]) (w1 := [(h0, .inr (10, [.ref x0, .int 0, .ref x1, .ref x2, .ref x3, .ref x4, .ref x5, .ref x6, .ref x7, .ref x8, .int 0, .int 3000])), (o0, .inl (kA 1, 1, .inr (.inl (fun _ => 0))))]) hP hD [0, 2] [1] rfl rfl (by decide) (by decide) hk1 hFc hP1 hD1
    generalize H1 = H at hP hS ⊢
    have hP : va_P D vwCl [(m0, .inr (11, y0)), (h0, .inr (10, [.ref x0, .int 0, .ref x1, .ref x2, .ref x3, .ref x4, .ref x5, .ref x6, .ref x7, .ref x8, .int 0, .int 3000])), (o0, .inl (kA 1, 1, .inr (.inl (fun _ => 0))))] H := hP
    have hD : va_D A [(m0, .inr (11, y0)), (h0, .inr (10, [.ref x0, .int 0, .ref x1, .ref x2, .ref x3, .ref x4, .ref x5, .ref x6, .ref x7, .ref x8, .int 0, .int 3000])), (o0, .inl (kA 1, 1, .inr (.inl (fun _ => 0))))] := hD
    refine lv_istore (lv' := [(5, .int 1), (0, .ref b), (1, .ref h0), (2, .ref m0), (3, .ref o0), (4, .int 0)]) hx hb dL_law_1531 hl (by decide) rfl (fun ls hl => ?_)
    refine lv_aload_n hx hb dL_law_1533 rfl (lv_at hl 3 rfl) ?_
    refine lv_aload_n hx hb dL_law_1534 rfl (lv_at hl 1 rfl) ?_
    refine lv_iload hx hb dL_law_1535 (lv_at hl 5 rfl) ?_
    refine lv_iconst (v := 1) hx hb dL_law_1537 (by decide) ?_
    refine lv_iadd hx hb dL_law_1538 ?_
    refine W.eq (g2 := F0 m 1539 ls [.int 1, .ref b, .ref m0]) rfl ?_
    refine va_sld hx hb hX hbl hbA hS (show vp_in 1 8 by unfold vp_in; decide) dL_law_1539 ?_
    refine W.eq (g2 := F0 m 1540 ls [.int (xs 1), .ref m0]) rfl ?_
    refine lv_aload_n hx hb dL_law_1540 rfl (lv_at hl 1 rfl) ?_
    refine lv_iload hx hb dL_law_1541 (lv_at hl 5 rfl) ?_
    refine lv_iconst (v := 2) hx hb dL_law_1543 (by decide) ?_
    refine lv_iadd hx hb dL_law_1544 ?_
    refine W.eq (g2 := F0 m 1545 ls [.int 2, .ref b, .int (xs 1), .ref m0]) rfl ?_
    refine va_sld hx hb hX hbl hbA hS (show vp_in 2 8 by unfold vp_in; decide) dL_law_1545 ?_
    refine W.eq (g2 := F0 m 1546 ls [.int (xs 2), .int (xs 1), .ref m0]) rfl ?_
    refine lv_aload_n hx hb dL_law_1546 rfl (lv_at hl 1 rfl) ?_
    refine lv_iload hx hb dL_law_1547 (lv_at hl 5 rfl) ?_
    refine lv_iconst (v := 3) hx hb dL_law_1549 (by decide) ?_
    refine lv_iadd hx hb dL_law_1550 ?_
    refine W.eq (g2 := F0 m 1551 ls [.int 3, .ref b, .int (xs 2), .int (xs 1), .ref m0]) rfl ?_
    refine va_sld hx hb hX hbl hbA hS (show vp_in 3 8 by unfold vp_in; decide) dL_law_1551 ?_
    refine W.eq (g2 := F0 m 1552 ls [.int (xs 3), .int (xs 2), .int (xs 1), .ref m0]) rfl ?_
    refine lv_aload_n hx hb dL_law_1552 rfl (lv_at hl 1 rfl) ?_
    refine lv_iload hx hb dL_law_1553 (lv_at hl 5 rfl) ?_
    refine lv_iconst (v := 4) hx hb dL_law_1555 (by decide) ?_
    refine lv_iadd hx hb dL_law_1556 ?_
    refine W.eq (g2 := F0 m 1557 ls [.int 4, .ref b, .int (xs 3), .int (xs 2), .int (xs 1), .ref m0]) rfl ?_
    refine va_sld hx hb hX hbl hbA hS (show vp_in 4 8 by unfold vp_in; decide) dL_law_1557 ?_
    refine W.eq (g2 := F0 m 1558 ls [.int (xs 4), .int (xs 3), .int (xs 2), .int (xs 1), .ref m0]) rfl ?_
    refine lv_i2l (v := (xs 4).toInt64) hx hb dL_law_1558 rfl ?_
    refine lv_bipush (v := 32) hx hb dL_law_1559 (by decide) ?_
    refine lv_lshl (v := ((xs 4).toInt64) <<< ((32 : Int32).toInt64 &&& 63)) hx hb dL_law_1561 rfl ?_
    refine lv_aload_n hx hb dL_law_1562 rfl (lv_at hl 1 rfl) ?_
    refine lv_iload hx hb dL_law_1563 (lv_at hl 5 rfl) ?_
    refine lv_iconst (v := 5) hx hb dL_law_1565 (by decide) ?_
    refine lv_iadd hx hb dL_law_1566 ?_
    refine W.eq (g2 := F0 m 1567 ls [.int 5, .ref b, .long (((xs 4).toInt64) <<< ((32 : Int32).toInt64 &&& 63)), .int (xs 3), .int (xs 2), .int (xs 1), .ref m0]) rfl ?_
    refine va_sld hx hb hX hbl hbA hS (show vp_in 5 8 by unfold vp_in; decide) dL_law_1567 ?_
    refine W.eq (g2 := F0 m 1568 ls [.int (xs 5), .long (((xs 4).toInt64) <<< ((32 : Int32).toInt64 &&& 63)), .int (xs 3), .int (xs 2), .int (xs 1), .ref m0]) rfl ?_
    refine lv_i2l (v := (xs 5).toInt64) hx hb dL_law_1568 rfl ?_
    refine lv_ldc2 (v := 4294967295) hx hb hown (hG _ gw_2764) dL_law_1569 ?_
    refine lv_land hx hb dL_law_1572 ?_
    refine lv_lor hx hb dL_law_1573 ?_
    refine lv_aload_n hx hb dL_law_1574 rfl (lv_at hl 1 rfl) ?_
    refine lv_iload hx hb dL_law_1575 (lv_at hl 5 rfl) ?_
    refine lv_bipush (v := 6) hx hb dL_law_1577 (by decide) ?_
    refine lv_iadd hx hb dL_law_1579 ?_
    refine W.eq (g2 := F0 m 1580 ls [.int 6, .ref b, .long ((((xs 4).toInt64) <<< ((32 : Int32).toInt64 &&& 63)) ||| (((xs 5).toInt64) &&& 4294967295)), .int (xs 3), .int (xs 2), .int (xs 1), .ref m0]) rfl ?_
    refine va_sld hx hb hX hbl hbA hS (show vp_in 6 8 by unfold vp_in; decide) dL_law_1580 ?_
    refine W.eq (g2 := F0 m 1581 ls [.int (xs 6), .long ((((xs 4).toInt64) <<< ((32 : Int32).toInt64 &&& 63)) ||| (((xs 5).toInt64) &&& 4294967295)), .int (xs 3), .int (xs 2), .int (xs 1), .ref m0]) rfl ?_
    refine lv_i2l (v := (xs 6).toInt64) hx hb dL_law_1581 rfl ?_
    refine lv_bipush (v := 32) hx hb dL_law_1582 (by decide) ?_
    refine lv_lshl (v := ((xs 6).toInt64) <<< ((32 : Int32).toInt64 &&& 63)) hx hb dL_law_1584 rfl ?_
    refine lv_aload_n hx hb dL_law_1585 rfl (lv_at hl 1 rfl) ?_
    refine lv_iload hx hb dL_law_1586 (lv_at hl 5 rfl) ?_
    refine lv_bipush (v := 7) hx hb dL_law_1588 (by decide) ?_
    refine lv_iadd hx hb dL_law_1590 ?_
    refine W.eq (g2 := F0 m 1591 ls [.int 7, .ref b, .long (((xs 6).toInt64) <<< ((32 : Int32).toInt64 &&& 63)), .long ((((xs 4).toInt64) <<< ((32 : Int32).toInt64 &&& 63)) ||| (((xs 5).toInt64) &&& 4294967295)), .int (xs 3), .int (xs 2), .int (xs 1), .ref m0]) rfl ?_
    refine va_sld hx hb hX hbl hbA hS (show vp_in 7 8 by unfold vp_in; decide) dL_law_1591 ?_
    refine W.eq (g2 := F0 m 1592 ls [.int (xs 7), .long (((xs 6).toInt64) <<< ((32 : Int32).toInt64 &&& 63)), .long ((((xs 4).toInt64) <<< ((32 : Int32).toInt64 &&& 63)) ||| (((xs 5).toInt64) &&& 4294967295)), .int (xs 3), .int (xs 2), .int (xs 1), .ref m0]) rfl ?_
    refine lv_i2l (v := (xs 7).toInt64) hx hb dL_law_1592 rfl ?_
    refine lv_ldc2 (v := 4294967295) hx hb hown (hG _ gw_2764) dL_law_1593 ?_
    refine lv_land hx hb dL_law_1596 ?_
    refine lv_lor hx hb dL_law_1597 ?_
    have hPc := hP.sub (ws' := [(m0, .inr (11, y0))]) [0] rfl
    have hDc := hD.sub (ws' := [(m0, .inr (11, y0))]) [0] (by decide) rfl
    have hFc := va_free (wc := [(m0, .inr (11, y0))]) hD hS hA [0] rfl
    refine va_calll (va_runV (As := [.int (xs 1), .int (xs 2), .int (xs 3), .long ((((xs 4).toInt64) <<< ((32 : Int32).toInt64 &&& 63)) ||| (((xs 5).toInt64) &&& 4294967295)), .long ((((xs 6).toInt64) <<< ((32 : Int32).toInt64 &&& 63)) ||| (((xs 7).toInt64) &&& 4294967295))]) (rest := []) ⟨hx, hb, hml, hown, hts⟩ (a153_X12_work l  D kA V H.size m0 (xs 1) (xs 2) (xs 3) ((((xs 4).toInt64) <<< ((32 : Int32).toInt64 &&& 63)) ||| (((xs 5).toInt64) &&& 4294967295)) ((((xs 6).toInt64) <<< ((32 : Int32).toInt64 &&& 63)) ||| (((xs 7).toInt64) &&& 4294967295)) y0 (fun k hk => (hq k hk)) hq9) (cwV 5 hts (gw_V gw_2756 gw_2757 gw_2758 gw_16 gw_2759) rfl rfl rfl (by decide +kernel) ⟨(Nat.le_of_ble_eq_true rfl), (Nat.le_of_ble_eq_true rfl)⟩) ⟨aP.blind, va_recv hK hP (ci := 11) (q0 := 0) rfl rfl, aP.pre hE hS hPc hK hDc hFc⟩ rfl rfl hl.1 rfl (lv_room (Nat.le_of_ble_eq_true rfl)) dL_law_1598 ⟨(Nat.le_of_ble_eq_true rfl), (Nat.le_of_ble_eq_true rfl)⟩) hS (fun q _ h => hFc q h) hFc (fun r_5656 u t H1 locs ht hvm hw hB hz1 hk1 hS => ?_)
    obtain ⟨u_5657, rfl⟩ : ∃ z, z = u := ⟨u, rfl⟩
    obtain ⟨hP1, hD1⟩ := hB
    rw [ht] at hP1
    try dsimp only at hw hP1 hD1
    rcases hw with ⟨c_5658, c_5659, w_5660, w_5661⟩ | ⟨c_5662, c_5663, c_5664, w_5665, w_5666⟩ | ⟨c_5667, c_5668, c_5669, c_5670, w_5671, w_5672⟩ | ⟨c_5673, c_5674, c_5675, c_5676, c_5677, w_5678, w_5679⟩ | ⟨c_5680, c_5681, c_5682, c_5683, c_5684, w_5685, w_5686⟩ | ⟨c_5687, c_5688, c_5689, w_5690, w_5691⟩ | ⟨c_5692, c_5693, c_5694, c_5695, w_5696, w_5697⟩ | ⟨c_5698, c_5699, c_5700, c_5701, c_5702, w_5703, w_5704⟩ | ⟨c_5705, c_5706, c_5707, c_5708, c_5709, c_5710, w_5711, w_5712⟩ | ⟨c_5713, c_5714, c_5715, c_5716, c_5717, c_5718, w_5719, w_5720⟩ | ⟨c_5721, c_5722, c_5723, w_5724, w_5725⟩ | ⟨c_5726, c_5727, c_5728, c_5729, w_5730, w_5731⟩ | ⟨c_5732, c_5733, c_5734, c_5735, c_5736, w_5737, w_5738⟩ | ⟨c_5739, c_5740, c_5741, c_5742, c_5743, c_5744, w_5745, w_5746⟩ | ⟨c_5747, c_5748, c_5749, c_5750, c_5751, c_5752, c_5753, c_5754, c_5755, c_5756, c_5757, c_5758, c_5759, c_5760, c_5761, c_5762, c_5763, c_5764, c_5765, w_5766, w_5767⟩ | ⟨c_5768, c_5769, c_5770, c_5771, c_5772, c_5773, c_5774, c_5775, c_5776, c_5777, c_5778, c_5779, c_5780, c_5781, c_5782, c_5783, c_5784, c_5785, c_5786, c_5787, w_5788, w_5789⟩ | ⟨c_5790, c_5791, c_5792, c_5793, c_5794, c_5795, c_5796, c_5797, c_5798, c_5799, c_5800, c_5801, c_5802, c_5803, c_5804, c_5805, c_5806, c_5807, c_5808, c_5809, c_5810, w_5811, w_5812⟩ | ⟨c_5813, c_5814, c_5815, c_5816, c_5817, c_5818, c_5819, c_5820, c_5821, c_5822, c_5823, c_5824, c_5825, c_5826, c_5827, c_5828, c_5829, c_5830, c_5831, c_5832, c_5833, w_5834, w_5835⟩ | ⟨c_5836, c_5837, c_5838, c_5839, c_5840, c_5841, c_5842, c_5843, c_5844, c_5845, c_5846, c_5847, c_5848, c_5849, c_5850, c_5851, c_5852, c_5853, c_5854, w_5855, w_5856⟩ | ⟨c_5857, c_5858, c_5859, c_5860, c_5861, c_5862, c_5863, c_5864, c_5865, c_5866, c_5867, c_5868, c_5869, c_5870, c_5871, c_5872, c_5873, c_5874, c_5875, c_5876, w_5877, w_5878⟩ | ⟨c_5879, c_5880, c_5881, c_5882, c_5883, c_5884, c_5885, c_5886, c_5887, c_5888, c_5889, c_5890, c_5891, c_5892, c_5893, c_5894, c_5895, c_5896, w_5897, w_5898⟩ | ⟨c_5899, c_5900, c_5901, c_5902, c_5903, c_5904, c_5905, c_5906, c_5907, c_5908, c_5909, c_5910, c_5911, c_5912, c_5913, c_5914, c_5915, c_5916, c_5917, w_5918, w_5919⟩ | ⟨c_5920, c_5921, c_5922, c_5923, c_5924, c_5925, c_5926, c_5927, c_5928, c_5929, c_5930, c_5931, c_5932, c_5933, c_5934, c_5935, c_5936, w_5937, w_5938⟩ | ⟨c_5939, c_5940, c_5941, c_5942, c_5943, c_5944, c_5945, c_5946, c_5947, c_5948, c_5949, c_5950, c_5951, c_5952, c_5953, c_5954, c_5955, c_5956, c_5957, w_5958, w_5959⟩ | ⟨c_5960, c_5961, c_5962, c_5963, c_5964, c_5965, c_5966, c_5967, c_5968, c_5969, c_5970, c_5971, c_5972, c_5973, c_5974, c_5975, c_5976, c_5977, c_5978, w_5979, w_5980⟩ | ⟨c_5981, c_5982, c_5983, c_5984, c_5985, c_5986, c_5987, c_5988, c_5989, c_5990, c_5991, c_5992, c_5993, c_5994, c_5995, c_5996, w_5997, w_5998⟩ | ⟨c_5999, c_6000, c_6001, c_6002, c_6003, c_6004, c_6005, c_6006, c_6007, c_6008, c_6009, c_6010, c_6011, c_6012, c_6013, c_6014, c_6015, c_6016, w_6017, w_6018⟩ | ⟨c_6019, c_6020, c_6021, c_6022, c_6023, c_6024, c_6025, c_6026, c_6027, c_6028, c_6029, c_6030, c_6031, c_6032, c_6033, c_6034, c_6035, c_6036, w_6037, w_6038⟩ | ⟨c_6039, c_6040, c_6041, c_6042, c_6043, c_6044, c_6045, c_6046, c_6047, c_6048, c_6049, c_6050, c_6051, c_6052, c_6053, w_6054, w_6055⟩ | ⟨c_6056, c_6057, c_6058, c_6059, c_6060, c_6061, c_6062, c_6063, c_6064, c_6065, c_6066, c_6067, c_6068, c_6069, c_6070, c_6071, c_6072, w_6073, w_6074⟩ | ⟨c_6075, c_6076, c_6077, c_6078, c_6079, c_6080, c_6081, c_6082, c_6083, c_6084, c_6085, c_6086, c_6087, c_6088, c_6089, c_6090, c_6091, w_6092, w_6093⟩ | ⟨c_6094, c_6095, c_6096, c_6097, c_6098, c_6099, c_6100, c_6101, c_6102, c_6103, c_6104, c_6105, c_6106, c_6107, c_6108, w_6109, w_6110⟩ | ⟨c_6111, c_6112, c_6113, c_6114, c_6115, c_6116, c_6117, c_6118, c_6119, c_6120, c_6121, c_6122, c_6123, c_6124, c_6125, c_6126, c_6127, w_6128, w_6129⟩ | ⟨c_6130, c_6131, c_6132, c_6133, c_6134, c_6135, c_6136, c_6137, c_6138, c_6139, c_6140, c_6141, c_6142, c_6143, c_6144, c_6145, c_6146, w_6147, w_6148⟩ | ⟨c_6149, c_6150, c_6151, c_6152, c_6153, c_6154, c_6155, c_6156, c_6157, c_6158, c_6159, c_6160, c_6161, c_6162, c_6163, w_6164, w_6165⟩ | ⟨c_6166, c_6167, c_6168, c_6169, c_6170, c_6171, c_6172, c_6173, c_6174, c_6175, c_6176, c_6177, c_6178, c_6179, c_6180, c_6181, c_6182, w_6183, w_6184⟩ | ⟨c_6185, c_6186, c_6187, c_6188, c_6189, c_6190, c_6191, c_6192, c_6193, c_6194, c_6195, c_6196, c_6197, c_6198, c_6199, c_6200, c_6201, w_6202, w_6203⟩ | ⟨c_6204, c_6205, c_6206, c_6207, c_6208, c_6209, c_6210, c_6211, c_6212, c_6213, c_6214, c_6215, c_6216, w_6217, w_6218⟩ | ⟨c_6219, c_6220, c_6221, c_6222, c_6223, c_6224, c_6225, c_6226, c_6227, c_6228, c_6229, c_6230, c_6231, c_6232, c_6233, w_6234, w_6235⟩ | ⟨c_6236, c_6237, c_6238, c_6239, c_6240, c_6241, c_6242, c_6243, c_6244, c_6245, c_6246, c_6247, c_6248, c_6249, c_6250, w_6251, w_6252⟩ | ⟨c_6253, c_6254, c_6255, c_6256, c_6257, c_6258, c_6259, c_6260, c_6261, c_6262, c_6263, c_6264, c_6265, w_6266, w_6267⟩ | ⟨c_6268, c_6269, c_6270, c_6271, c_6272, c_6273, c_6274, c_6275, c_6276, c_6277, c_6278, c_6279, c_6280, c_6281, c_6282, w_6283, w_6284⟩ | ⟨c_6285, c_6286, c_6287, c_6288, c_6289, c_6290, c_6291, c_6292, c_6293, c_6294, c_6295, c_6296, c_6297, c_6298, c_6299, w_6300, w_6301⟩ | ⟨c_6302, c_6303, c_6304, c_6305, c_6306, c_6307, c_6308, c_6309, c_6310, c_6311, c_6312, c_6313, w_6314, w_6315⟩ | ⟨c_6316, c_6317, c_6318, c_6319, c_6320, c_6321, c_6322, c_6323, c_6324, c_6325, c_6326, c_6327, c_6328, c_6329, w_6330, w_6331⟩ | ⟨c_6332, c_6333, c_6334, c_6335, c_6336, c_6337, c_6338, c_6339, c_6340, c_6341, c_6342, c_6343, c_6344, c_6345, w_6346, w_6347⟩ | ⟨c_6348, c_6349, c_6350, c_6351, c_6352, c_6353, c_6354, c_6355, c_6356, c_6357, c_6358, w_6359, w_6360⟩ | ⟨c_6361, c_6362, c_6363, c_6364, c_6365, c_6366, c_6367, c_6368, c_6369, c_6370, c_6371, c_6372, c_6373, w_6374, w_6375⟩ | ⟨c_6376, c_6377, c_6378, c_6379, c_6380, c_6381, c_6382, c_6383, c_6384, c_6385, c_6386, c_6387, c_6388, w_6389, w_6390⟩ | ⟨c_6391, c_6392, c_6393, c_6394, c_6395, c_6396, c_6397, c_6398, c_6399, c_6400, w_6401, w_6402⟩ | ⟨c_6403, c_6404, c_6405, c_6406, c_6407, c_6408, c_6409, c_6410, c_6411, c_6412, c_6413, c_6414, w_6415, w_6416⟩ | ⟨c_6417, c_6418, c_6419, c_6420, c_6421, c_6422, c_6423, c_6424, c_6425, c_6426, c_6427, c_6428, w_6429, w_6430⟩
    · skip
      subst w_5660
      subst w_5661
      exact absurd c_5658 c_53
    · skip
      subst w_5665
      subst w_5666
      exact absurd c_5662 c_53
    · skip
      subst w_5671
      subst w_5672
      exact absurd c_5667 c_53
    · skip
      subst w_5678
      subst w_5679
      exact absurd c_5673 c_53
    · skip
      subst w_5685
      subst w_5686
      exact absurd c_5680 c_53
    · skip
      subst w_5690
      subst w_5691
      exact absurd c_5689 c_49
    · skip
      subst w_5696
      subst w_5697
      exact absurd c_5695 c_50
    · skip
      subst w_5703
      subst w_5704
      exact absurd c_5702 c_51
    · skip
      subst w_5711
      subst w_5712
      exact absurd c_5710 c_52
    · skip
      subst w_5719
      subst w_5720
      obtain ⟨hP, hD⟩ := va_join (wr := [(h0, .inr (10, [.ref x0, .int 0, .ref x1, .ref x2, .ref x3, .ref x4, .ref x5, .ref x6, .ref x7, .ref x8, .int 0, .int 3000])), (o0, .inl (kA 1, 1, .inr (.inl (fun _ => 0))))]) (w1 := [(m0, .inr (11, y0.set 9 (.int 1)))]) hP hD [0] [1, 2] rfl rfl (by decide) (by decide) hk1 hFc hP1 hD1
      generalize H1 = H at hP hS ⊢
      have hP : va_P D vwCl [(h0, .inr (10, [.ref x0, .int 0, .ref x1, .ref x2, .ref x3, .ref x4, .ref x5, .ref x6, .ref x7, .ref x8, .int 0, .int 3000])), (o0, .inl (kA 1, 1, .inr (.inl (fun _ => 0)))), (m0, .inr (11, y0.set 9 (.int 1)))] H := hP
      have hD : va_D A [(h0, .inr (10, [.ref x0, .int 0, .ref x1, .ref x2, .ref x3, .ref x4, .ref x5, .ref x6, .ref x7, .ref x8, .int 0, .int 3000])), (o0, .inl (kA 1, 1, .inr (.inl (fun _ => 0)))), (m0, .inr (11, y0.set 9 (.int 1)))] := hD
      refine lv_lstore (lv' := [(6, .long 0), (5, .int 1), (0, .ref b), (1, .ref h0), (2, .ref m0), (3, .ref o0), (4, .int 0)]) hx hb dL_law_1601 hl (by decide) rfl (fun ls hl => ?_)
      refine lv_aload_n hx hb dL_law_1603 rfl (lv_at hl 4 rfl) ?_
      have hPc := hP.sub (ws' := [(m0, .inr (11, y0.set 9 (.int 1)))]) [2] rfl
      have hDc := hD.sub (ws' := [(m0, .inr (11, y0.set 9 (.int 1)))]) [2] (by decide) rfl
      have hFc := va_free (wc := [(m0, .inr (11, y0.set 9 (.int 1)))]) hD hS hA [2] rfl
      refine va_calli (va_runV (As := []) (rest := []) ⟨hx, hb, hml, hown, hts⟩ (a174_X12_thrown l  D kA V H.size m0 (y0.set 9 (.int 1)) (fun k hk => (by rw [List.length_set]; exact (hq k hk))) (List.getElem?_set_self (hq 9 (by decide)))) (cwV 0 hts (gw_V gw_1879 gw_1880 gw_1881 gw_16 gw_1882) rfl rfl rfl (by decide +kernel) ⟨(Nat.le_of_ble_eq_true rfl), (Nat.le_of_ble_eq_true rfl)⟩) ⟨aP.blind, va_recv hK hP (ci := 11) (q0 := 2) rfl rfl, aP.pre hE hS hPc hK hDc hFc⟩ rfl rfl hl.1 rfl (lv_room (Nat.le_of_ble_eq_true rfl)) dL_law_1604 ⟨(Nat.le_of_ble_eq_true rfl), (Nat.le_of_ble_eq_true rfl)⟩) hS (fun q _ h => hFc q h) hFc (fun r_6431 u t H1 locs ht hvm hw hB hz1 hk1 hS => ?_)
      obtain ⟨hP1, hD1⟩ := hB
      rw [ht] at hP1
      try dsimp only at hw hP1 hD1
      have w_6432 := hw
      subst w_6432
      obtain ⟨hP, hD⟩ := va_join (wr := [(h0, .inr (10, [.ref x0, .int 0, .ref x1, .ref x2, .ref x3, .ref x4, .ref x5, .ref x6, .ref x7, .ref x8, .int 0, .int 3000])), (o0, .inl (kA 1, 1, .inr (.inl (fun _ => 0))))]) (w1 := [(m0, .inr (11, (y0.set 9 (.int 1))))]) hP hD [2] [0, 1] rfl rfl (by decide) (by decide) hk1 hFc hP1 hD1
      generalize H1 = H at hP hS ⊢
      have hP : va_P D vwCl [(h0, .inr (10, [.ref x0, .int 0, .ref x1, .ref x2, .ref x3, .ref x4, .ref x5, .ref x6, .ref x7, .ref x8, .int 0, .int 3000])), (o0, .inl (kA 1, 1, .inr (.inl (fun _ => 0)))), (m0, .inr (11, (y0.set 9 (.int 1))))] H := hP
      have hD : va_D A [(h0, .inr (10, [.ref x0, .int 0, .ref x1, .ref x2, .ref x3, .ref x4, .ref x5, .ref x6, .ref x7, .ref x8, .int 0, .int 3000])), (o0, .inl (kA 1, 1, .inr (.inl (fun _ => 0)))), (m0, .inr (11, (y0.set 9 (.int 1))))] := hD
      refine lv_iload hx hb dL_law_1607 (lv_at hl 1 rfl) ?_
      refine lv_icmp_eq (tgt := 1614) hx hb dL_law_1609 (by decide) (fun c_6433 => ?_) (fun c_6433 => ?_)
      · skip
        refine lv_iload hx hb dL_law_1614 (lv_at hl 1 rfl) ?_
        refine lv_if_ne (tgt := 1630) hx hb dL_law_1616 (by decide) (fun c_6434 => ?_) (fun c_6434 => ?_)
        · skip
          refine lv_goto (tgt := 1804) hx hb dL_law_1630 (by decide) ?_
          exact lk_tail hC hA2 (lv_sub hl [2, 6] rfl) hS (Nat.le_of_ble_eq_true rfl) (Nat.le_of_ble_eq_true rfl)
        · exact absurd c_6434 (by decide)
      · exact absurd (by decide) c_6433
    · skip
      subst w_5724
      subst w_5725
      exact absurd (Int32.not_le.mp c_54) c_5722
    · skip
      subst w_5730
      subst w_5731
      exact absurd (Int32.not_le.mp c_54) c_5727
    · skip
      subst w_5737
      subst w_5738
      exact absurd (Int32.not_le.mp c_54) c_5733
    · skip
      subst w_5745
      subst w_5746
      exact absurd (Int32.not_le.mp c_54) c_5740
    · skip
      subst w_5766
      subst w_5767
      exact absurd (Int32.not_le.mp c_54) c_5748
    · skip
      subst w_5788
      subst w_5789
      exact absurd (Int32.not_le.mp c_54) c_5769
    · skip
      subst w_5811
      subst w_5812
      exact absurd (Int32.not_le.mp c_54) c_5791
    · skip
      subst w_5834
      subst w_5835
      exact absurd (Int32.not_le.mp c_54) c_5814
    · skip
      subst w_5855
      subst w_5856
      exact absurd (Int32.not_le.mp c_54) c_5837
    · skip
      subst w_5877
      subst w_5878
      exact absurd (Int32.not_le.mp c_54) c_5858
    · skip
      subst w_5897
      subst w_5898
      exact absurd (Int32.not_le.mp c_54) c_5880
    · skip
      subst w_5918
      subst w_5919
      exact absurd (Int32.not_le.mp c_54) c_5900
    · skip
      subst w_5937
      subst w_5938
      exact absurd (Int32.not_le.mp c_54) c_5921
    · skip
      subst w_5958
      subst w_5959
      exact absurd (Int32.not_le.mp c_54) c_5940
    · skip
      subst w_5979
      subst w_5980
      exact absurd (Int32.not_le.mp c_54) c_5961
    · skip
      subst w_5997
      subst w_5998
      exact absurd (Int32.not_le.mp c_54) c_5982
    · skip
      subst w_6017
      subst w_6018
      exact absurd (Int32.not_le.mp c_54) c_6000
    · skip
      subst w_6037
      subst w_6038
      exact absurd (Int32.not_le.mp c_54) c_6020
    · skip
      subst w_6054
      subst w_6055
      exact absurd (Int32.not_le.mp c_54) c_6040
    · skip
      subst w_6073
      subst w_6074
      exact absurd (Int32.not_le.mp c_54) c_6057
    · skip
      subst w_6092
      subst w_6093
      exact absurd (Int32.not_le.mp c_54) c_6076
    · skip
      subst w_6109
      subst w_6110
      exact absurd (Int32.not_le.mp c_54) c_6095
    · skip
      subst w_6128
      subst w_6129
      exact absurd (Int32.not_le.mp c_54) c_6112
    · skip
      subst w_6147
      subst w_6148
      exact absurd (Int32.not_le.mp c_54) c_6131
    · skip
      subst w_6164
      subst w_6165
      exact absurd (Int32.not_le.mp c_54) c_6150
    · skip
      subst w_6183
      subst w_6184
      exact absurd (Int32.not_le.mp c_54) c_6167
    · skip
      subst w_6202
      subst w_6203
      exact absurd (Int32.not_le.mp c_54) c_6186
    · skip
      subst w_6217
      subst w_6218
      exact absurd (Int32.not_le.mp c_54) c_6205
    · skip
      subst w_6234
      subst w_6235
      exact absurd (Int32.not_le.mp c_54) c_6220
    · skip
      subst w_6251
      subst w_6252
      exact absurd (Int32.not_le.mp c_54) c_6237
    · skip
      subst w_6266
      subst w_6267
      exact absurd (Int32.not_le.mp c_54) c_6254
    · skip
      subst w_6283
      subst w_6284
      exact absurd (Int32.not_le.mp c_54) c_6269
    · skip
      subst w_6300
      subst w_6301
      exact absurd (Int32.not_le.mp c_54) c_6286
    · skip
      subst w_6314
      subst w_6315
      exact absurd (Int32.not_le.mp c_54) c_6303
    · skip
      subst w_6330
      subst w_6331
      exact absurd (Int32.not_le.mp c_54) c_6317
    · skip
      subst w_6346
      subst w_6347
      exact absurd (Int32.not_le.mp c_54) c_6333
    · skip
      subst w_6359
      subst w_6360
      exact absurd (Int32.not_le.mp c_54) c_6349
    · skip
      subst w_6374
      subst w_6375
      exact absurd (Int32.not_le.mp c_54) c_6362
    · skip
      subst w_6389
      subst w_6390
      exact absurd (Int32.not_le.mp c_54) c_6377
    · skip
      subst w_6401
      subst w_6402
      exact absurd (Int32.not_le.mp c_54) c_6392
    · skip
      subst w_6415
      subst w_6416
      exact absurd (Int32.not_le.mp c_54) c_6404
    · skip
      subst w_6429
      subst w_6430
      exact absurd (Int32.not_le.mp c_54) c_6418
  · skip
    subst w_65
    subst w_66
    obtain ⟨hP, hD⟩ := va_join (wr := [(m0, .inr (11, y0))]) (w1 := [(h0, .inr (10, [.ref x0, .int 0, .ref x1, .ref x2, .ref x3, .ref x4, .ref x5, .ref x6, .ref x7, .ref x8, .int 0, .int 3000])), (o0, .inl (kA 1, 1, .inr (.inl (vp_updL (fun _ => 0) 0 (n_cut (xs 2) (n_combine (xs 1) 1 (n_cut (xs 2) ((((xs 4).toInt64) <<< ((32 : Int32).toInt64 &&& 63)) ||| (((xs 5).toInt64) &&& 4294967295))) (n_cut (xs 3) ((((xs 6).toInt64) <<< ((32 : Int32).toInt64 &&& 63)) ||| (((xs 7).toInt64) &&& 4294967295)))))))))]) hP hD [0, 2] [1] rfl rfl (by decide) (by decide) hk1 hFc hP1 hD1
    generalize H1 = H at hP hS ⊢
    have hP : va_P D vwCl [(m0, .inr (11, y0)), (h0, .inr (10, [.ref x0, .int 0, .ref x1, .ref x2, .ref x3, .ref x4, .ref x5, .ref x6, .ref x7, .ref x8, .int 0, .int 3000])), (o0, .inl (kA 1, 1, .inr (.inl (vp_updL (fun _ => 0) 0 (n_cut (xs 2) (n_combine (xs 1) 1 (n_cut (xs 2) ((((xs 4).toInt64) <<< ((32 : Int32).toInt64 &&& 63)) ||| (((xs 5).toInt64) &&& 4294967295))) (n_cut (xs 3) ((((xs 6).toInt64) <<< ((32 : Int32).toInt64 &&& 63)) ||| (((xs 7).toInt64) &&& 4294967295)))))))))] H := hP
    have hD : va_D A [(m0, .inr (11, y0)), (h0, .inr (10, [.ref x0, .int 0, .ref x1, .ref x2, .ref x3, .ref x4, .ref x5, .ref x6, .ref x7, .ref x8, .int 0, .int 3000])), (o0, .inl (kA 1, 1, .inr (.inl (vp_updL (fun _ => 0) 0 (n_cut (xs 2) (n_combine (xs 1) 1 (n_cut (xs 2) ((((xs 4).toInt64) <<< ((32 : Int32).toInt64 &&& 63)) ||| (((xs 5).toInt64) &&& 4294967295))) (n_cut (xs 3) ((((xs 6).toInt64) <<< ((32 : Int32).toInt64 &&& 63)) ||| (((xs 7).toInt64) &&& 4294967295)))))))))] := hD
    refine lv_istore (lv' := [(5, .int 0), (0, .ref b), (1, .ref h0), (2, .ref m0), (3, .ref o0), (4, .int 0)]) hx hb dL_law_1531 hl (by decide) rfl (fun ls hl => ?_)
    refine lv_aload_n hx hb dL_law_1533 rfl (lv_at hl 3 rfl) ?_
    refine lv_aload_n hx hb dL_law_1534 rfl (lv_at hl 1 rfl) ?_
    refine lv_iload hx hb dL_law_1535 (lv_at hl 5 rfl) ?_
    refine lv_iconst (v := 1) hx hb dL_law_1537 (by decide) ?_
    refine lv_iadd hx hb dL_law_1538 ?_
    refine W.eq (g2 := F0 m 1539 ls [.int 1, .ref b, .ref m0]) rfl ?_
    refine va_sld hx hb hX hbl hbA hS (show vp_in 1 8 by unfold vp_in; decide) dL_law_1539 ?_
    refine W.eq (g2 := F0 m 1540 ls [.int (xs 1), .ref m0]) rfl ?_
    refine lv_aload_n hx hb dL_law_1540 rfl (lv_at hl 1 rfl) ?_
    refine lv_iload hx hb dL_law_1541 (lv_at hl 5 rfl) ?_
    refine lv_iconst (v := 2) hx hb dL_law_1543 (by decide) ?_
    refine lv_iadd hx hb dL_law_1544 ?_
    refine W.eq (g2 := F0 m 1545 ls [.int 2, .ref b, .int (xs 1), .ref m0]) rfl ?_
    refine va_sld hx hb hX hbl hbA hS (show vp_in 2 8 by unfold vp_in; decide) dL_law_1545 ?_
    refine W.eq (g2 := F0 m 1546 ls [.int (xs 2), .int (xs 1), .ref m0]) rfl ?_
    refine lv_aload_n hx hb dL_law_1546 rfl (lv_at hl 1 rfl) ?_
    refine lv_iload hx hb dL_law_1547 (lv_at hl 5 rfl) ?_
    refine lv_iconst (v := 3) hx hb dL_law_1549 (by decide) ?_
    refine lv_iadd hx hb dL_law_1550 ?_
    refine W.eq (g2 := F0 m 1551 ls [.int 3, .ref b, .int (xs 2), .int (xs 1), .ref m0]) rfl ?_
    refine va_sld hx hb hX hbl hbA hS (show vp_in 3 8 by unfold vp_in; decide) dL_law_1551 ?_
    refine W.eq (g2 := F0 m 1552 ls [.int (xs 3), .int (xs 2), .int (xs 1), .ref m0]) rfl ?_
    refine lv_aload_n hx hb dL_law_1552 rfl (lv_at hl 1 rfl) ?_
    refine lv_iload hx hb dL_law_1553 (lv_at hl 5 rfl) ?_
    refine lv_iconst (v := 4) hx hb dL_law_1555 (by decide) ?_
    refine lv_iadd hx hb dL_law_1556 ?_
    refine W.eq (g2 := F0 m 1557 ls [.int 4, .ref b, .int (xs 3), .int (xs 2), .int (xs 1), .ref m0]) rfl ?_
    refine va_sld hx hb hX hbl hbA hS (show vp_in 4 8 by unfold vp_in; decide) dL_law_1557 ?_
    refine W.eq (g2 := F0 m 1558 ls [.int (xs 4), .int (xs 3), .int (xs 2), .int (xs 1), .ref m0]) rfl ?_
    refine lv_i2l (v := (xs 4).toInt64) hx hb dL_law_1558 rfl ?_
    refine lv_bipush (v := 32) hx hb dL_law_1559 (by decide) ?_
    refine lv_lshl (v := ((xs 4).toInt64) <<< ((32 : Int32).toInt64 &&& 63)) hx hb dL_law_1561 rfl ?_
    refine lv_aload_n hx hb dL_law_1562 rfl (lv_at hl 1 rfl) ?_
    refine lv_iload hx hb dL_law_1563 (lv_at hl 5 rfl) ?_
    refine lv_iconst (v := 5) hx hb dL_law_1565 (by decide) ?_
    refine lv_iadd hx hb dL_law_1566 ?_
    refine W.eq (g2 := F0 m 1567 ls [.int 5, .ref b, .long (((xs 4).toInt64) <<< ((32 : Int32).toInt64 &&& 63)), .int (xs 3), .int (xs 2), .int (xs 1), .ref m0]) rfl ?_
    refine va_sld hx hb hX hbl hbA hS (show vp_in 5 8 by unfold vp_in; decide) dL_law_1567 ?_
    refine W.eq (g2 := F0 m 1568 ls [.int (xs 5), .long (((xs 4).toInt64) <<< ((32 : Int32).toInt64 &&& 63)), .int (xs 3), .int (xs 2), .int (xs 1), .ref m0]) rfl ?_
    refine lv_i2l (v := (xs 5).toInt64) hx hb dL_law_1568 rfl ?_
    refine lv_ldc2 (v := 4294967295) hx hb hown (hG _ gw_2764) dL_law_1569 ?_
    refine lv_land hx hb dL_law_1572 ?_
    refine lv_lor hx hb dL_law_1573 ?_
    refine lv_aload_n hx hb dL_law_1574 rfl (lv_at hl 1 rfl) ?_
    refine lv_iload hx hb dL_law_1575 (lv_at hl 5 rfl) ?_
    refine lv_bipush (v := 6) hx hb dL_law_1577 (by decide) ?_
    refine lv_iadd hx hb dL_law_1579 ?_
    refine W.eq (g2 := F0 m 1580 ls [.int 6, .ref b, .long ((((xs 4).toInt64) <<< ((32 : Int32).toInt64 &&& 63)) ||| (((xs 5).toInt64) &&& 4294967295)), .int (xs 3), .int (xs 2), .int (xs 1), .ref m0]) rfl ?_
    refine va_sld hx hb hX hbl hbA hS (show vp_in 6 8 by unfold vp_in; decide) dL_law_1580 ?_
    refine W.eq (g2 := F0 m 1581 ls [.int (xs 6), .long ((((xs 4).toInt64) <<< ((32 : Int32).toInt64 &&& 63)) ||| (((xs 5).toInt64) &&& 4294967295)), .int (xs 3), .int (xs 2), .int (xs 1), .ref m0]) rfl ?_
    refine lv_i2l (v := (xs 6).toInt64) hx hb dL_law_1581 rfl ?_
    refine lv_bipush (v := 32) hx hb dL_law_1582 (by decide) ?_
    refine lv_lshl (v := ((xs 6).toInt64) <<< ((32 : Int32).toInt64 &&& 63)) hx hb dL_law_1584 rfl ?_
    refine lv_aload_n hx hb dL_law_1585 rfl (lv_at hl 1 rfl) ?_
    refine lv_iload hx hb dL_law_1586 (lv_at hl 5 rfl) ?_
    refine lv_bipush (v := 7) hx hb dL_law_1588 (by decide) ?_
    refine lv_iadd hx hb dL_law_1590 ?_
    refine W.eq (g2 := F0 m 1591 ls [.int 7, .ref b, .long (((xs 6).toInt64) <<< ((32 : Int32).toInt64 &&& 63)), .long ((((xs 4).toInt64) <<< ((32 : Int32).toInt64 &&& 63)) ||| (((xs 5).toInt64) &&& 4294967295)), .int (xs 3), .int (xs 2), .int (xs 1), .ref m0]) rfl ?_
    refine va_sld hx hb hX hbl hbA hS (show vp_in 7 8 by unfold vp_in; decide) dL_law_1591 ?_
    refine W.eq (g2 := F0 m 1592 ls [.int (xs 7), .long (((xs 6).toInt64) <<< ((32 : Int32).toInt64 &&& 63)), .long ((((xs 4).toInt64) <<< ((32 : Int32).toInt64 &&& 63)) ||| (((xs 5).toInt64) &&& 4294967295)), .int (xs 3), .int (xs 2), .int (xs 1), .ref m0]) rfl ?_
    refine lv_i2l (v := (xs 7).toInt64) hx hb dL_law_1592 rfl ?_
    refine lv_ldc2 (v := 4294967295) hx hb hown (hG _ gw_2764) dL_law_1593 ?_
    refine lv_land hx hb dL_law_1596 ?_
    refine lv_lor hx hb dL_law_1597 ?_
    have hPc := hP.sub (ws' := [(m0, .inr (11, y0))]) [0] rfl
    have hDc := hD.sub (ws' := [(m0, .inr (11, y0))]) [0] (by decide) rfl
    have hFc := va_free (wc := [(m0, .inr (11, y0))]) hD hS hA [0] rfl
    refine va_calll (va_runV (As := [.int (xs 1), .int (xs 2), .int (xs 3), .long ((((xs 4).toInt64) <<< ((32 : Int32).toInt64 &&& 63)) ||| (((xs 5).toInt64) &&& 4294967295)), .long ((((xs 6).toInt64) <<< ((32 : Int32).toInt64 &&& 63)) ||| (((xs 7).toInt64) &&& 4294967295))]) (rest := []) ⟨hx, hb, hml, hown, hts⟩ (a153_X12_work l  D kA V H.size m0 (xs 1) (xs 2) (xs 3) ((((xs 4).toInt64) <<< ((32 : Int32).toInt64 &&& 63)) ||| (((xs 5).toInt64) &&& 4294967295)) ((((xs 6).toInt64) <<< ((32 : Int32).toInt64 &&& 63)) ||| (((xs 7).toInt64) &&& 4294967295)) y0 (fun k hk => (hq k hk)) hq9) (cwV 5 hts (gw_V gw_2756 gw_2757 gw_2758 gw_16 gw_2759) rfl rfl rfl (by decide +kernel) ⟨(Nat.le_of_ble_eq_true rfl), (Nat.le_of_ble_eq_true rfl)⟩) ⟨aP.blind, va_recv hK hP (ci := 11) (q0 := 0) rfl rfl, aP.pre hE hS hPc hK hDc hFc⟩ rfl rfl hl.1 rfl (lv_room (Nat.le_of_ble_eq_true rfl)) dL_law_1598 ⟨(Nat.le_of_ble_eq_true rfl), (Nat.le_of_ble_eq_true rfl)⟩) hS (fun q _ h => hFc q h) hFc (fun r_6435 u t H1 locs ht hvm hw hB hz1 hk1 hS => ?_)
    obtain ⟨u_6436, rfl⟩ : ∃ z, z = u := ⟨u, rfl⟩
    obtain ⟨hP1, hD1⟩ := hB
    rw [ht] at hP1
    try dsimp only at hw hP1 hD1
    rcases hw with ⟨c_6437, c_6438, w_6439, w_6440⟩ | ⟨c_6441, c_6442, c_6443, w_6444, w_6445⟩ | ⟨c_6446, c_6447, c_6448, c_6449, w_6450, w_6451⟩ | ⟨c_6452, c_6453, c_6454, c_6455, c_6456, w_6457, w_6458⟩ | ⟨c_6459, c_6460, c_6461, c_6462, c_6463, w_6464, w_6465⟩ | ⟨c_6466, c_6467, c_6468, w_6469, w_6470⟩ | ⟨c_6471, c_6472, c_6473, c_6474, w_6475, w_6476⟩ | ⟨c_6477, c_6478, c_6479, c_6480, c_6481, w_6482, w_6483⟩ | ⟨c_6484, c_6485, c_6486, c_6487, c_6488, c_6489, w_6490, w_6491⟩ | ⟨c_6492, c_6493, c_6494, c_6495, c_6496, c_6497, w_6498, w_6499⟩ | ⟨c_6500, c_6501, c_6502, w_6503, w_6504⟩ | ⟨c_6505, c_6506, c_6507, c_6508, w_6509, w_6510⟩ | ⟨c_6511, c_6512, c_6513, c_6514, c_6515, w_6516, w_6517⟩ | ⟨c_6518, c_6519, c_6520, c_6521, c_6522, c_6523, w_6524, w_6525⟩ | ⟨c_6526, c_6527, c_6528, c_6529, c_6530, c_6531, c_6532, c_6533, c_6534, c_6535, c_6536, c_6537, c_6538, c_6539, c_6540, c_6541, c_6542, c_6543, c_6544, w_6545, w_6546⟩ | ⟨c_6547, c_6548, c_6549, c_6550, c_6551, c_6552, c_6553, c_6554, c_6555, c_6556, c_6557, c_6558, c_6559, c_6560, c_6561, c_6562, c_6563, c_6564, c_6565, c_6566, w_6567, w_6568⟩ | ⟨c_6569, c_6570, c_6571, c_6572, c_6573, c_6574, c_6575, c_6576, c_6577, c_6578, c_6579, c_6580, c_6581, c_6582, c_6583, c_6584, c_6585, c_6586, c_6587, c_6588, c_6589, w_6590, w_6591⟩ | ⟨c_6592, c_6593, c_6594, c_6595, c_6596, c_6597, c_6598, c_6599, c_6600, c_6601, c_6602, c_6603, c_6604, c_6605, c_6606, c_6607, c_6608, c_6609, c_6610, c_6611, c_6612, w_6613, w_6614⟩ | ⟨c_6615, c_6616, c_6617, c_6618, c_6619, c_6620, c_6621, c_6622, c_6623, c_6624, c_6625, c_6626, c_6627, c_6628, c_6629, c_6630, c_6631, c_6632, c_6633, w_6634, w_6635⟩ | ⟨c_6636, c_6637, c_6638, c_6639, c_6640, c_6641, c_6642, c_6643, c_6644, c_6645, c_6646, c_6647, c_6648, c_6649, c_6650, c_6651, c_6652, c_6653, c_6654, c_6655, w_6656, w_6657⟩ | ⟨c_6658, c_6659, c_6660, c_6661, c_6662, c_6663, c_6664, c_6665, c_6666, c_6667, c_6668, c_6669, c_6670, c_6671, c_6672, c_6673, c_6674, c_6675, w_6676, w_6677⟩ | ⟨c_6678, c_6679, c_6680, c_6681, c_6682, c_6683, c_6684, c_6685, c_6686, c_6687, c_6688, c_6689, c_6690, c_6691, c_6692, c_6693, c_6694, c_6695, c_6696, w_6697, w_6698⟩ | ⟨c_6699, c_6700, c_6701, c_6702, c_6703, c_6704, c_6705, c_6706, c_6707, c_6708, c_6709, c_6710, c_6711, c_6712, c_6713, c_6714, c_6715, w_6716, w_6717⟩ | ⟨c_6718, c_6719, c_6720, c_6721, c_6722, c_6723, c_6724, c_6725, c_6726, c_6727, c_6728, c_6729, c_6730, c_6731, c_6732, c_6733, c_6734, c_6735, c_6736, w_6737, w_6738⟩ | ⟨c_6739, c_6740, c_6741, c_6742, c_6743, c_6744, c_6745, c_6746, c_6747, c_6748, c_6749, c_6750, c_6751, c_6752, c_6753, c_6754, c_6755, c_6756, c_6757, w_6758, w_6759⟩ | ⟨c_6760, c_6761, c_6762, c_6763, c_6764, c_6765, c_6766, c_6767, c_6768, c_6769, c_6770, c_6771, c_6772, c_6773, c_6774, c_6775, w_6776, w_6777⟩ | ⟨c_6778, c_6779, c_6780, c_6781, c_6782, c_6783, c_6784, c_6785, c_6786, c_6787, c_6788, c_6789, c_6790, c_6791, c_6792, c_6793, c_6794, c_6795, w_6796, w_6797⟩ | ⟨c_6798, c_6799, c_6800, c_6801, c_6802, c_6803, c_6804, c_6805, c_6806, c_6807, c_6808, c_6809, c_6810, c_6811, c_6812, c_6813, c_6814, c_6815, w_6816, w_6817⟩ | ⟨c_6818, c_6819, c_6820, c_6821, c_6822, c_6823, c_6824, c_6825, c_6826, c_6827, c_6828, c_6829, c_6830, c_6831, c_6832, w_6833, w_6834⟩ | ⟨c_6835, c_6836, c_6837, c_6838, c_6839, c_6840, c_6841, c_6842, c_6843, c_6844, c_6845, c_6846, c_6847, c_6848, c_6849, c_6850, c_6851, w_6852, w_6853⟩ | ⟨c_6854, c_6855, c_6856, c_6857, c_6858, c_6859, c_6860, c_6861, c_6862, c_6863, c_6864, c_6865, c_6866, c_6867, c_6868, c_6869, c_6870, w_6871, w_6872⟩ | ⟨c_6873, c_6874, c_6875, c_6876, c_6877, c_6878, c_6879, c_6880, c_6881, c_6882, c_6883, c_6884, c_6885, c_6886, c_6887, w_6888, w_6889⟩ | ⟨c_6890, c_6891, c_6892, c_6893, c_6894, c_6895, c_6896, c_6897, c_6898, c_6899, c_6900, c_6901, c_6902, c_6903, c_6904, c_6905, c_6906, w_6907, w_6908⟩ | ⟨c_6909, c_6910, c_6911, c_6912, c_6913, c_6914, c_6915, c_6916, c_6917, c_6918, c_6919, c_6920, c_6921, c_6922, c_6923, c_6924, c_6925, w_6926, w_6927⟩ | ⟨c_6928, c_6929, c_6930, c_6931, c_6932, c_6933, c_6934, c_6935, c_6936, c_6937, c_6938, c_6939, c_6940, c_6941, c_6942, w_6943, w_6944⟩ | ⟨c_6945, c_6946, c_6947, c_6948, c_6949, c_6950, c_6951, c_6952, c_6953, c_6954, c_6955, c_6956, c_6957, c_6958, c_6959, c_6960, c_6961, w_6962, w_6963⟩ | ⟨c_6964, c_6965, c_6966, c_6967, c_6968, c_6969, c_6970, c_6971, c_6972, c_6973, c_6974, c_6975, c_6976, c_6977, c_6978, c_6979, c_6980, w_6981, w_6982⟩ | ⟨c_6983, c_6984, c_6985, c_6986, c_6987, c_6988, c_6989, c_6990, c_6991, c_6992, c_6993, c_6994, c_6995, w_6996, w_6997⟩ | ⟨c_6998, c_6999, c_7000, c_7001, c_7002, c_7003, c_7004, c_7005, c_7006, c_7007, c_7008, c_7009, c_7010, c_7011, c_7012, w_7013, w_7014⟩ | ⟨c_7015, c_7016, c_7017, c_7018, c_7019, c_7020, c_7021, c_7022, c_7023, c_7024, c_7025, c_7026, c_7027, c_7028, c_7029, w_7030, w_7031⟩ | ⟨c_7032, c_7033, c_7034, c_7035, c_7036, c_7037, c_7038, c_7039, c_7040, c_7041, c_7042, c_7043, c_7044, w_7045, w_7046⟩ | ⟨c_7047, c_7048, c_7049, c_7050, c_7051, c_7052, c_7053, c_7054, c_7055, c_7056, c_7057, c_7058, c_7059, c_7060, c_7061, w_7062, w_7063⟩ | ⟨c_7064, c_7065, c_7066, c_7067, c_7068, c_7069, c_7070, c_7071, c_7072, c_7073, c_7074, c_7075, c_7076, c_7077, c_7078, w_7079, w_7080⟩ | ⟨c_7081, c_7082, c_7083, c_7084, c_7085, c_7086, c_7087, c_7088, c_7089, c_7090, c_7091, c_7092, w_7093, w_7094⟩ | ⟨c_7095, c_7096, c_7097, c_7098, c_7099, c_7100, c_7101, c_7102, c_7103, c_7104, c_7105, c_7106, c_7107, c_7108, w_7109, w_7110⟩ | ⟨c_7111, c_7112, c_7113, c_7114, c_7115, c_7116, c_7117, c_7118, c_7119, c_7120, c_7121, c_7122, c_7123, c_7124, w_7125, w_7126⟩ | ⟨c_7127, c_7128, c_7129, c_7130, c_7131, c_7132, c_7133, c_7134, c_7135, c_7136, c_7137, w_7138, w_7139⟩ | ⟨c_7140, c_7141, c_7142, c_7143, c_7144, c_7145, c_7146, c_7147, c_7148, c_7149, c_7150, c_7151, c_7152, w_7153, w_7154⟩ | ⟨c_7155, c_7156, c_7157, c_7158, c_7159, c_7160, c_7161, c_7162, c_7163, c_7164, c_7165, c_7166, c_7167, w_7168, w_7169⟩ | ⟨c_7170, c_7171, c_7172, c_7173, c_7174, c_7175, c_7176, c_7177, c_7178, c_7179, w_7180, w_7181⟩ | ⟨c_7182, c_7183, c_7184, c_7185, c_7186, c_7187, c_7188, c_7189, c_7190, c_7191, c_7192, c_7193, w_7194, w_7195⟩ | ⟨c_7196, c_7197, c_7198, c_7199, c_7200, c_7201, c_7202, c_7203, c_7204, c_7205, c_7206, c_7207, w_7208, w_7209⟩
    · skip
      subst w_6439
      subst w_6440
      exact absurd c_6437 c_61
    · skip
      subst w_6444
      subst w_6445
      exact absurd c_6441 c_61
    · skip
      subst w_6450
      subst w_6451
      exact absurd c_6446 c_61
    · skip
      subst w_6457
      subst w_6458
      exact absurd c_6452 c_61
    · skip
      subst w_6464
      subst w_6465
      exact absurd c_6459 c_61
    · skip
      subst w_6469
      subst w_6470
      exact absurd c_6467 (Int32.not_lt.mpr c_62)
    · skip
      subst w_6475
      subst w_6476
      exact absurd c_6472 (Int32.not_lt.mpr c_62)
    · skip
      subst w_6482
      subst w_6483
      exact absurd c_6478 (Int32.not_lt.mpr c_62)
    · skip
      subst w_6490
      subst w_6491
      exact absurd c_6485 (Int32.not_lt.mpr c_62)
    · skip
      subst w_6498
      subst w_6499
      exact absurd c_6493 (Int32.not_lt.mpr c_62)
    · skip
      subst w_6503
      subst w_6504
      exact absurd c_6502 c_57
    · skip
      subst w_6509
      subst w_6510
      exact absurd c_6508 c_58
    · skip
      subst w_6516
      subst w_6517
      exact absurd c_6515 c_59
    · skip
      subst w_6524
      subst w_6525
      exact absurd c_6523 c_60
    · skip
      subst w_6545
      subst w_6546
      obtain ⟨hP, hD⟩ := va_join (wr := [(h0, .inr (10, [.ref x0, .int 0, .ref x1, .ref x2, .ref x3, .ref x4, .ref x5, .ref x6, .ref x7, .ref x8, .int 0, .int 3000])), (o0, .inl (kA 1, 1, .inr (.inl (vp_updL (fun _ => 0) 0 (n_cut (xs 2) (n_combine (xs 1) 1 (n_cut (xs 2) ((((xs 4).toInt64) <<< ((32 : Int32).toInt64 &&& 63)) ||| (((xs 5).toInt64) &&& 4294967295))) (n_cut (xs 3) ((((xs 6).toInt64) <<< ((32 : Int32).toInt64 &&& 63)) ||| (((xs 7).toInt64) &&& 4294967295)))))))))]) (w1 := [(m0, .inr (11, y0.set 9 (.int 0)))]) hP hD [0] [1, 2] rfl rfl (by decide) (by decide) hk1 hFc hP1 hD1
      generalize H1 = H at hP hS ⊢
      have hP : va_P D vwCl [(h0, .inr (10, [.ref x0, .int 0, .ref x1, .ref x2, .ref x3, .ref x4, .ref x5, .ref x6, .ref x7, .ref x8, .int 0, .int 3000])), (o0, .inl (kA 1, 1, .inr (.inl (vp_updL (fun _ => 0) 0 (n_cut (xs 2) (n_combine (xs 1) 1 (n_cut (xs 2) ((((xs 4).toInt64) <<< ((32 : Int32).toInt64 &&& 63)) ||| (((xs 5).toInt64) &&& 4294967295))) (n_cut (xs 3) ((((xs 6).toInt64) <<< ((32 : Int32).toInt64 &&& 63)) ||| (((xs 7).toInt64) &&& 4294967295))))))))), (m0, .inr (11, y0.set 9 (.int 0)))] H := hP
      have hD : va_D A [(h0, .inr (10, [.ref x0, .int 0, .ref x1, .ref x2, .ref x3, .ref x4, .ref x5, .ref x6, .ref x7, .ref x8, .int 0, .int 3000])), (o0, .inl (kA 1, 1, .inr (.inl (vp_updL (fun _ => 0) 0 (n_cut (xs 2) (n_combine (xs 1) 1 (n_cut (xs 2) ((((xs 4).toInt64) <<< ((32 : Int32).toInt64 &&& 63)) ||| (((xs 5).toInt64) &&& 4294967295))) (n_cut (xs 3) ((((xs 6).toInt64) <<< ((32 : Int32).toInt64 &&& 63)) ||| (((xs 7).toInt64) &&& 4294967295))))))))), (m0, .inr (11, y0.set 9 (.int 0)))] := hD
      refine lv_lstore (lv' := [(6, .long (n_cut (xs 2) (r_two 203 1 (n_cut (xs 2) ((((xs 4).toInt64) <<< ((32 : Int32).toInt64 &&& 63)) ||| (((xs 5).toInt64) &&& 4294967295))) (n_cut (xs 3) ((((xs 6).toInt64) <<< ((32 : Int32).toInt64 &&& 63)) ||| (((xs 7).toInt64) &&& 4294967295)))))), (5, .int 0), (0, .ref b), (1, .ref h0), (2, .ref m0), (3, .ref o0), (4, .int 0)]) hx hb dL_law_1601 hl (by decide) rfl (fun ls hl => ?_)
      refine lv_aload_n hx hb dL_law_1603 rfl (lv_at hl 4 rfl) ?_
      have hPc := hP.sub (ws' := [(m0, .inr (11, y0.set 9 (.int 0)))]) [2] rfl
      have hDc := hD.sub (ws' := [(m0, .inr (11, y0.set 9 (.int 0)))]) [2] (by decide) rfl
      have hFc := va_free (wc := [(m0, .inr (11, y0.set 9 (.int 0)))]) hD hS hA [2] rfl
      refine va_calli (va_runV (As := []) (rest := []) ⟨hx, hb, hml, hown, hts⟩ (a94_X12_thrown l  D kA V H.size m0 (y0.set 9 (.int 0)) (fun k hk => (by rw [List.length_set]; exact (hq k hk))) (List.getElem?_set_self (hq 9 (by decide)))) (cwV 0 hts (gw_V gw_1879 gw_1880 gw_1881 gw_16 gw_1882) rfl rfl rfl (by decide +kernel) ⟨(Nat.le_of_ble_eq_true rfl), (Nat.le_of_ble_eq_true rfl)⟩) ⟨aP.blind, va_recv hK hP (ci := 11) (q0 := 2) rfl rfl, aP.pre hE hS hPc hK hDc hFc⟩ rfl rfl hl.1 rfl (lv_room (Nat.le_of_ble_eq_true rfl)) dL_law_1604 ⟨(Nat.le_of_ble_eq_true rfl), (Nat.le_of_ble_eq_true rfl)⟩) hS (fun q _ h => hFc q h) hFc (fun r_7210 u t H1 locs ht hvm hw hB hz1 hk1 hS => ?_)
      obtain ⟨hP1, hD1⟩ := hB
      rw [ht] at hP1
      try dsimp only at hw hP1 hD1
      have w_7211 := hw
      subst w_7211
      obtain ⟨hP, hD⟩ := va_join (wr := [(h0, .inr (10, [.ref x0, .int 0, .ref x1, .ref x2, .ref x3, .ref x4, .ref x5, .ref x6, .ref x7, .ref x8, .int 0, .int 3000])), (o0, .inl (kA 1, 1, .inr (.inl (vp_updL (fun _ => 0) 0 (n_cut (xs 2) (n_combine (xs 1) 1 (n_cut (xs 2) ((((xs 4).toInt64) <<< ((32 : Int32).toInt64 &&& 63)) ||| (((xs 5).toInt64) &&& 4294967295))) (n_cut (xs 3) ((((xs 6).toInt64) <<< ((32 : Int32).toInt64 &&& 63)) ||| (((xs 7).toInt64) &&& 4294967295)))))))))]) (w1 := [(m0, .inr (11, (y0.set 9 (.int 0))))]) hP hD [2] [0, 1] rfl rfl (by decide) (by decide) hk1 hFc hP1 hD1
      generalize H1 = H at hP hS ⊢
      have hP : va_P D vwCl [(h0, .inr (10, [.ref x0, .int 0, .ref x1, .ref x2, .ref x3, .ref x4, .ref x5, .ref x6, .ref x7, .ref x8, .int 0, .int 3000])), (o0, .inl (kA 1, 1, .inr (.inl (vp_updL (fun _ => 0) 0 (n_cut (xs 2) (n_combine (xs 1) 1 (n_cut (xs 2) ((((xs 4).toInt64) <<< ((32 : Int32).toInt64 &&& 63)) ||| (((xs 5).toInt64) &&& 4294967295))) (n_cut (xs 3) ((((xs 6).toInt64) <<< ((32 : Int32).toInt64 &&& 63)) ||| (((xs 7).toInt64) &&& 4294967295))))))))), (m0, .inr (11, (y0.set 9 (.int 0))))] H := hP
      have hD : va_D A [(h0, .inr (10, [.ref x0, .int 0, .ref x1, .ref x2, .ref x3, .ref x4, .ref x5, .ref x6, .ref x7, .ref x8, .int 0, .int 3000])), (o0, .inl (kA 1, 1, .inr (.inl (vp_updL (fun _ => 0) 0 (n_cut (xs 2) (n_combine (xs 1) 1 (n_cut (xs 2) ((((xs 4).toInt64) <<< ((32 : Int32).toInt64 &&& 63)) ||| (((xs 5).toInt64) &&& 4294967295))) (n_cut (xs 3) ((((xs 6).toInt64) <<< ((32 : Int32).toInt64 &&& 63)) ||| (((xs 7).toInt64) &&& 4294967295))))))))), (m0, .inr (11, (y0.set 9 (.int 0))))] := hD
      refine lv_iload hx hb dL_law_1607 (lv_at hl 1 rfl) ?_
      refine lv_icmp_eq (tgt := 1614) hx hb dL_law_1609 (by decide) (fun c_7212 => ?_) (fun c_7212 => ?_)
      · skip
        refine lv_iload hx hb dL_law_1614 (lv_at hl 1 rfl) ?_
        refine lv_if_ne (tgt := 1630) hx hb dL_law_1616 (by decide) (fun c_7213 => ?_) (fun c_7213 => ?_)
        · exact absurd (by decide) c_7213
        · skip
          refine lv_aload_n hx hb dL_law_1619 rfl (lv_at hl 5 rfl) ?_
          refine lv_iconst (v := 0) hx hb dL_law_1620 (by decide) ?_
          refine va_lald hx hb hK hP 1 1 rfl rfl (show vp_in 0 1 by unfold vp_in; decide) dL_law_1621 ?_
          refine W.eq (g2 := F0 m 1622 ls [.long (n_cut (xs 2) (n_combine (xs 1) 1 (n_cut (xs 2) ((((xs 4).toInt64) <<< ((32 : Int32).toInt64 &&& 63)) ||| (((xs 5).toInt64) &&& 4294967295))) (n_cut (xs 3) ((((xs 6).toInt64) <<< ((32 : Int32).toInt64 &&& 63)) ||| (((xs 7).toInt64) &&& 4294967295)))))]) rfl ?_
          refine lv_lload hx hb dL_law_1622 (lv_at hl 0 rfl) ?_
          refine W.lcmp hx hb dL_law_1624 ?_
          refine lv_if_eq (tgt := 1630) hx hb dL_law_1625 (by decide) (fun c_7214 => ?_) (fun c_7214 => ?_)
          · skip
            refine lv_goto (tgt := 1804) hx hb dL_law_1630 (by decide) ?_
            exact lk_tail hC hA2 (lv_sub hl [2, 6] rfl) hS (Nat.le_of_ble_eq_true rfl) (Nat.le_of_ble_eq_true rfl)
          · exact absurd ((lg_cmp_eq _ _).mpr (qx_w1 c_61 c_6527 (fun q => c_63 q.2) (by unfold q_sign; rw [if_neg c_6532, if_neg c_6533, if_neg c_6534, if_neg c_6535, if_neg c_6536, if_neg c_6537, if_neg c_6538, if_neg c_6539, if_neg c_6540, if_neg c_6541]))) c_7214
      · exact absurd (by decide) c_7212
    · skip
      subst w_6567
      subst w_6568
      exact absurd c_64 c_6565
    · skip
      subst w_6590
      subst w_6591
      exact absurd c_64 c_6587
    · skip
      subst w_6613
      subst w_6614
      exact absurd c_64 c_6610
    · skip
      subst w_6634
      subst w_6635
      obtain ⟨hP, hD⟩ := va_join (wr := [(h0, .inr (10, [.ref x0, .int 0, .ref x1, .ref x2, .ref x3, .ref x4, .ref x5, .ref x6, .ref x7, .ref x8, .int 0, .int 3000])), (o0, .inl (kA 1, 1, .inr (.inl (vp_updL (fun _ => 0) 0 (n_cut (xs 2) (n_combine (xs 1) 1 (n_cut (xs 2) ((((xs 4).toInt64) <<< ((32 : Int32).toInt64 &&& 63)) ||| (((xs 5).toInt64) &&& 4294967295))) (n_cut (xs 3) ((((xs 6).toInt64) <<< ((32 : Int32).toInt64 &&& 63)) ||| (((xs 7).toInt64) &&& 4294967295)))))))))]) (w1 := [(m0, .inr (11, y0.set 9 (.int 0)))]) hP hD [0] [1, 2] rfl rfl (by decide) (by decide) hk1 hFc hP1 hD1
      generalize H1 = H at hP hS ⊢
      have hP : va_P D vwCl [(h0, .inr (10, [.ref x0, .int 0, .ref x1, .ref x2, .ref x3, .ref x4, .ref x5, .ref x6, .ref x7, .ref x8, .int 0, .int 3000])), (o0, .inl (kA 1, 1, .inr (.inl (vp_updL (fun _ => 0) 0 (n_cut (xs 2) (n_combine (xs 1) 1 (n_cut (xs 2) ((((xs 4).toInt64) <<< ((32 : Int32).toInt64 &&& 63)) ||| (((xs 5).toInt64) &&& 4294967295))) (n_cut (xs 3) ((((xs 6).toInt64) <<< ((32 : Int32).toInt64 &&& 63)) ||| (((xs 7).toInt64) &&& 4294967295))))))))), (m0, .inr (11, y0.set 9 (.int 0)))] H := hP
      have hD : va_D A [(h0, .inr (10, [.ref x0, .int 0, .ref x1, .ref x2, .ref x3, .ref x4, .ref x5, .ref x6, .ref x7, .ref x8, .int 0, .int 3000])), (o0, .inl (kA 1, 1, .inr (.inl (vp_updL (fun _ => 0) 0 (n_cut (xs 2) (n_combine (xs 1) 1 (n_cut (xs 2) ((((xs 4).toInt64) <<< ((32 : Int32).toInt64 &&& 63)) ||| (((xs 5).toInt64) &&& 4294967295))) (n_cut (xs 3) ((((xs 6).toInt64) <<< ((32 : Int32).toInt64 &&& 63)) ||| (((xs 7).toInt64) &&& 4294967295))))))))), (m0, .inr (11, y0.set 9 (.int 0)))] := hD
      refine lv_lstore (lv' := [(6, .long (n_cut (xs 2) (r_two 222 1 (n_cut (xs 2) ((((xs 4).toInt64) <<< ((32 : Int32).toInt64 &&& 63)) ||| (((xs 5).toInt64) &&& 4294967295))) (n_cut (xs 3) ((((xs 6).toInt64) <<< ((32 : Int32).toInt64 &&& 63)) ||| (((xs 7).toInt64) &&& 4294967295)))))), (5, .int 0), (0, .ref b), (1, .ref h0), (2, .ref m0), (3, .ref o0), (4, .int 0)]) hx hb dL_law_1601 hl (by decide) rfl (fun ls hl => ?_)
      refine lv_aload_n hx hb dL_law_1603 rfl (lv_at hl 4 rfl) ?_
      have hPc := hP.sub (ws' := [(m0, .inr (11, y0.set 9 (.int 0)))]) [2] rfl
      have hDc := hD.sub (ws' := [(m0, .inr (11, y0.set 9 (.int 0)))]) [2] (by decide) rfl
      have hFc := va_free (wc := [(m0, .inr (11, y0.set 9 (.int 0)))]) hD hS hA [2] rfl
      refine va_calli (va_runV (As := []) (rest := []) ⟨hx, hb, hml, hown, hts⟩ (a94_X12_thrown l  D kA V H.size m0 (y0.set 9 (.int 0)) (fun k hk => (by rw [List.length_set]; exact (hq k hk))) (List.getElem?_set_self (hq 9 (by decide)))) (cwV 0 hts (gw_V gw_1879 gw_1880 gw_1881 gw_16 gw_1882) rfl rfl rfl (by decide +kernel) ⟨(Nat.le_of_ble_eq_true rfl), (Nat.le_of_ble_eq_true rfl)⟩) ⟨aP.blind, va_recv hK hP (ci := 11) (q0 := 2) rfl rfl, aP.pre hE hS hPc hK hDc hFc⟩ rfl rfl hl.1 rfl (lv_room (Nat.le_of_ble_eq_true rfl)) dL_law_1604 ⟨(Nat.le_of_ble_eq_true rfl), (Nat.le_of_ble_eq_true rfl)⟩) hS (fun q _ h => hFc q h) hFc (fun r_7215 u t H1 locs ht hvm hw hB hz1 hk1 hS => ?_)
      obtain ⟨hP1, hD1⟩ := hB
      rw [ht] at hP1
      try dsimp only at hw hP1 hD1
      have w_7216 := hw
      subst w_7216
      obtain ⟨hP, hD⟩ := va_join (wr := [(h0, .inr (10, [.ref x0, .int 0, .ref x1, .ref x2, .ref x3, .ref x4, .ref x5, .ref x6, .ref x7, .ref x8, .int 0, .int 3000])), (o0, .inl (kA 1, 1, .inr (.inl (vp_updL (fun _ => 0) 0 (n_cut (xs 2) (n_combine (xs 1) 1 (n_cut (xs 2) ((((xs 4).toInt64) <<< ((32 : Int32).toInt64 &&& 63)) ||| (((xs 5).toInt64) &&& 4294967295))) (n_cut (xs 3) ((((xs 6).toInt64) <<< ((32 : Int32).toInt64 &&& 63)) ||| (((xs 7).toInt64) &&& 4294967295)))))))))]) (w1 := [(m0, .inr (11, (y0.set 9 (.int 0))))]) hP hD [2] [0, 1] rfl rfl (by decide) (by decide) hk1 hFc hP1 hD1
      generalize H1 = H at hP hS ⊢
      have hP : va_P D vwCl [(h0, .inr (10, [.ref x0, .int 0, .ref x1, .ref x2, .ref x3, .ref x4, .ref x5, .ref x6, .ref x7, .ref x8, .int 0, .int 3000])), (o0, .inl (kA 1, 1, .inr (.inl (vp_updL (fun _ => 0) 0 (n_cut (xs 2) (n_combine (xs 1) 1 (n_cut (xs 2) ((((xs 4).toInt64) <<< ((32 : Int32).toInt64 &&& 63)) ||| (((xs 5).toInt64) &&& 4294967295))) (n_cut (xs 3) ((((xs 6).toInt64) <<< ((32 : Int32).toInt64 &&& 63)) ||| (((xs 7).toInt64) &&& 4294967295))))))))), (m0, .inr (11, (y0.set 9 (.int 0))))] H := hP
      have hD : va_D A [(h0, .inr (10, [.ref x0, .int 0, .ref x1, .ref x2, .ref x3, .ref x4, .ref x5, .ref x6, .ref x7, .ref x8, .int 0, .int 3000])), (o0, .inl (kA 1, 1, .inr (.inl (vp_updL (fun _ => 0) 0 (n_cut (xs 2) (n_combine (xs 1) 1 (n_cut (xs 2) ((((xs 4).toInt64) <<< ((32 : Int32).toInt64 &&& 63)) ||| (((xs 5).toInt64) &&& 4294967295))) (n_cut (xs 3) ((((xs 6).toInt64) <<< ((32 : Int32).toInt64 &&& 63)) ||| (((xs 7).toInt64) &&& 4294967295))))))))), (m0, .inr (11, (y0.set 9 (.int 0))))] := hD
      refine lv_iload hx hb dL_law_1607 (lv_at hl 1 rfl) ?_
      refine lv_icmp_eq (tgt := 1614) hx hb dL_law_1609 (by decide) (fun c_7217 => ?_) (fun c_7217 => ?_)
      · skip
        refine lv_iload hx hb dL_law_1614 (lv_at hl 1 rfl) ?_
        refine lv_if_ne (tgt := 1630) hx hb dL_law_1616 (by decide) (fun c_7218 => ?_) (fun c_7218 => ?_)
        · exact absurd (by decide) c_7218
        · skip
          refine lv_aload_n hx hb dL_law_1619 rfl (lv_at hl 5 rfl) ?_
          refine lv_iconst (v := 0) hx hb dL_law_1620 (by decide) ?_
          refine va_lald hx hb hK hP 1 1 rfl rfl (show vp_in 0 1 by unfold vp_in; decide) dL_law_1621 ?_
          refine W.eq (g2 := F0 m 1622 ls [.long (n_cut (xs 2) (n_combine (xs 1) 1 (n_cut (xs 2) ((((xs 4).toInt64) <<< ((32 : Int32).toInt64 &&& 63)) ||| (((xs 5).toInt64) &&& 4294967295))) (n_cut (xs 3) ((((xs 6).toInt64) <<< ((32 : Int32).toInt64 &&& 63)) ||| (((xs 7).toInt64) &&& 4294967295)))))]) rfl ?_
          refine lv_lload hx hb dL_law_1622 (lv_at hl 0 rfl) ?_
          refine W.lcmp hx hb dL_law_1624 ?_
          refine lv_if_eq (tgt := 1630) hx hb dL_law_1625 (by decide) (fun c_7219 => ?_) (fun c_7219 => ?_)
          · skip
            refine lv_goto (tgt := 1804) hx hb dL_law_1630 (by decide) ?_
            exact lk_tail hC hA2 (lv_sub hl [2, 6] rfl) hS (Nat.le_of_ble_eq_true rfl) (Nat.le_of_ble_eq_true rfl)
          · exact absurd ((lg_cmp_eq _ _).mpr (qx_w1 c_61 c_6616 (fun q => c_63 q.2) (by rw [c_6630]; decide))) c_7219
      · exact absurd (by decide) c_7217
    · skip
      subst w_6656
      subst w_6657
      exact absurd c_64 c_6654
    · skip
      subst w_6676
      subst w_6677
      obtain ⟨hP, hD⟩ := va_join (wr := [(h0, .inr (10, [.ref x0, .int 0, .ref x1, .ref x2, .ref x3, .ref x4, .ref x5, .ref x6, .ref x7, .ref x8, .int 0, .int 3000])), (o0, .inl (kA 1, 1, .inr (.inl (vp_updL (fun _ => 0) 0 (n_cut (xs 2) (n_combine (xs 1) 1 (n_cut (xs 2) ((((xs 4).toInt64) <<< ((32 : Int32).toInt64 &&& 63)) ||| (((xs 5).toInt64) &&& 4294967295))) (n_cut (xs 3) ((((xs 6).toInt64) <<< ((32 : Int32).toInt64 &&& 63)) ||| (((xs 7).toInt64) &&& 4294967295)))))))))]) (w1 := [(m0, .inr (11, y0.set 9 (.int 0)))]) hP hD [0] [1, 2] rfl rfl (by decide) (by decide) hk1 hFc hP1 hD1
      generalize H1 = H at hP hS ⊢
      have hP : va_P D vwCl [(h0, .inr (10, [.ref x0, .int 0, .ref x1, .ref x2, .ref x3, .ref x4, .ref x5, .ref x6, .ref x7, .ref x8, .int 0, .int 3000])), (o0, .inl (kA 1, 1, .inr (.inl (vp_updL (fun _ => 0) 0 (n_cut (xs 2) (n_combine (xs 1) 1 (n_cut (xs 2) ((((xs 4).toInt64) <<< ((32 : Int32).toInt64 &&& 63)) ||| (((xs 5).toInt64) &&& 4294967295))) (n_cut (xs 3) ((((xs 6).toInt64) <<< ((32 : Int32).toInt64 &&& 63)) ||| (((xs 7).toInt64) &&& 4294967295))))))))), (m0, .inr (11, y0.set 9 (.int 0)))] H := hP
      have hD : va_D A [(h0, .inr (10, [.ref x0, .int 0, .ref x1, .ref x2, .ref x3, .ref x4, .ref x5, .ref x6, .ref x7, .ref x8, .int 0, .int 3000])), (o0, .inl (kA 1, 1, .inr (.inl (vp_updL (fun _ => 0) 0 (n_cut (xs 2) (n_combine (xs 1) 1 (n_cut (xs 2) ((((xs 4).toInt64) <<< ((32 : Int32).toInt64 &&& 63)) ||| (((xs 5).toInt64) &&& 4294967295))) (n_cut (xs 3) ((((xs 6).toInt64) <<< ((32 : Int32).toInt64 &&& 63)) ||| (((xs 7).toInt64) &&& 4294967295))))))))), (m0, .inr (11, y0.set 9 (.int 0)))] := hD
      refine lv_lstore (lv' := [(6, .long (n_cut (xs 2) (r_two 221 1 (n_cut (xs 2) ((((xs 4).toInt64) <<< ((32 : Int32).toInt64 &&& 63)) ||| (((xs 5).toInt64) &&& 4294967295))) (n_cut (xs 3) ((((xs 6).toInt64) <<< ((32 : Int32).toInt64 &&& 63)) ||| (((xs 7).toInt64) &&& 4294967295)))))), (5, .int 0), (0, .ref b), (1, .ref h0), (2, .ref m0), (3, .ref o0), (4, .int 0)]) hx hb dL_law_1601 hl (by decide) rfl (fun ls hl => ?_)
      refine lv_aload_n hx hb dL_law_1603 rfl (lv_at hl 4 rfl) ?_
      have hPc := hP.sub (ws' := [(m0, .inr (11, y0.set 9 (.int 0)))]) [2] rfl
      have hDc := hD.sub (ws' := [(m0, .inr (11, y0.set 9 (.int 0)))]) [2] (by decide) rfl
      have hFc := va_free (wc := [(m0, .inr (11, y0.set 9 (.int 0)))]) hD hS hA [2] rfl
      refine va_calli (va_runV (As := []) (rest := []) ⟨hx, hb, hml, hown, hts⟩ (a94_X12_thrown l  D kA V H.size m0 (y0.set 9 (.int 0)) (fun k hk => (by rw [List.length_set]; exact (hq k hk))) (List.getElem?_set_self (hq 9 (by decide)))) (cwV 0 hts (gw_V gw_1879 gw_1880 gw_1881 gw_16 gw_1882) rfl rfl rfl (by decide +kernel) ⟨(Nat.le_of_ble_eq_true rfl), (Nat.le_of_ble_eq_true rfl)⟩) ⟨aP.blind, va_recv hK hP (ci := 11) (q0 := 2) rfl rfl, aP.pre hE hS hPc hK hDc hFc⟩ rfl rfl hl.1 rfl (lv_room (Nat.le_of_ble_eq_true rfl)) dL_law_1604 ⟨(Nat.le_of_ble_eq_true rfl), (Nat.le_of_ble_eq_true rfl)⟩) hS (fun q _ h => hFc q h) hFc (fun r_7220 u t H1 locs ht hvm hw hB hz1 hk1 hS => ?_)
      obtain ⟨hP1, hD1⟩ := hB
      rw [ht] at hP1
      try dsimp only at hw hP1 hD1
      have w_7221 := hw
      subst w_7221
      obtain ⟨hP, hD⟩ := va_join (wr := [(h0, .inr (10, [.ref x0, .int 0, .ref x1, .ref x2, .ref x3, .ref x4, .ref x5, .ref x6, .ref x7, .ref x8, .int 0, .int 3000])), (o0, .inl (kA 1, 1, .inr (.inl (vp_updL (fun _ => 0) 0 (n_cut (xs 2) (n_combine (xs 1) 1 (n_cut (xs 2) ((((xs 4).toInt64) <<< ((32 : Int32).toInt64 &&& 63)) ||| (((xs 5).toInt64) &&& 4294967295))) (n_cut (xs 3) ((((xs 6).toInt64) <<< ((32 : Int32).toInt64 &&& 63)) ||| (((xs 7).toInt64) &&& 4294967295)))))))))]) (w1 := [(m0, .inr (11, (y0.set 9 (.int 0))))]) hP hD [2] [0, 1] rfl rfl (by decide) (by decide) hk1 hFc hP1 hD1
      generalize H1 = H at hP hS ⊢
      have hP : va_P D vwCl [(h0, .inr (10, [.ref x0, .int 0, .ref x1, .ref x2, .ref x3, .ref x4, .ref x5, .ref x6, .ref x7, .ref x8, .int 0, .int 3000])), (o0, .inl (kA 1, 1, .inr (.inl (vp_updL (fun _ => 0) 0 (n_cut (xs 2) (n_combine (xs 1) 1 (n_cut (xs 2) ((((xs 4).toInt64) <<< ((32 : Int32).toInt64 &&& 63)) ||| (((xs 5).toInt64) &&& 4294967295))) (n_cut (xs 3) ((((xs 6).toInt64) <<< ((32 : Int32).toInt64 &&& 63)) ||| (((xs 7).toInt64) &&& 4294967295))))))))), (m0, .inr (11, (y0.set 9 (.int 0))))] H := hP
      have hD : va_D A [(h0, .inr (10, [.ref x0, .int 0, .ref x1, .ref x2, .ref x3, .ref x4, .ref x5, .ref x6, .ref x7, .ref x8, .int 0, .int 3000])), (o0, .inl (kA 1, 1, .inr (.inl (vp_updL (fun _ => 0) 0 (n_cut (xs 2) (n_combine (xs 1) 1 (n_cut (xs 2) ((((xs 4).toInt64) <<< ((32 : Int32).toInt64 &&& 63)) ||| (((xs 5).toInt64) &&& 4294967295))) (n_cut (xs 3) ((((xs 6).toInt64) <<< ((32 : Int32).toInt64 &&& 63)) ||| (((xs 7).toInt64) &&& 4294967295))))))))), (m0, .inr (11, (y0.set 9 (.int 0))))] := hD
      refine lv_iload hx hb dL_law_1607 (lv_at hl 1 rfl) ?_
      refine lv_icmp_eq (tgt := 1614) hx hb dL_law_1609 (by decide) (fun c_7222 => ?_) (fun c_7222 => ?_)
      · skip
        refine lv_iload hx hb dL_law_1614 (lv_at hl 1 rfl) ?_
        refine lv_if_ne (tgt := 1630) hx hb dL_law_1616 (by decide) (fun c_7223 => ?_) (fun c_7223 => ?_)
        · exact absurd (by decide) c_7223
        · skip
          refine lv_aload_n hx hb dL_law_1619 rfl (lv_at hl 5 rfl) ?_
          refine lv_iconst (v := 0) hx hb dL_law_1620 (by decide) ?_
          refine va_lald hx hb hK hP 1 1 rfl rfl (show vp_in 0 1 by unfold vp_in; decide) dL_law_1621 ?_
          refine W.eq (g2 := F0 m 1622 ls [.long (n_cut (xs 2) (n_combine (xs 1) 1 (n_cut (xs 2) ((((xs 4).toInt64) <<< ((32 : Int32).toInt64 &&& 63)) ||| (((xs 5).toInt64) &&& 4294967295))) (n_cut (xs 3) ((((xs 6).toInt64) <<< ((32 : Int32).toInt64 &&& 63)) ||| (((xs 7).toInt64) &&& 4294967295)))))]) rfl ?_
          refine lv_lload hx hb dL_law_1622 (lv_at hl 0 rfl) ?_
          refine W.lcmp hx hb dL_law_1624 ?_
          refine lv_if_eq (tgt := 1630) hx hb dL_law_1625 (by decide) (fun c_7224 => ?_) (fun c_7224 => ?_)
          · skip
            refine lv_goto (tgt := 1804) hx hb dL_law_1630 (by decide) ?_
            exact lk_tail hC hA2 (lv_sub hl [2, 6] rfl) hS (Nat.le_of_ble_eq_true rfl) (Nat.le_of_ble_eq_true rfl)
          · exact absurd ((lg_cmp_eq _ _).mpr (qx_w1 c_61 c_6659 (fun q => c_63 q.2) (by rw [c_6672]; decide))) c_7224
      · exact absurd (by decide) c_7222
    · skip
      subst w_6697
      subst w_6698
      exact absurd c_64 c_6695
    · skip
      subst w_6716
      subst w_6717
      obtain ⟨hP, hD⟩ := va_join (wr := [(h0, .inr (10, [.ref x0, .int 0, .ref x1, .ref x2, .ref x3, .ref x4, .ref x5, .ref x6, .ref x7, .ref x8, .int 0, .int 3000])), (o0, .inl (kA 1, 1, .inr (.inl (vp_updL (fun _ => 0) 0 (n_cut (xs 2) (n_combine (xs 1) 1 (n_cut (xs 2) ((((xs 4).toInt64) <<< ((32 : Int32).toInt64 &&& 63)) ||| (((xs 5).toInt64) &&& 4294967295))) (n_cut (xs 3) ((((xs 6).toInt64) <<< ((32 : Int32).toInt64 &&& 63)) ||| (((xs 7).toInt64) &&& 4294967295)))))))))]) (w1 := [(m0, .inr (11, y0.set 9 (.int 0)))]) hP hD [0] [1, 2] rfl rfl (by decide) (by decide) hk1 hFc hP1 hD1
      generalize H1 = H at hP hS ⊢
      have hP : va_P D vwCl [(h0, .inr (10, [.ref x0, .int 0, .ref x1, .ref x2, .ref x3, .ref x4, .ref x5, .ref x6, .ref x7, .ref x8, .int 0, .int 3000])), (o0, .inl (kA 1, 1, .inr (.inl (vp_updL (fun _ => 0) 0 (n_cut (xs 2) (n_combine (xs 1) 1 (n_cut (xs 2) ((((xs 4).toInt64) <<< ((32 : Int32).toInt64 &&& 63)) ||| (((xs 5).toInt64) &&& 4294967295))) (n_cut (xs 3) ((((xs 6).toInt64) <<< ((32 : Int32).toInt64 &&& 63)) ||| (((xs 7).toInt64) &&& 4294967295))))))))), (m0, .inr (11, y0.set 9 (.int 0)))] H := hP
      have hD : va_D A [(h0, .inr (10, [.ref x0, .int 0, .ref x1, .ref x2, .ref x3, .ref x4, .ref x5, .ref x6, .ref x7, .ref x8, .int 0, .int 3000])), (o0, .inl (kA 1, 1, .inr (.inl (vp_updL (fun _ => 0) 0 (n_cut (xs 2) (n_combine (xs 1) 1 (n_cut (xs 2) ((((xs 4).toInt64) <<< ((32 : Int32).toInt64 &&& 63)) ||| (((xs 5).toInt64) &&& 4294967295))) (n_cut (xs 3) ((((xs 6).toInt64) <<< ((32 : Int32).toInt64 &&& 63)) ||| (((xs 7).toInt64) &&& 4294967295))))))))), (m0, .inr (11, y0.set 9 (.int 0)))] := hD
      refine lv_lstore (lv' := [(6, .long (n_cut (xs 2) (r_two 236 1 (n_cut (xs 2) ((((xs 4).toInt64) <<< ((32 : Int32).toInt64 &&& 63)) ||| (((xs 5).toInt64) &&& 4294967295))) (n_cut (xs 3) ((((xs 6).toInt64) <<< ((32 : Int32).toInt64 &&& 63)) ||| (((xs 7).toInt64) &&& 4294967295)))))), (5, .int 0), (0, .ref b), (1, .ref h0), (2, .ref m0), (3, .ref o0), (4, .int 0)]) hx hb dL_law_1601 hl (by decide) rfl (fun ls hl => ?_)
      refine lv_aload_n hx hb dL_law_1603 rfl (lv_at hl 4 rfl) ?_
      have hPc := hP.sub (ws' := [(m0, .inr (11, y0.set 9 (.int 0)))]) [2] rfl
      have hDc := hD.sub (ws' := [(m0, .inr (11, y0.set 9 (.int 0)))]) [2] (by decide) rfl
      have hFc := va_free (wc := [(m0, .inr (11, y0.set 9 (.int 0)))]) hD hS hA [2] rfl
      refine va_calli (va_runV (As := []) (rest := []) ⟨hx, hb, hml, hown, hts⟩ (a94_X12_thrown l  D kA V H.size m0 (y0.set 9 (.int 0)) (fun k hk => (by rw [List.length_set]; exact (hq k hk))) (List.getElem?_set_self (hq 9 (by decide)))) (cwV 0 hts (gw_V gw_1879 gw_1880 gw_1881 gw_16 gw_1882) rfl rfl rfl (by decide +kernel) ⟨(Nat.le_of_ble_eq_true rfl), (Nat.le_of_ble_eq_true rfl)⟩) ⟨aP.blind, va_recv hK hP (ci := 11) (q0 := 2) rfl rfl, aP.pre hE hS hPc hK hDc hFc⟩ rfl rfl hl.1 rfl (lv_room (Nat.le_of_ble_eq_true rfl)) dL_law_1604 ⟨(Nat.le_of_ble_eq_true rfl), (Nat.le_of_ble_eq_true rfl)⟩) hS (fun q _ h => hFc q h) hFc (fun r_7225 u t H1 locs ht hvm hw hB hz1 hk1 hS => ?_)
      obtain ⟨hP1, hD1⟩ := hB
      rw [ht] at hP1
      try dsimp only at hw hP1 hD1
      have w_7226 := hw
      subst w_7226
      obtain ⟨hP, hD⟩ := va_join (wr := [(h0, .inr (10, [.ref x0, .int 0, .ref x1, .ref x2, .ref x3, .ref x4, .ref x5, .ref x6, .ref x7, .ref x8, .int 0, .int 3000])), (o0, .inl (kA 1, 1, .inr (.inl (vp_updL (fun _ => 0) 0 (n_cut (xs 2) (n_combine (xs 1) 1 (n_cut (xs 2) ((((xs 4).toInt64) <<< ((32 : Int32).toInt64 &&& 63)) ||| (((xs 5).toInt64) &&& 4294967295))) (n_cut (xs 3) ((((xs 6).toInt64) <<< ((32 : Int32).toInt64 &&& 63)) ||| (((xs 7).toInt64) &&& 4294967295)))))))))]) (w1 := [(m0, .inr (11, (y0.set 9 (.int 0))))]) hP hD [2] [0, 1] rfl rfl (by decide) (by decide) hk1 hFc hP1 hD1
      generalize H1 = H at hP hS ⊢
      have hP : va_P D vwCl [(h0, .inr (10, [.ref x0, .int 0, .ref x1, .ref x2, .ref x3, .ref x4, .ref x5, .ref x6, .ref x7, .ref x8, .int 0, .int 3000])), (o0, .inl (kA 1, 1, .inr (.inl (vp_updL (fun _ => 0) 0 (n_cut (xs 2) (n_combine (xs 1) 1 (n_cut (xs 2) ((((xs 4).toInt64) <<< ((32 : Int32).toInt64 &&& 63)) ||| (((xs 5).toInt64) &&& 4294967295))) (n_cut (xs 3) ((((xs 6).toInt64) <<< ((32 : Int32).toInt64 &&& 63)) ||| (((xs 7).toInt64) &&& 4294967295))))))))), (m0, .inr (11, (y0.set 9 (.int 0))))] H := hP
      have hD : va_D A [(h0, .inr (10, [.ref x0, .int 0, .ref x1, .ref x2, .ref x3, .ref x4, .ref x5, .ref x6, .ref x7, .ref x8, .int 0, .int 3000])), (o0, .inl (kA 1, 1, .inr (.inl (vp_updL (fun _ => 0) 0 (n_cut (xs 2) (n_combine (xs 1) 1 (n_cut (xs 2) ((((xs 4).toInt64) <<< ((32 : Int32).toInt64 &&& 63)) ||| (((xs 5).toInt64) &&& 4294967295))) (n_cut (xs 3) ((((xs 6).toInt64) <<< ((32 : Int32).toInt64 &&& 63)) ||| (((xs 7).toInt64) &&& 4294967295))))))))), (m0, .inr (11, (y0.set 9 (.int 0))))] := hD
      refine lv_iload hx hb dL_law_1607 (lv_at hl 1 rfl) ?_
      refine lv_icmp_eq (tgt := 1614) hx hb dL_law_1609 (by decide) (fun c_7227 => ?_) (fun c_7227 => ?_)
      · skip
        refine lv_iload hx hb dL_law_1614 (lv_at hl 1 rfl) ?_
        refine lv_if_ne (tgt := 1630) hx hb dL_law_1616 (by decide) (fun c_7228 => ?_) (fun c_7228 => ?_)
        · exact absurd (by decide) c_7228
        · skip
          refine lv_aload_n hx hb dL_law_1619 rfl (lv_at hl 5 rfl) ?_
          refine lv_iconst (v := 0) hx hb dL_law_1620 (by decide) ?_
          refine va_lald hx hb hK hP 1 1 rfl rfl (show vp_in 0 1 by unfold vp_in; decide) dL_law_1621 ?_
          refine W.eq (g2 := F0 m 1622 ls [.long (n_cut (xs 2) (n_combine (xs 1) 1 (n_cut (xs 2) ((((xs 4).toInt64) <<< ((32 : Int32).toInt64 &&& 63)) ||| (((xs 5).toInt64) &&& 4294967295))) (n_cut (xs 3) ((((xs 6).toInt64) <<< ((32 : Int32).toInt64 &&& 63)) ||| (((xs 7).toInt64) &&& 4294967295)))))]) rfl ?_
          refine lv_lload hx hb dL_law_1622 (lv_at hl 0 rfl) ?_
          refine W.lcmp hx hb dL_law_1624 ?_
          refine lv_if_eq (tgt := 1630) hx hb dL_law_1625 (by decide) (fun c_7229 => ?_) (fun c_7229 => ?_)
          · skip
            refine lv_goto (tgt := 1804) hx hb dL_law_1630 (by decide) ?_
            exact lk_tail hC hA2 (lv_sub hl [2, 6] rfl) hS (Nat.le_of_ble_eq_true rfl) (Nat.le_of_ble_eq_true rfl)
          · exact absurd ((lg_cmp_eq _ _).mpr (qx_w1 c_61 c_6700 (fun q => c_63 q.2) (by rw [c_6712]; decide))) c_7229
      · exact absurd (by decide) c_7227
    · skip
      subst w_6737
      subst w_6738
      exact absurd c_64 c_6734
    · skip
      subst w_6758
      subst w_6759
      exact absurd c_64 c_6755
    · skip
      subst w_6776
      subst w_6777
      obtain ⟨hP, hD⟩ := va_join (wr := [(h0, .inr (10, [.ref x0, .int 0, .ref x1, .ref x2, .ref x3, .ref x4, .ref x5, .ref x6, .ref x7, .ref x8, .int 0, .int 3000])), (o0, .inl (kA 1, 1, .inr (.inl (vp_updL (fun _ => 0) 0 (n_cut (xs 2) (n_combine (xs 1) 1 (n_cut (xs 2) ((((xs 4).toInt64) <<< ((32 : Int32).toInt64 &&& 63)) ||| (((xs 5).toInt64) &&& 4294967295))) (n_cut (xs 3) ((((xs 6).toInt64) <<< ((32 : Int32).toInt64 &&& 63)) ||| (((xs 7).toInt64) &&& 4294967295)))))))))]) (w1 := [(m0, .inr (11, y0.set 9 (.int 0)))]) hP hD [0] [1, 2] rfl rfl (by decide) (by decide) hk1 hFc hP1 hD1
      generalize H1 = H at hP hS ⊢
      have hP : va_P D vwCl [(h0, .inr (10, [.ref x0, .int 0, .ref x1, .ref x2, .ref x3, .ref x4, .ref x5, .ref x6, .ref x7, .ref x8, .int 0, .int 3000])), (o0, .inl (kA 1, 1, .inr (.inl (vp_updL (fun _ => 0) 0 (n_cut (xs 2) (n_combine (xs 1) 1 (n_cut (xs 2) ((((xs 4).toInt64) <<< ((32 : Int32).toInt64 &&& 63)) ||| (((xs 5).toInt64) &&& 4294967295))) (n_cut (xs 3) ((((xs 6).toInt64) <<< ((32 : Int32).toInt64 &&& 63)) ||| (((xs 7).toInt64) &&& 4294967295))))))))), (m0, .inr (11, y0.set 9 (.int 0)))] H := hP
      have hD : va_D A [(h0, .inr (10, [.ref x0, .int 0, .ref x1, .ref x2, .ref x3, .ref x4, .ref x5, .ref x6, .ref x7, .ref x8, .int 0, .int 3000])), (o0, .inl (kA 1, 1, .inr (.inl (vp_updL (fun _ => 0) 0 (n_cut (xs 2) (n_combine (xs 1) 1 (n_cut (xs 2) ((((xs 4).toInt64) <<< ((32 : Int32).toInt64 &&& 63)) ||| (((xs 5).toInt64) &&& 4294967295))) (n_cut (xs 3) ((((xs 6).toInt64) <<< ((32 : Int32).toInt64 &&& 63)) ||| (((xs 7).toInt64) &&& 4294967295))))))))), (m0, .inr (11, y0.set 9 (.int 0)))] := hD
      refine lv_lstore (lv' := [(6, .long (n_cut (xs 2) (r_two 235 1 (n_cut (xs 2) ((((xs 4).toInt64) <<< ((32 : Int32).toInt64 &&& 63)) ||| (((xs 5).toInt64) &&& 4294967295))) (n_cut (xs 3) ((((xs 6).toInt64) <<< ((32 : Int32).toInt64 &&& 63)) ||| (((xs 7).toInt64) &&& 4294967295)))))), (5, .int 0), (0, .ref b), (1, .ref h0), (2, .ref m0), (3, .ref o0), (4, .int 0)]) hx hb dL_law_1601 hl (by decide) rfl (fun ls hl => ?_)
      refine lv_aload_n hx hb dL_law_1603 rfl (lv_at hl 4 rfl) ?_
      have hPc := hP.sub (ws' := [(m0, .inr (11, y0.set 9 (.int 0)))]) [2] rfl
      have hDc := hD.sub (ws' := [(m0, .inr (11, y0.set 9 (.int 0)))]) [2] (by decide) rfl
      have hFc := va_free (wc := [(m0, .inr (11, y0.set 9 (.int 0)))]) hD hS hA [2] rfl
      refine va_calli (va_runV (As := []) (rest := []) ⟨hx, hb, hml, hown, hts⟩ (a94_X12_thrown l  D kA V H.size m0 (y0.set 9 (.int 0)) (fun k hk => (by rw [List.length_set]; exact (hq k hk))) (List.getElem?_set_self (hq 9 (by decide)))) (cwV 0 hts (gw_V gw_1879 gw_1880 gw_1881 gw_16 gw_1882) rfl rfl rfl (by decide +kernel) ⟨(Nat.le_of_ble_eq_true rfl), (Nat.le_of_ble_eq_true rfl)⟩) ⟨aP.blind, va_recv hK hP (ci := 11) (q0 := 2) rfl rfl, aP.pre hE hS hPc hK hDc hFc⟩ rfl rfl hl.1 rfl (lv_room (Nat.le_of_ble_eq_true rfl)) dL_law_1604 ⟨(Nat.le_of_ble_eq_true rfl), (Nat.le_of_ble_eq_true rfl)⟩) hS (fun q _ h => hFc q h) hFc (fun r_7230 u t H1 locs ht hvm hw hB hz1 hk1 hS => ?_)
      obtain ⟨hP1, hD1⟩ := hB
      rw [ht] at hP1
      try dsimp only at hw hP1 hD1
      have w_7231 := hw
      subst w_7231
      obtain ⟨hP, hD⟩ := va_join (wr := [(h0, .inr (10, [.ref x0, .int 0, .ref x1, .ref x2, .ref x3, .ref x4, .ref x5, .ref x6, .ref x7, .ref x8, .int 0, .int 3000])), (o0, .inl (kA 1, 1, .inr (.inl (vp_updL (fun _ => 0) 0 (n_cut (xs 2) (n_combine (xs 1) 1 (n_cut (xs 2) ((((xs 4).toInt64) <<< ((32 : Int32).toInt64 &&& 63)) ||| (((xs 5).toInt64) &&& 4294967295))) (n_cut (xs 3) ((((xs 6).toInt64) <<< ((32 : Int32).toInt64 &&& 63)) ||| (((xs 7).toInt64) &&& 4294967295)))))))))]) (w1 := [(m0, .inr (11, (y0.set 9 (.int 0))))]) hP hD [2] [0, 1] rfl rfl (by decide) (by decide) hk1 hFc hP1 hD1
      generalize H1 = H at hP hS ⊢
      have hP : va_P D vwCl [(h0, .inr (10, [.ref x0, .int 0, .ref x1, .ref x2, .ref x3, .ref x4, .ref x5, .ref x6, .ref x7, .ref x8, .int 0, .int 3000])), (o0, .inl (kA 1, 1, .inr (.inl (vp_updL (fun _ => 0) 0 (n_cut (xs 2) (n_combine (xs 1) 1 (n_cut (xs 2) ((((xs 4).toInt64) <<< ((32 : Int32).toInt64 &&& 63)) ||| (((xs 5).toInt64) &&& 4294967295))) (n_cut (xs 3) ((((xs 6).toInt64) <<< ((32 : Int32).toInt64 &&& 63)) ||| (((xs 7).toInt64) &&& 4294967295))))))))), (m0, .inr (11, (y0.set 9 (.int 0))))] H := hP
      have hD : va_D A [(h0, .inr (10, [.ref x0, .int 0, .ref x1, .ref x2, .ref x3, .ref x4, .ref x5, .ref x6, .ref x7, .ref x8, .int 0, .int 3000])), (o0, .inl (kA 1, 1, .inr (.inl (vp_updL (fun _ => 0) 0 (n_cut (xs 2) (n_combine (xs 1) 1 (n_cut (xs 2) ((((xs 4).toInt64) <<< ((32 : Int32).toInt64 &&& 63)) ||| (((xs 5).toInt64) &&& 4294967295))) (n_cut (xs 3) ((((xs 6).toInt64) <<< ((32 : Int32).toInt64 &&& 63)) ||| (((xs 7).toInt64) &&& 4294967295))))))))), (m0, .inr (11, (y0.set 9 (.int 0))))] := hD
      refine lv_iload hx hb dL_law_1607 (lv_at hl 1 rfl) ?_
      refine lv_icmp_eq (tgt := 1614) hx hb dL_law_1609 (by decide) (fun c_7232 => ?_) (fun c_7232 => ?_)
      · skip
        refine lv_iload hx hb dL_law_1614 (lv_at hl 1 rfl) ?_
        refine lv_if_ne (tgt := 1630) hx hb dL_law_1616 (by decide) (fun c_7233 => ?_) (fun c_7233 => ?_)
        · exact absurd (by decide) c_7233
        · skip
          refine lv_aload_n hx hb dL_law_1619 rfl (lv_at hl 5 rfl) ?_
          refine lv_iconst (v := 0) hx hb dL_law_1620 (by decide) ?_
          refine va_lald hx hb hK hP 1 1 rfl rfl (show vp_in 0 1 by unfold vp_in; decide) dL_law_1621 ?_
          refine W.eq (g2 := F0 m 1622 ls [.long (n_cut (xs 2) (n_combine (xs 1) 1 (n_cut (xs 2) ((((xs 4).toInt64) <<< ((32 : Int32).toInt64 &&& 63)) ||| (((xs 5).toInt64) &&& 4294967295))) (n_cut (xs 3) ((((xs 6).toInt64) <<< ((32 : Int32).toInt64 &&& 63)) ||| (((xs 7).toInt64) &&& 4294967295)))))]) rfl ?_
          refine lv_lload hx hb dL_law_1622 (lv_at hl 0 rfl) ?_
          refine W.lcmp hx hb dL_law_1624 ?_
          refine lv_if_eq (tgt := 1630) hx hb dL_law_1625 (by decide) (fun c_7234 => ?_) (fun c_7234 => ?_)
          · skip
            refine lv_goto (tgt := 1804) hx hb dL_law_1630 (by decide) ?_
            exact lk_tail hC hA2 (lv_sub hl [2, 6] rfl) hS (Nat.le_of_ble_eq_true rfl) (Nat.le_of_ble_eq_true rfl)
          · exact absurd ((lg_cmp_eq _ _).mpr (qx_w1 c_61 c_6761 (fun q => c_63 q.2) (by rw [c_6772]; decide))) c_7234
      · exact absurd (by decide) c_7232
    · skip
      subst w_6796
      subst w_6797
      exact absurd c_64 c_6793
    · skip
      subst w_6816
      subst w_6817
      exact absurd c_64 c_6813
    · skip
      subst w_6833
      subst w_6834
      obtain ⟨hP, hD⟩ := va_join (wr := [(h0, .inr (10, [.ref x0, .int 0, .ref x1, .ref x2, .ref x3, .ref x4, .ref x5, .ref x6, .ref x7, .ref x8, .int 0, .int 3000])), (o0, .inl (kA 1, 1, .inr (.inl (vp_updL (fun _ => 0) 0 (n_cut (xs 2) (n_combine (xs 1) 1 (n_cut (xs 2) ((((xs 4).toInt64) <<< ((32 : Int32).toInt64 &&& 63)) ||| (((xs 5).toInt64) &&& 4294967295))) (n_cut (xs 3) ((((xs 6).toInt64) <<< ((32 : Int32).toInt64 &&& 63)) ||| (((xs 7).toInt64) &&& 4294967295)))))))))]) (w1 := [(m0, .inr (11, y0.set 9 (.int 0)))]) hP hD [0] [1, 2] rfl rfl (by decide) (by decide) hk1 hFc hP1 hD1
      generalize H1 = H at hP hS ⊢
      have hP : va_P D vwCl [(h0, .inr (10, [.ref x0, .int 0, .ref x1, .ref x2, .ref x3, .ref x4, .ref x5, .ref x6, .ref x7, .ref x8, .int 0, .int 3000])), (o0, .inl (kA 1, 1, .inr (.inl (vp_updL (fun _ => 0) 0 (n_cut (xs 2) (n_combine (xs 1) 1 (n_cut (xs 2) ((((xs 4).toInt64) <<< ((32 : Int32).toInt64 &&& 63)) ||| (((xs 5).toInt64) &&& 4294967295))) (n_cut (xs 3) ((((xs 6).toInt64) <<< ((32 : Int32).toInt64 &&& 63)) ||| (((xs 7).toInt64) &&& 4294967295))))))))), (m0, .inr (11, y0.set 9 (.int 0)))] H := hP
      have hD : va_D A [(h0, .inr (10, [.ref x0, .int 0, .ref x1, .ref x2, .ref x3, .ref x4, .ref x5, .ref x6, .ref x7, .ref x8, .int 0, .int 3000])), (o0, .inl (kA 1, 1, .inr (.inl (vp_updL (fun _ => 0) 0 (n_cut (xs 2) (n_combine (xs 1) 1 (n_cut (xs 2) ((((xs 4).toInt64) <<< ((32 : Int32).toInt64 &&& 63)) ||| (((xs 5).toInt64) &&& 4294967295))) (n_cut (xs 3) ((((xs 6).toInt64) <<< ((32 : Int32).toInt64 &&& 63)) ||| (((xs 7).toInt64) &&& 4294967295))))))))), (m0, .inr (11, y0.set 9 (.int 0)))] := hD
      refine lv_lstore (lv' := [(6, .long (n_cut (xs 2) (r_two 237 1 (n_cut (xs 2) ((((xs 4).toInt64) <<< ((32 : Int32).toInt64 &&& 63)) ||| (((xs 5).toInt64) &&& 4294967295))) (n_cut (xs 3) ((((xs 6).toInt64) <<< ((32 : Int32).toInt64 &&& 63)) ||| (((xs 7).toInt64) &&& 4294967295)))))), (5, .int 0), (0, .ref b), (1, .ref h0), (2, .ref m0), (3, .ref o0), (4, .int 0)]) hx hb dL_law_1601 hl (by decide) rfl (fun ls hl => ?_)
      refine lv_aload_n hx hb dL_law_1603 rfl (lv_at hl 4 rfl) ?_
      have hPc := hP.sub (ws' := [(m0, .inr (11, y0.set 9 (.int 0)))]) [2] rfl
      have hDc := hD.sub (ws' := [(m0, .inr (11, y0.set 9 (.int 0)))]) [2] (by decide) rfl
      have hFc := va_free (wc := [(m0, .inr (11, y0.set 9 (.int 0)))]) hD hS hA [2] rfl
      refine va_calli (va_runV (As := []) (rest := []) ⟨hx, hb, hml, hown, hts⟩ (a94_X12_thrown l  D kA V H.size m0 (y0.set 9 (.int 0)) (fun k hk => (by rw [List.length_set]; exact (hq k hk))) (List.getElem?_set_self (hq 9 (by decide)))) (cwV 0 hts (gw_V gw_1879 gw_1880 gw_1881 gw_16 gw_1882) rfl rfl rfl (by decide +kernel) ⟨(Nat.le_of_ble_eq_true rfl), (Nat.le_of_ble_eq_true rfl)⟩) ⟨aP.blind, va_recv hK hP (ci := 11) (q0 := 2) rfl rfl, aP.pre hE hS hPc hK hDc hFc⟩ rfl rfl hl.1 rfl (lv_room (Nat.le_of_ble_eq_true rfl)) dL_law_1604 ⟨(Nat.le_of_ble_eq_true rfl), (Nat.le_of_ble_eq_true rfl)⟩) hS (fun q _ h => hFc q h) hFc (fun r_7235 u t H1 locs ht hvm hw hB hz1 hk1 hS => ?_)
      obtain ⟨hP1, hD1⟩ := hB
      rw [ht] at hP1
      try dsimp only at hw hP1 hD1
      have w_7236 := hw
      subst w_7236
      obtain ⟨hP, hD⟩ := va_join (wr := [(h0, .inr (10, [.ref x0, .int 0, .ref x1, .ref x2, .ref x3, .ref x4, .ref x5, .ref x6, .ref x7, .ref x8, .int 0, .int 3000])), (o0, .inl (kA 1, 1, .inr (.inl (vp_updL (fun _ => 0) 0 (n_cut (xs 2) (n_combine (xs 1) 1 (n_cut (xs 2) ((((xs 4).toInt64) <<< ((32 : Int32).toInt64 &&& 63)) ||| (((xs 5).toInt64) &&& 4294967295))) (n_cut (xs 3) ((((xs 6).toInt64) <<< ((32 : Int32).toInt64 &&& 63)) ||| (((xs 7).toInt64) &&& 4294967295)))))))))]) (w1 := [(m0, .inr (11, (y0.set 9 (.int 0))))]) hP hD [2] [0, 1] rfl rfl (by decide) (by decide) hk1 hFc hP1 hD1
      generalize H1 = H at hP hS ⊢
      have hP : va_P D vwCl [(h0, .inr (10, [.ref x0, .int 0, .ref x1, .ref x2, .ref x3, .ref x4, .ref x5, .ref x6, .ref x7, .ref x8, .int 0, .int 3000])), (o0, .inl (kA 1, 1, .inr (.inl (vp_updL (fun _ => 0) 0 (n_cut (xs 2) (n_combine (xs 1) 1 (n_cut (xs 2) ((((xs 4).toInt64) <<< ((32 : Int32).toInt64 &&& 63)) ||| (((xs 5).toInt64) &&& 4294967295))) (n_cut (xs 3) ((((xs 6).toInt64) <<< ((32 : Int32).toInt64 &&& 63)) ||| (((xs 7).toInt64) &&& 4294967295))))))))), (m0, .inr (11, (y0.set 9 (.int 0))))] H := hP
      have hD : va_D A [(h0, .inr (10, [.ref x0, .int 0, .ref x1, .ref x2, .ref x3, .ref x4, .ref x5, .ref x6, .ref x7, .ref x8, .int 0, .int 3000])), (o0, .inl (kA 1, 1, .inr (.inl (vp_updL (fun _ => 0) 0 (n_cut (xs 2) (n_combine (xs 1) 1 (n_cut (xs 2) ((((xs 4).toInt64) <<< ((32 : Int32).toInt64 &&& 63)) ||| (((xs 5).toInt64) &&& 4294967295))) (n_cut (xs 3) ((((xs 6).toInt64) <<< ((32 : Int32).toInt64 &&& 63)) ||| (((xs 7).toInt64) &&& 4294967295))))))))), (m0, .inr (11, (y0.set 9 (.int 0))))] := hD
      refine lv_iload hx hb dL_law_1607 (lv_at hl 1 rfl) ?_
      refine lv_icmp_eq (tgt := 1614) hx hb dL_law_1609 (by decide) (fun c_7237 => ?_) (fun c_7237 => ?_)
      · skip
        refine lv_iload hx hb dL_law_1614 (lv_at hl 1 rfl) ?_
        refine lv_if_ne (tgt := 1630) hx hb dL_law_1616 (by decide) (fun c_7238 => ?_) (fun c_7238 => ?_)
        · exact absurd (by decide) c_7238
        · skip
          refine lv_aload_n hx hb dL_law_1619 rfl (lv_at hl 5 rfl) ?_
          refine lv_iconst (v := 0) hx hb dL_law_1620 (by decide) ?_
          refine va_lald hx hb hK hP 1 1 rfl rfl (show vp_in 0 1 by unfold vp_in; decide) dL_law_1621 ?_
          refine W.eq (g2 := F0 m 1622 ls [.long (n_cut (xs 2) (n_combine (xs 1) 1 (n_cut (xs 2) ((((xs 4).toInt64) <<< ((32 : Int32).toInt64 &&& 63)) ||| (((xs 5).toInt64) &&& 4294967295))) (n_cut (xs 3) ((((xs 6).toInt64) <<< ((32 : Int32).toInt64 &&& 63)) ||| (((xs 7).toInt64) &&& 4294967295)))))]) rfl ?_
          refine lv_lload hx hb dL_law_1622 (lv_at hl 0 rfl) ?_
          refine W.lcmp hx hb dL_law_1624 ?_
          refine lv_if_eq (tgt := 1630) hx hb dL_law_1625 (by decide) (fun c_7239 => ?_) (fun c_7239 => ?_)
          · skip
            refine lv_goto (tgt := 1804) hx hb dL_law_1630 (by decide) ?_
            exact lk_tail hC hA2 (lv_sub hl [2, 6] rfl) hS (Nat.le_of_ble_eq_true rfl) (Nat.le_of_ble_eq_true rfl)
          · exact absurd ((lg_cmp_eq _ _).mpr (qx_w1 c_61 c_6819 (fun q => c_63 q.2) (by rw [c_6829]; decide))) c_7239
      · exact absurd (by decide) c_7237
    · skip
      subst w_6852
      subst w_6853
      exact absurd c_64 c_6849
    · skip
      subst w_6871
      subst w_6872
      exact absurd c_64 c_6868
    · skip
      subst w_6888
      subst w_6889
      obtain ⟨hP, hD⟩ := va_join (wr := [(h0, .inr (10, [.ref x0, .int 0, .ref x1, .ref x2, .ref x3, .ref x4, .ref x5, .ref x6, .ref x7, .ref x8, .int 0, .int 3000])), (o0, .inl (kA 1, 1, .inr (.inl (vp_updL (fun _ => 0) 0 (n_cut (xs 2) (n_combine (xs 1) 1 (n_cut (xs 2) ((((xs 4).toInt64) <<< ((32 : Int32).toInt64 &&& 63)) ||| (((xs 5).toInt64) &&& 4294967295))) (n_cut (xs 3) ((((xs 6).toInt64) <<< ((32 : Int32).toInt64 &&& 63)) ||| (((xs 7).toInt64) &&& 4294967295)))))))))]) (w1 := [(m0, .inr (11, y0.set 9 (.int 0)))]) hP hD [0] [1, 2] rfl rfl (by decide) (by decide) hk1 hFc hP1 hD1
      generalize H1 = H at hP hS ⊢
      have hP : va_P D vwCl [(h0, .inr (10, [.ref x0, .int 0, .ref x1, .ref x2, .ref x3, .ref x4, .ref x5, .ref x6, .ref x7, .ref x8, .int 0, .int 3000])), (o0, .inl (kA 1, 1, .inr (.inl (vp_updL (fun _ => 0) 0 (n_cut (xs 2) (n_combine (xs 1) 1 (n_cut (xs 2) ((((xs 4).toInt64) <<< ((32 : Int32).toInt64 &&& 63)) ||| (((xs 5).toInt64) &&& 4294967295))) (n_cut (xs 3) ((((xs 6).toInt64) <<< ((32 : Int32).toInt64 &&& 63)) ||| (((xs 7).toInt64) &&& 4294967295))))))))), (m0, .inr (11, y0.set 9 (.int 0)))] H := hP
      have hD : va_D A [(h0, .inr (10, [.ref x0, .int 0, .ref x1, .ref x2, .ref x3, .ref x4, .ref x5, .ref x6, .ref x7, .ref x8, .int 0, .int 3000])), (o0, .inl (kA 1, 1, .inr (.inl (vp_updL (fun _ => 0) 0 (n_cut (xs 2) (n_combine (xs 1) 1 (n_cut (xs 2) ((((xs 4).toInt64) <<< ((32 : Int32).toInt64 &&& 63)) ||| (((xs 5).toInt64) &&& 4294967295))) (n_cut (xs 3) ((((xs 6).toInt64) <<< ((32 : Int32).toInt64 &&& 63)) ||| (((xs 7).toInt64) &&& 4294967295))))))))), (m0, .inr (11, y0.set 9 (.int 0)))] := hD
      refine lv_lstore (lv' := [(6, .long (n_cut (xs 2) (r_two 244 1 (n_cut (xs 2) ((((xs 4).toInt64) <<< ((32 : Int32).toInt64 &&& 63)) ||| (((xs 5).toInt64) &&& 4294967295))) (n_cut (xs 3) ((((xs 6).toInt64) <<< ((32 : Int32).toInt64 &&& 63)) ||| (((xs 7).toInt64) &&& 4294967295)))))), (5, .int 0), (0, .ref b), (1, .ref h0), (2, .ref m0), (3, .ref o0), (4, .int 0)]) hx hb dL_law_1601 hl (by decide) rfl (fun ls hl => ?_)
      refine lv_aload_n hx hb dL_law_1603 rfl (lv_at hl 4 rfl) ?_
      have hPc := hP.sub (ws' := [(m0, .inr (11, y0.set 9 (.int 0)))]) [2] rfl
      have hDc := hD.sub (ws' := [(m0, .inr (11, y0.set 9 (.int 0)))]) [2] (by decide) rfl
      have hFc := va_free (wc := [(m0, .inr (11, y0.set 9 (.int 0)))]) hD hS hA [2] rfl
      refine va_calli (va_runV (As := []) (rest := []) ⟨hx, hb, hml, hown, hts⟩ (a94_X12_thrown l  D kA V H.size m0 (y0.set 9 (.int 0)) (fun k hk => (by rw [List.length_set]; exact (hq k hk))) (List.getElem?_set_self (hq 9 (by decide)))) (cwV 0 hts (gw_V gw_1879 gw_1880 gw_1881 gw_16 gw_1882) rfl rfl rfl (by decide +kernel) ⟨(Nat.le_of_ble_eq_true rfl), (Nat.le_of_ble_eq_true rfl)⟩) ⟨aP.blind, va_recv hK hP (ci := 11) (q0 := 2) rfl rfl, aP.pre hE hS hPc hK hDc hFc⟩ rfl rfl hl.1 rfl (lv_room (Nat.le_of_ble_eq_true rfl)) dL_law_1604 ⟨(Nat.le_of_ble_eq_true rfl), (Nat.le_of_ble_eq_true rfl)⟩) hS (fun q _ h => hFc q h) hFc (fun r_7240 u t H1 locs ht hvm hw hB hz1 hk1 hS => ?_)
      obtain ⟨hP1, hD1⟩ := hB
      rw [ht] at hP1
      try dsimp only at hw hP1 hD1
      have w_7241 := hw
      subst w_7241
      obtain ⟨hP, hD⟩ := va_join (wr := [(h0, .inr (10, [.ref x0, .int 0, .ref x1, .ref x2, .ref x3, .ref x4, .ref x5, .ref x6, .ref x7, .ref x8, .int 0, .int 3000])), (o0, .inl (kA 1, 1, .inr (.inl (vp_updL (fun _ => 0) 0 (n_cut (xs 2) (n_combine (xs 1) 1 (n_cut (xs 2) ((((xs 4).toInt64) <<< ((32 : Int32).toInt64 &&& 63)) ||| (((xs 5).toInt64) &&& 4294967295))) (n_cut (xs 3) ((((xs 6).toInt64) <<< ((32 : Int32).toInt64 &&& 63)) ||| (((xs 7).toInt64) &&& 4294967295)))))))))]) (w1 := [(m0, .inr (11, (y0.set 9 (.int 0))))]) hP hD [2] [0, 1] rfl rfl (by decide) (by decide) hk1 hFc hP1 hD1
      generalize H1 = H at hP hS ⊢
      have hP : va_P D vwCl [(h0, .inr (10, [.ref x0, .int 0, .ref x1, .ref x2, .ref x3, .ref x4, .ref x5, .ref x6, .ref x7, .ref x8, .int 0, .int 3000])), (o0, .inl (kA 1, 1, .inr (.inl (vp_updL (fun _ => 0) 0 (n_cut (xs 2) (n_combine (xs 1) 1 (n_cut (xs 2) ((((xs 4).toInt64) <<< ((32 : Int32).toInt64 &&& 63)) ||| (((xs 5).toInt64) &&& 4294967295))) (n_cut (xs 3) ((((xs 6).toInt64) <<< ((32 : Int32).toInt64 &&& 63)) ||| (((xs 7).toInt64) &&& 4294967295))))))))), (m0, .inr (11, (y0.set 9 (.int 0))))] H := hP
      have hD : va_D A [(h0, .inr (10, [.ref x0, .int 0, .ref x1, .ref x2, .ref x3, .ref x4, .ref x5, .ref x6, .ref x7, .ref x8, .int 0, .int 3000])), (o0, .inl (kA 1, 1, .inr (.inl (vp_updL (fun _ => 0) 0 (n_cut (xs 2) (n_combine (xs 1) 1 (n_cut (xs 2) ((((xs 4).toInt64) <<< ((32 : Int32).toInt64 &&& 63)) ||| (((xs 5).toInt64) &&& 4294967295))) (n_cut (xs 3) ((((xs 6).toInt64) <<< ((32 : Int32).toInt64 &&& 63)) ||| (((xs 7).toInt64) &&& 4294967295))))))))), (m0, .inr (11, (y0.set 9 (.int 0))))] := hD
      refine lv_iload hx hb dL_law_1607 (lv_at hl 1 rfl) ?_
      refine lv_icmp_eq (tgt := 1614) hx hb dL_law_1609 (by decide) (fun c_7242 => ?_) (fun c_7242 => ?_)
      · skip
        refine lv_iload hx hb dL_law_1614 (lv_at hl 1 rfl) ?_
        refine lv_if_ne (tgt := 1630) hx hb dL_law_1616 (by decide) (fun c_7243 => ?_) (fun c_7243 => ?_)
        · exact absurd (by decide) c_7243
        · skip
          refine lv_aload_n hx hb dL_law_1619 rfl (lv_at hl 5 rfl) ?_
          refine lv_iconst (v := 0) hx hb dL_law_1620 (by decide) ?_
          refine va_lald hx hb hK hP 1 1 rfl rfl (show vp_in 0 1 by unfold vp_in; decide) dL_law_1621 ?_
          refine W.eq (g2 := F0 m 1622 ls [.long (n_cut (xs 2) (n_combine (xs 1) 1 (n_cut (xs 2) ((((xs 4).toInt64) <<< ((32 : Int32).toInt64 &&& 63)) ||| (((xs 5).toInt64) &&& 4294967295))) (n_cut (xs 3) ((((xs 6).toInt64) <<< ((32 : Int32).toInt64 &&& 63)) ||| (((xs 7).toInt64) &&& 4294967295)))))]) rfl ?_
          refine lv_lload hx hb dL_law_1622 (lv_at hl 0 rfl) ?_
          refine W.lcmp hx hb dL_law_1624 ?_
          refine lv_if_eq (tgt := 1630) hx hb dL_law_1625 (by decide) (fun c_7244 => ?_) (fun c_7244 => ?_)
          · skip
            refine lv_goto (tgt := 1804) hx hb dL_law_1630 (by decide) ?_
            exact lk_tail hC hA2 (lv_sub hl [2, 6] rfl) hS (Nat.le_of_ble_eq_true rfl) (Nat.le_of_ble_eq_true rfl)
          · exact absurd ((lg_cmp_eq _ _).mpr (qx_w1 c_61 c_6874 (fun q => c_63 q.2) (by rw [c_6883]; decide))) c_7244
      · exact absurd (by decide) c_7242
    · skip
      subst w_6907
      subst w_6908
      exact absurd c_64 c_6904
    · skip
      subst w_6926
      subst w_6927
      exact absurd c_64 c_6923
    · skip
      subst w_6943
      subst w_6944
      exact absurd c_6941 c_63
    · skip
      subst w_6962
      subst w_6963
      exact absurd c_6958 c_63
    · skip
      subst w_6981
      subst w_6982
      exact absurd c_6977 c_63
    · skip
      subst w_6996
      subst w_6997
      obtain ⟨hP, hD⟩ := va_join (wr := [(h0, .inr (10, [.ref x0, .int 0, .ref x1, .ref x2, .ref x3, .ref x4, .ref x5, .ref x6, .ref x7, .ref x8, .int 0, .int 3000])), (o0, .inl (kA 1, 1, .inr (.inl (vp_updL (fun _ => 0) 0 (n_cut (xs 2) (n_combine (xs 1) 1 (n_cut (xs 2) ((((xs 4).toInt64) <<< ((32 : Int32).toInt64 &&& 63)) ||| (((xs 5).toInt64) &&& 4294967295))) (n_cut (xs 3) ((((xs 6).toInt64) <<< ((32 : Int32).toInt64 &&& 63)) ||| (((xs 7).toInt64) &&& 4294967295)))))))))]) (w1 := [(m0, .inr (11, y0.set 9 (.int 0)))]) hP hD [0] [1, 2] rfl rfl (by decide) (by decide) hk1 hFc hP1 hD1
      generalize H1 = H at hP hS ⊢
      have hP : va_P D vwCl [(h0, .inr (10, [.ref x0, .int 0, .ref x1, .ref x2, .ref x3, .ref x4, .ref x5, .ref x6, .ref x7, .ref x8, .int 0, .int 3000])), (o0, .inl (kA 1, 1, .inr (.inl (vp_updL (fun _ => 0) 0 (n_cut (xs 2) (n_combine (xs 1) 1 (n_cut (xs 2) ((((xs 4).toInt64) <<< ((32 : Int32).toInt64 &&& 63)) ||| (((xs 5).toInt64) &&& 4294967295))) (n_cut (xs 3) ((((xs 6).toInt64) <<< ((32 : Int32).toInt64 &&& 63)) ||| (((xs 7).toInt64) &&& 4294967295))))))))), (m0, .inr (11, y0.set 9 (.int 0)))] H := hP
      have hD : va_D A [(h0, .inr (10, [.ref x0, .int 0, .ref x1, .ref x2, .ref x3, .ref x4, .ref x5, .ref x6, .ref x7, .ref x8, .int 0, .int 3000])), (o0, .inl (kA 1, 1, .inr (.inl (vp_updL (fun _ => 0) 0 (n_cut (xs 2) (n_combine (xs 1) 1 (n_cut (xs 2) ((((xs 4).toInt64) <<< ((32 : Int32).toInt64 &&& 63)) ||| (((xs 5).toInt64) &&& 4294967295))) (n_cut (xs 3) ((((xs 6).toInt64) <<< ((32 : Int32).toInt64 &&& 63)) ||| (((xs 7).toInt64) &&& 4294967295))))))))), (m0, .inr (11, y0.set 9 (.int 0)))] := hD
      refine lv_lstore (lv' := [(6, .long (n_cut (xs 2) (r_two 243 1 (n_cut (xs 2) ((((xs 4).toInt64) <<< ((32 : Int32).toInt64 &&& 63)) ||| (((xs 5).toInt64) &&& 4294967295))) (n_cut (xs 3) ((((xs 6).toInt64) <<< ((32 : Int32).toInt64 &&& 63)) ||| (((xs 7).toInt64) &&& 4294967295)))))), (5, .int 0), (0, .ref b), (1, .ref h0), (2, .ref m0), (3, .ref o0), (4, .int 0)]) hx hb dL_law_1601 hl (by decide) rfl (fun ls hl => ?_)
      refine lv_aload_n hx hb dL_law_1603 rfl (lv_at hl 4 rfl) ?_
      have hPc := hP.sub (ws' := [(m0, .inr (11, y0.set 9 (.int 0)))]) [2] rfl
      have hDc := hD.sub (ws' := [(m0, .inr (11, y0.set 9 (.int 0)))]) [2] (by decide) rfl
      have hFc := va_free (wc := [(m0, .inr (11, y0.set 9 (.int 0)))]) hD hS hA [2] rfl
      refine va_calli (va_runV (As := []) (rest := []) ⟨hx, hb, hml, hown, hts⟩ (a94_X12_thrown l  D kA V H.size m0 (y0.set 9 (.int 0)) (fun k hk => (by rw [List.length_set]; exact (hq k hk))) (List.getElem?_set_self (hq 9 (by decide)))) (cwV 0 hts (gw_V gw_1879 gw_1880 gw_1881 gw_16 gw_1882) rfl rfl rfl (by decide +kernel) ⟨(Nat.le_of_ble_eq_true rfl), (Nat.le_of_ble_eq_true rfl)⟩) ⟨aP.blind, va_recv hK hP (ci := 11) (q0 := 2) rfl rfl, aP.pre hE hS hPc hK hDc hFc⟩ rfl rfl hl.1 rfl (lv_room (Nat.le_of_ble_eq_true rfl)) dL_law_1604 ⟨(Nat.le_of_ble_eq_true rfl), (Nat.le_of_ble_eq_true rfl)⟩) hS (fun q _ h => hFc q h) hFc (fun r_7245 u t H1 locs ht hvm hw hB hz1 hk1 hS => ?_)
      obtain ⟨hP1, hD1⟩ := hB
      rw [ht] at hP1
      try dsimp only at hw hP1 hD1
      have w_7246 := hw
      subst w_7246
      obtain ⟨hP, hD⟩ := va_join (wr := [(h0, .inr (10, [.ref x0, .int 0, .ref x1, .ref x2, .ref x3, .ref x4, .ref x5, .ref x6, .ref x7, .ref x8, .int 0, .int 3000])), (o0, .inl (kA 1, 1, .inr (.inl (vp_updL (fun _ => 0) 0 (n_cut (xs 2) (n_combine (xs 1) 1 (n_cut (xs 2) ((((xs 4).toInt64) <<< ((32 : Int32).toInt64 &&& 63)) ||| (((xs 5).toInt64) &&& 4294967295))) (n_cut (xs 3) ((((xs 6).toInt64) <<< ((32 : Int32).toInt64 &&& 63)) ||| (((xs 7).toInt64) &&& 4294967295)))))))))]) (w1 := [(m0, .inr (11, (y0.set 9 (.int 0))))]) hP hD [2] [0, 1] rfl rfl (by decide) (by decide) hk1 hFc hP1 hD1
      generalize H1 = H at hP hS ⊢
      have hP : va_P D vwCl [(h0, .inr (10, [.ref x0, .int 0, .ref x1, .ref x2, .ref x3, .ref x4, .ref x5, .ref x6, .ref x7, .ref x8, .int 0, .int 3000])), (o0, .inl (kA 1, 1, .inr (.inl (vp_updL (fun _ => 0) 0 (n_cut (xs 2) (n_combine (xs 1) 1 (n_cut (xs 2) ((((xs 4).toInt64) <<< ((32 : Int32).toInt64 &&& 63)) ||| (((xs 5).toInt64) &&& 4294967295))) (n_cut (xs 3) ((((xs 6).toInt64) <<< ((32 : Int32).toInt64 &&& 63)) ||| (((xs 7).toInt64) &&& 4294967295))))))))), (m0, .inr (11, (y0.set 9 (.int 0))))] H := hP
      have hD : va_D A [(h0, .inr (10, [.ref x0, .int 0, .ref x1, .ref x2, .ref x3, .ref x4, .ref x5, .ref x6, .ref x7, .ref x8, .int 0, .int 3000])), (o0, .inl (kA 1, 1, .inr (.inl (vp_updL (fun _ => 0) 0 (n_cut (xs 2) (n_combine (xs 1) 1 (n_cut (xs 2) ((((xs 4).toInt64) <<< ((32 : Int32).toInt64 &&& 63)) ||| (((xs 5).toInt64) &&& 4294967295))) (n_cut (xs 3) ((((xs 6).toInt64) <<< ((32 : Int32).toInt64 &&& 63)) ||| (((xs 7).toInt64) &&& 4294967295))))))))), (m0, .inr (11, (y0.set 9 (.int 0))))] := hD
      refine lv_iload hx hb dL_law_1607 (lv_at hl 1 rfl) ?_
      refine lv_icmp_eq (tgt := 1614) hx hb dL_law_1609 (by decide) (fun c_7247 => ?_) (fun c_7247 => ?_)
      · skip
        refine lv_iload hx hb dL_law_1614 (lv_at hl 1 rfl) ?_
        refine lv_if_ne (tgt := 1630) hx hb dL_law_1616 (by decide) (fun c_7248 => ?_) (fun c_7248 => ?_)
        · exact absurd (by decide) c_7248
        · skip
          refine lv_aload_n hx hb dL_law_1619 rfl (lv_at hl 5 rfl) ?_
          refine lv_iconst (v := 0) hx hb dL_law_1620 (by decide) ?_
          refine va_lald hx hb hK hP 1 1 rfl rfl (show vp_in 0 1 by unfold vp_in; decide) dL_law_1621 ?_
          refine W.eq (g2 := F0 m 1622 ls [.long (n_cut (xs 2) (n_combine (xs 1) 1 (n_cut (xs 2) ((((xs 4).toInt64) <<< ((32 : Int32).toInt64 &&& 63)) ||| (((xs 5).toInt64) &&& 4294967295))) (n_cut (xs 3) ((((xs 6).toInt64) <<< ((32 : Int32).toInt64 &&& 63)) ||| (((xs 7).toInt64) &&& 4294967295)))))]) rfl ?_
          refine lv_lload hx hb dL_law_1622 (lv_at hl 0 rfl) ?_
          refine W.lcmp hx hb dL_law_1624 ?_
          refine lv_if_eq (tgt := 1630) hx hb dL_law_1625 (by decide) (fun c_7249 => ?_) (fun c_7249 => ?_)
          · skip
            refine lv_goto (tgt := 1804) hx hb dL_law_1630 (by decide) ?_
            exact lk_tail hC hA2 (lv_sub hl [2, 6] rfl) hS (Nat.le_of_ble_eq_true rfl) (Nat.le_of_ble_eq_true rfl)
          · exact absurd ((lg_cmp_eq _ _).mpr (qx_w1 c_61 c_6984 (fun q => c_63 q.2) (by rw [c_6992]; decide))) c_7249
      · exact absurd (by decide) c_7247
    · skip
      subst w_7013
      subst w_7014
      exact absurd c_64 c_7010
    · skip
      subst w_7030
      subst w_7031
      exact absurd c_64 c_7027
    · skip
      subst w_7045
      subst w_7046
      exact absurd c_7043 c_63
    · skip
      subst w_7062
      subst w_7063
      exact absurd c_7058 c_63
    · skip
      subst w_7079
      subst w_7080
      exact absurd c_7075 c_63
    · skip
      subst w_7093
      subst w_7094
      obtain ⟨hP, hD⟩ := va_join (wr := [(h0, .inr (10, [.ref x0, .int 0, .ref x1, .ref x2, .ref x3, .ref x4, .ref x5, .ref x6, .ref x7, .ref x8, .int 0, .int 3000])), (o0, .inl (kA 1, 1, .inr (.inl (vp_updL (fun _ => 0) 0 (n_cut (xs 2) (n_combine (xs 1) 1 (n_cut (xs 2) ((((xs 4).toInt64) <<< ((32 : Int32).toInt64 &&& 63)) ||| (((xs 5).toInt64) &&& 4294967295))) (n_cut (xs 3) ((((xs 6).toInt64) <<< ((32 : Int32).toInt64 &&& 63)) ||| (((xs 7).toInt64) &&& 4294967295)))))))))]) (w1 := [(m0, .inr (11, y0.set 9 (.int 0)))]) hP hD [0] [1, 2] rfl rfl (by decide) (by decide) hk1 hFc hP1 hD1
      generalize H1 = H at hP hS ⊢
      have hP : va_P D vwCl [(h0, .inr (10, [.ref x0, .int 0, .ref x1, .ref x2, .ref x3, .ref x4, .ref x5, .ref x6, .ref x7, .ref x8, .int 0, .int 3000])), (o0, .inl (kA 1, 1, .inr (.inl (vp_updL (fun _ => 0) 0 (n_cut (xs 2) (n_combine (xs 1) 1 (n_cut (xs 2) ((((xs 4).toInt64) <<< ((32 : Int32).toInt64 &&& 63)) ||| (((xs 5).toInt64) &&& 4294967295))) (n_cut (xs 3) ((((xs 6).toInt64) <<< ((32 : Int32).toInt64 &&& 63)) ||| (((xs 7).toInt64) &&& 4294967295))))))))), (m0, .inr (11, y0.set 9 (.int 0)))] H := hP
      have hD : va_D A [(h0, .inr (10, [.ref x0, .int 0, .ref x1, .ref x2, .ref x3, .ref x4, .ref x5, .ref x6, .ref x7, .ref x8, .int 0, .int 3000])), (o0, .inl (kA 1, 1, .inr (.inl (vp_updL (fun _ => 0) 0 (n_cut (xs 2) (n_combine (xs 1) 1 (n_cut (xs 2) ((((xs 4).toInt64) <<< ((32 : Int32).toInt64 &&& 63)) ||| (((xs 5).toInt64) &&& 4294967295))) (n_cut (xs 3) ((((xs 6).toInt64) <<< ((32 : Int32).toInt64 &&& 63)) ||| (((xs 7).toInt64) &&& 4294967295))))))))), (m0, .inr (11, y0.set 9 (.int 0)))] := hD
      refine lv_lstore (lv' := [(6, .long (n_cut (xs 2) (r_two 242 1 (n_cut (xs 2) ((((xs 4).toInt64) <<< ((32 : Int32).toInt64 &&& 63)) ||| (((xs 5).toInt64) &&& 4294967295))) (n_cut (xs 3) ((((xs 6).toInt64) <<< ((32 : Int32).toInt64 &&& 63)) ||| (((xs 7).toInt64) &&& 4294967295)))))), (5, .int 0), (0, .ref b), (1, .ref h0), (2, .ref m0), (3, .ref o0), (4, .int 0)]) hx hb dL_law_1601 hl (by decide) rfl (fun ls hl => ?_)
      refine lv_aload_n hx hb dL_law_1603 rfl (lv_at hl 4 rfl) ?_
      have hPc := hP.sub (ws' := [(m0, .inr (11, y0.set 9 (.int 0)))]) [2] rfl
      have hDc := hD.sub (ws' := [(m0, .inr (11, y0.set 9 (.int 0)))]) [2] (by decide) rfl
      have hFc := va_free (wc := [(m0, .inr (11, y0.set 9 (.int 0)))]) hD hS hA [2] rfl
      refine va_calli (va_runV (As := []) (rest := []) ⟨hx, hb, hml, hown, hts⟩ (a94_X12_thrown l  D kA V H.size m0 (y0.set 9 (.int 0)) (fun k hk => (by rw [List.length_set]; exact (hq k hk))) (List.getElem?_set_self (hq 9 (by decide)))) (cwV 0 hts (gw_V gw_1879 gw_1880 gw_1881 gw_16 gw_1882) rfl rfl rfl (by decide +kernel) ⟨(Nat.le_of_ble_eq_true rfl), (Nat.le_of_ble_eq_true rfl)⟩) ⟨aP.blind, va_recv hK hP (ci := 11) (q0 := 2) rfl rfl, aP.pre hE hS hPc hK hDc hFc⟩ rfl rfl hl.1 rfl (lv_room (Nat.le_of_ble_eq_true rfl)) dL_law_1604 ⟨(Nat.le_of_ble_eq_true rfl), (Nat.le_of_ble_eq_true rfl)⟩) hS (fun q _ h => hFc q h) hFc (fun r_7250 u t H1 locs ht hvm hw hB hz1 hk1 hS => ?_)
      obtain ⟨hP1, hD1⟩ := hB
      rw [ht] at hP1
      try dsimp only at hw hP1 hD1
      have w_7251 := hw
      subst w_7251
      obtain ⟨hP, hD⟩ := va_join (wr := [(h0, .inr (10, [.ref x0, .int 0, .ref x1, .ref x2, .ref x3, .ref x4, .ref x5, .ref x6, .ref x7, .ref x8, .int 0, .int 3000])), (o0, .inl (kA 1, 1, .inr (.inl (vp_updL (fun _ => 0) 0 (n_cut (xs 2) (n_combine (xs 1) 1 (n_cut (xs 2) ((((xs 4).toInt64) <<< ((32 : Int32).toInt64 &&& 63)) ||| (((xs 5).toInt64) &&& 4294967295))) (n_cut (xs 3) ((((xs 6).toInt64) <<< ((32 : Int32).toInt64 &&& 63)) ||| (((xs 7).toInt64) &&& 4294967295)))))))))]) (w1 := [(m0, .inr (11, (y0.set 9 (.int 0))))]) hP hD [2] [0, 1] rfl rfl (by decide) (by decide) hk1 hFc hP1 hD1
      generalize H1 = H at hP hS ⊢
      have hP : va_P D vwCl [(h0, .inr (10, [.ref x0, .int 0, .ref x1, .ref x2, .ref x3, .ref x4, .ref x5, .ref x6, .ref x7, .ref x8, .int 0, .int 3000])), (o0, .inl (kA 1, 1, .inr (.inl (vp_updL (fun _ => 0) 0 (n_cut (xs 2) (n_combine (xs 1) 1 (n_cut (xs 2) ((((xs 4).toInt64) <<< ((32 : Int32).toInt64 &&& 63)) ||| (((xs 5).toInt64) &&& 4294967295))) (n_cut (xs 3) ((((xs 6).toInt64) <<< ((32 : Int32).toInt64 &&& 63)) ||| (((xs 7).toInt64) &&& 4294967295))))))))), (m0, .inr (11, (y0.set 9 (.int 0))))] H := hP
      have hD : va_D A [(h0, .inr (10, [.ref x0, .int 0, .ref x1, .ref x2, .ref x3, .ref x4, .ref x5, .ref x6, .ref x7, .ref x8, .int 0, .int 3000])), (o0, .inl (kA 1, 1, .inr (.inl (vp_updL (fun _ => 0) 0 (n_cut (xs 2) (n_combine (xs 1) 1 (n_cut (xs 2) ((((xs 4).toInt64) <<< ((32 : Int32).toInt64 &&& 63)) ||| (((xs 5).toInt64) &&& 4294967295))) (n_cut (xs 3) ((((xs 6).toInt64) <<< ((32 : Int32).toInt64 &&& 63)) ||| (((xs 7).toInt64) &&& 4294967295))))))))), (m0, .inr (11, (y0.set 9 (.int 0))))] := hD
      refine lv_iload hx hb dL_law_1607 (lv_at hl 1 rfl) ?_
      refine lv_icmp_eq (tgt := 1614) hx hb dL_law_1609 (by decide) (fun c_7252 => ?_) (fun c_7252 => ?_)
      · skip
        refine lv_iload hx hb dL_law_1614 (lv_at hl 1 rfl) ?_
        refine lv_if_ne (tgt := 1630) hx hb dL_law_1616 (by decide) (fun c_7253 => ?_) (fun c_7253 => ?_)
        · exact absurd (by decide) c_7253
        · skip
          refine lv_aload_n hx hb dL_law_1619 rfl (lv_at hl 5 rfl) ?_
          refine lv_iconst (v := 0) hx hb dL_law_1620 (by decide) ?_
          refine va_lald hx hb hK hP 1 1 rfl rfl (show vp_in 0 1 by unfold vp_in; decide) dL_law_1621 ?_
          refine W.eq (g2 := F0 m 1622 ls [.long (n_cut (xs 2) (n_combine (xs 1) 1 (n_cut (xs 2) ((((xs 4).toInt64) <<< ((32 : Int32).toInt64 &&& 63)) ||| (((xs 5).toInt64) &&& 4294967295))) (n_cut (xs 3) ((((xs 6).toInt64) <<< ((32 : Int32).toInt64 &&& 63)) ||| (((xs 7).toInt64) &&& 4294967295)))))]) rfl ?_
          refine lv_lload hx hb dL_law_1622 (lv_at hl 0 rfl) ?_
          refine W.lcmp hx hb dL_law_1624 ?_
          refine lv_if_eq (tgt := 1630) hx hb dL_law_1625 (by decide) (fun c_7254 => ?_) (fun c_7254 => ?_)
          · skip
            refine lv_goto (tgt := 1804) hx hb dL_law_1630 (by decide) ?_
            exact lk_tail hC hA2 (lv_sub hl [2, 6] rfl) hS (Nat.le_of_ble_eq_true rfl) (Nat.le_of_ble_eq_true rfl)
          · exact absurd ((lg_cmp_eq _ _).mpr (qx_w1 c_61 c_7082 (fun q => c_63 q.2) (by rw [c_7089]; decide))) c_7254
      · exact absurd (by decide) c_7252
    · skip
      subst w_7109
      subst w_7110
      exact absurd c_64 c_7106
    · skip
      subst w_7125
      subst w_7126
      exact absurd c_64 c_7122
    · skip
      subst w_7138
      subst w_7139
      obtain ⟨hP, hD⟩ := va_join (wr := [(h0, .inr (10, [.ref x0, .int 0, .ref x1, .ref x2, .ref x3, .ref x4, .ref x5, .ref x6, .ref x7, .ref x8, .int 0, .int 3000])), (o0, .inl (kA 1, 1, .inr (.inl (vp_updL (fun _ => 0) 0 (n_cut (xs 2) (n_combine (xs 1) 1 (n_cut (xs 2) ((((xs 4).toInt64) <<< ((32 : Int32).toInt64 &&& 63)) ||| (((xs 5).toInt64) &&& 4294967295))) (n_cut (xs 3) ((((xs 6).toInt64) <<< ((32 : Int32).toInt64 &&& 63)) ||| (((xs 7).toInt64) &&& 4294967295)))))))))]) (w1 := [(m0, .inr (11, y0.set 9 (.int 0)))]) hP hD [0] [1, 2] rfl rfl (by decide) (by decide) hk1 hFc hP1 hD1
      generalize H1 = H at hP hS ⊢
      have hP : va_P D vwCl [(h0, .inr (10, [.ref x0, .int 0, .ref x1, .ref x2, .ref x3, .ref x4, .ref x5, .ref x6, .ref x7, .ref x8, .int 0, .int 3000])), (o0, .inl (kA 1, 1, .inr (.inl (vp_updL (fun _ => 0) 0 (n_cut (xs 2) (n_combine (xs 1) 1 (n_cut (xs 2) ((((xs 4).toInt64) <<< ((32 : Int32).toInt64 &&& 63)) ||| (((xs 5).toInt64) &&& 4294967295))) (n_cut (xs 3) ((((xs 6).toInt64) <<< ((32 : Int32).toInt64 &&& 63)) ||| (((xs 7).toInt64) &&& 4294967295))))))))), (m0, .inr (11, y0.set 9 (.int 0)))] H := hP
      have hD : va_D A [(h0, .inr (10, [.ref x0, .int 0, .ref x1, .ref x2, .ref x3, .ref x4, .ref x5, .ref x6, .ref x7, .ref x8, .int 0, .int 3000])), (o0, .inl (kA 1, 1, .inr (.inl (vp_updL (fun _ => 0) 0 (n_cut (xs 2) (n_combine (xs 1) 1 (n_cut (xs 2) ((((xs 4).toInt64) <<< ((32 : Int32).toInt64 &&& 63)) ||| (((xs 5).toInt64) &&& 4294967295))) (n_cut (xs 3) ((((xs 6).toInt64) <<< ((32 : Int32).toInt64 &&& 63)) ||| (((xs 7).toInt64) &&& 4294967295))))))))), (m0, .inr (11, y0.set 9 (.int 0)))] := hD
      refine lv_lstore (lv' := [(6, .long (n_cut (xs 2) (r_two 241 1 (n_cut (xs 2) ((((xs 4).toInt64) <<< ((32 : Int32).toInt64 &&& 63)) ||| (((xs 5).toInt64) &&& 4294967295))) (n_cut (xs 3) ((((xs 6).toInt64) <<< ((32 : Int32).toInt64 &&& 63)) ||| (((xs 7).toInt64) &&& 4294967295)))))), (5, .int 0), (0, .ref b), (1, .ref h0), (2, .ref m0), (3, .ref o0), (4, .int 0)]) hx hb dL_law_1601 hl (by decide) rfl (fun ls hl => ?_)
      refine lv_aload_n hx hb dL_law_1603 rfl (lv_at hl 4 rfl) ?_
      have hPc := hP.sub (ws' := [(m0, .inr (11, y0.set 9 (.int 0)))]) [2] rfl
      have hDc := hD.sub (ws' := [(m0, .inr (11, y0.set 9 (.int 0)))]) [2] (by decide) rfl
      have hFc := va_free (wc := [(m0, .inr (11, y0.set 9 (.int 0)))]) hD hS hA [2] rfl
      refine va_calli (va_runV (As := []) (rest := []) ⟨hx, hb, hml, hown, hts⟩ (a94_X12_thrown l  D kA V H.size m0 (y0.set 9 (.int 0)) (fun k hk => (by rw [List.length_set]; exact (hq k hk))) (List.getElem?_set_self (hq 9 (by decide)))) (cwV 0 hts (gw_V gw_1879 gw_1880 gw_1881 gw_16 gw_1882) rfl rfl rfl (by decide +kernel) ⟨(Nat.le_of_ble_eq_true rfl), (Nat.le_of_ble_eq_true rfl)⟩) ⟨aP.blind, va_recv hK hP (ci := 11) (q0 := 2) rfl rfl, aP.pre hE hS hPc hK hDc hFc⟩ rfl rfl hl.1 rfl (lv_room (Nat.le_of_ble_eq_true rfl)) dL_law_1604 ⟨(Nat.le_of_ble_eq_true rfl), (Nat.le_of_ble_eq_true rfl)⟩) hS (fun q _ h => hFc q h) hFc (fun r_7255 u t H1 locs ht hvm hw hB hz1 hk1 hS => ?_)
      obtain ⟨hP1, hD1⟩ := hB
      rw [ht] at hP1
      try dsimp only at hw hP1 hD1
      have w_7256 := hw
      subst w_7256
      obtain ⟨hP, hD⟩ := va_join (wr := [(h0, .inr (10, [.ref x0, .int 0, .ref x1, .ref x2, .ref x3, .ref x4, .ref x5, .ref x6, .ref x7, .ref x8, .int 0, .int 3000])), (o0, .inl (kA 1, 1, .inr (.inl (vp_updL (fun _ => 0) 0 (n_cut (xs 2) (n_combine (xs 1) 1 (n_cut (xs 2) ((((xs 4).toInt64) <<< ((32 : Int32).toInt64 &&& 63)) ||| (((xs 5).toInt64) &&& 4294967295))) (n_cut (xs 3) ((((xs 6).toInt64) <<< ((32 : Int32).toInt64 &&& 63)) ||| (((xs 7).toInt64) &&& 4294967295)))))))))]) (w1 := [(m0, .inr (11, (y0.set 9 (.int 0))))]) hP hD [2] [0, 1] rfl rfl (by decide) (by decide) hk1 hFc hP1 hD1
      generalize H1 = H at hP hS ⊢
      have hP : va_P D vwCl [(h0, .inr (10, [.ref x0, .int 0, .ref x1, .ref x2, .ref x3, .ref x4, .ref x5, .ref x6, .ref x7, .ref x8, .int 0, .int 3000])), (o0, .inl (kA 1, 1, .inr (.inl (vp_updL (fun _ => 0) 0 (n_cut (xs 2) (n_combine (xs 1) 1 (n_cut (xs 2) ((((xs 4).toInt64) <<< ((32 : Int32).toInt64 &&& 63)) ||| (((xs 5).toInt64) &&& 4294967295))) (n_cut (xs 3) ((((xs 6).toInt64) <<< ((32 : Int32).toInt64 &&& 63)) ||| (((xs 7).toInt64) &&& 4294967295))))))))), (m0, .inr (11, (y0.set 9 (.int 0))))] H := hP
      have hD : va_D A [(h0, .inr (10, [.ref x0, .int 0, .ref x1, .ref x2, .ref x3, .ref x4, .ref x5, .ref x6, .ref x7, .ref x8, .int 0, .int 3000])), (o0, .inl (kA 1, 1, .inr (.inl (vp_updL (fun _ => 0) 0 (n_cut (xs 2) (n_combine (xs 1) 1 (n_cut (xs 2) ((((xs 4).toInt64) <<< ((32 : Int32).toInt64 &&& 63)) ||| (((xs 5).toInt64) &&& 4294967295))) (n_cut (xs 3) ((((xs 6).toInt64) <<< ((32 : Int32).toInt64 &&& 63)) ||| (((xs 7).toInt64) &&& 4294967295))))))))), (m0, .inr (11, (y0.set 9 (.int 0))))] := hD
      refine lv_iload hx hb dL_law_1607 (lv_at hl 1 rfl) ?_
      refine lv_icmp_eq (tgt := 1614) hx hb dL_law_1609 (by decide) (fun c_7257 => ?_) (fun c_7257 => ?_)
      · skip
        refine lv_iload hx hb dL_law_1614 (lv_at hl 1 rfl) ?_
        refine lv_if_ne (tgt := 1630) hx hb dL_law_1616 (by decide) (fun c_7258 => ?_) (fun c_7258 => ?_)
        · exact absurd (by decide) c_7258
        · skip
          refine lv_aload_n hx hb dL_law_1619 rfl (lv_at hl 5 rfl) ?_
          refine lv_iconst (v := 0) hx hb dL_law_1620 (by decide) ?_
          refine va_lald hx hb hK hP 1 1 rfl rfl (show vp_in 0 1 by unfold vp_in; decide) dL_law_1621 ?_
          refine W.eq (g2 := F0 m 1622 ls [.long (n_cut (xs 2) (n_combine (xs 1) 1 (n_cut (xs 2) ((((xs 4).toInt64) <<< ((32 : Int32).toInt64 &&& 63)) ||| (((xs 5).toInt64) &&& 4294967295))) (n_cut (xs 3) ((((xs 6).toInt64) <<< ((32 : Int32).toInt64 &&& 63)) ||| (((xs 7).toInt64) &&& 4294967295)))))]) rfl ?_
          refine lv_lload hx hb dL_law_1622 (lv_at hl 0 rfl) ?_
          refine W.lcmp hx hb dL_law_1624 ?_
          refine lv_if_eq (tgt := 1630) hx hb dL_law_1625 (by decide) (fun c_7259 => ?_) (fun c_7259 => ?_)
          · skip
            refine lv_goto (tgt := 1804) hx hb dL_law_1630 (by decide) ?_
            exact lk_tail hC hA2 (lv_sub hl [2, 6] rfl) hS (Nat.le_of_ble_eq_true rfl) (Nat.le_of_ble_eq_true rfl)
          · exact absurd ((lg_cmp_eq _ _).mpr (qx_w1 c_61 c_7128 (fun q => c_63 q.2) (by rw [c_7134]; decide))) c_7259
      · exact absurd (by decide) c_7257
    · skip
      subst w_7153
      subst w_7154
      exact absurd c_64 c_7150
    · skip
      subst w_7168
      subst w_7169
      exact absurd c_64 c_7165
    · skip
      subst w_7180
      subst w_7181
      obtain ⟨hP, hD⟩ := va_join (wr := [(h0, .inr (10, [.ref x0, .int 0, .ref x1, .ref x2, .ref x3, .ref x4, .ref x5, .ref x6, .ref x7, .ref x8, .int 0, .int 3000])), (o0, .inl (kA 1, 1, .inr (.inl (vp_updL (fun _ => 0) 0 (n_cut (xs 2) (n_combine (xs 1) 1 (n_cut (xs 2) ((((xs 4).toInt64) <<< ((32 : Int32).toInt64 &&& 63)) ||| (((xs 5).toInt64) &&& 4294967295))) (n_cut (xs 3) ((((xs 6).toInt64) <<< ((32 : Int32).toInt64 &&& 63)) ||| (((xs 7).toInt64) &&& 4294967295)))))))))]) (w1 := [(m0, .inr (11, y0.set 9 (.int 0)))]) hP hD [0] [1, 2] rfl rfl (by decide) (by decide) hk1 hFc hP1 hD1
      generalize H1 = H at hP hS ⊢
      have hP : va_P D vwCl [(h0, .inr (10, [.ref x0, .int 0, .ref x1, .ref x2, .ref x3, .ref x4, .ref x5, .ref x6, .ref x7, .ref x8, .int 0, .int 3000])), (o0, .inl (kA 1, 1, .inr (.inl (vp_updL (fun _ => 0) 0 (n_cut (xs 2) (n_combine (xs 1) 1 (n_cut (xs 2) ((((xs 4).toInt64) <<< ((32 : Int32).toInt64 &&& 63)) ||| (((xs 5).toInt64) &&& 4294967295))) (n_cut (xs 3) ((((xs 6).toInt64) <<< ((32 : Int32).toInt64 &&& 63)) ||| (((xs 7).toInt64) &&& 4294967295))))))))), (m0, .inr (11, y0.set 9 (.int 0)))] H := hP
      have hD : va_D A [(h0, .inr (10, [.ref x0, .int 0, .ref x1, .ref x2, .ref x3, .ref x4, .ref x5, .ref x6, .ref x7, .ref x8, .int 0, .int 3000])), (o0, .inl (kA 1, 1, .inr (.inl (vp_updL (fun _ => 0) 0 (n_cut (xs 2) (n_combine (xs 1) 1 (n_cut (xs 2) ((((xs 4).toInt64) <<< ((32 : Int32).toInt64 &&& 63)) ||| (((xs 5).toInt64) &&& 4294967295))) (n_cut (xs 3) ((((xs 6).toInt64) <<< ((32 : Int32).toInt64 &&& 63)) ||| (((xs 7).toInt64) &&& 4294967295))))))))), (m0, .inr (11, y0.set 9 (.int 0)))] := hD
      refine lv_lstore (lv' := [(6, .long (n_cut (xs 2) (r_two 240 1 (n_cut (xs 2) ((((xs 4).toInt64) <<< ((32 : Int32).toInt64 &&& 63)) ||| (((xs 5).toInt64) &&& 4294967295))) (n_cut (xs 3) ((((xs 6).toInt64) <<< ((32 : Int32).toInt64 &&& 63)) ||| (((xs 7).toInt64) &&& 4294967295)))))), (5, .int 0), (0, .ref b), (1, .ref h0), (2, .ref m0), (3, .ref o0), (4, .int 0)]) hx hb dL_law_1601 hl (by decide) rfl (fun ls hl => ?_)
      refine lv_aload_n hx hb dL_law_1603 rfl (lv_at hl 4 rfl) ?_
      have hPc := hP.sub (ws' := [(m0, .inr (11, y0.set 9 (.int 0)))]) [2] rfl
      have hDc := hD.sub (ws' := [(m0, .inr (11, y0.set 9 (.int 0)))]) [2] (by decide) rfl
      have hFc := va_free (wc := [(m0, .inr (11, y0.set 9 (.int 0)))]) hD hS hA [2] rfl
      refine va_calli (va_runV (As := []) (rest := []) ⟨hx, hb, hml, hown, hts⟩ (a94_X12_thrown l  D kA V H.size m0 (y0.set 9 (.int 0)) (fun k hk => (by rw [List.length_set]; exact (hq k hk))) (List.getElem?_set_self (hq 9 (by decide)))) (cwV 0 hts (gw_V gw_1879 gw_1880 gw_1881 gw_16 gw_1882) rfl rfl rfl (by decide +kernel) ⟨(Nat.le_of_ble_eq_true rfl), (Nat.le_of_ble_eq_true rfl)⟩) ⟨aP.blind, va_recv hK hP (ci := 11) (q0 := 2) rfl rfl, aP.pre hE hS hPc hK hDc hFc⟩ rfl rfl hl.1 rfl (lv_room (Nat.le_of_ble_eq_true rfl)) dL_law_1604 ⟨(Nat.le_of_ble_eq_true rfl), (Nat.le_of_ble_eq_true rfl)⟩) hS (fun q _ h => hFc q h) hFc (fun r_7260 u t H1 locs ht hvm hw hB hz1 hk1 hS => ?_)
      obtain ⟨hP1, hD1⟩ := hB
      rw [ht] at hP1
      try dsimp only at hw hP1 hD1
      have w_7261 := hw
      subst w_7261
      obtain ⟨hP, hD⟩ := va_join (wr := [(h0, .inr (10, [.ref x0, .int 0, .ref x1, .ref x2, .ref x3, .ref x4, .ref x5, .ref x6, .ref x7, .ref x8, .int 0, .int 3000])), (o0, .inl (kA 1, 1, .inr (.inl (vp_updL (fun _ => 0) 0 (n_cut (xs 2) (n_combine (xs 1) 1 (n_cut (xs 2) ((((xs 4).toInt64) <<< ((32 : Int32).toInt64 &&& 63)) ||| (((xs 5).toInt64) &&& 4294967295))) (n_cut (xs 3) ((((xs 6).toInt64) <<< ((32 : Int32).toInt64 &&& 63)) ||| (((xs 7).toInt64) &&& 4294967295)))))))))]) (w1 := [(m0, .inr (11, (y0.set 9 (.int 0))))]) hP hD [2] [0, 1] rfl rfl (by decide) (by decide) hk1 hFc hP1 hD1
      generalize H1 = H at hP hS ⊢
      have hP : va_P D vwCl [(h0, .inr (10, [.ref x0, .int 0, .ref x1, .ref x2, .ref x3, .ref x4, .ref x5, .ref x6, .ref x7, .ref x8, .int 0, .int 3000])), (o0, .inl (kA 1, 1, .inr (.inl (vp_updL (fun _ => 0) 0 (n_cut (xs 2) (n_combine (xs 1) 1 (n_cut (xs 2) ((((xs 4).toInt64) <<< ((32 : Int32).toInt64 &&& 63)) ||| (((xs 5).toInt64) &&& 4294967295))) (n_cut (xs 3) ((((xs 6).toInt64) <<< ((32 : Int32).toInt64 &&& 63)) ||| (((xs 7).toInt64) &&& 4294967295))))))))), (m0, .inr (11, (y0.set 9 (.int 0))))] H := hP
      have hD : va_D A [(h0, .inr (10, [.ref x0, .int 0, .ref x1, .ref x2, .ref x3, .ref x4, .ref x5, .ref x6, .ref x7, .ref x8, .int 0, .int 3000])), (o0, .inl (kA 1, 1, .inr (.inl (vp_updL (fun _ => 0) 0 (n_cut (xs 2) (n_combine (xs 1) 1 (n_cut (xs 2) ((((xs 4).toInt64) <<< ((32 : Int32).toInt64 &&& 63)) ||| (((xs 5).toInt64) &&& 4294967295))) (n_cut (xs 3) ((((xs 6).toInt64) <<< ((32 : Int32).toInt64 &&& 63)) ||| (((xs 7).toInt64) &&& 4294967295))))))))), (m0, .inr (11, (y0.set 9 (.int 0))))] := hD
      refine lv_iload hx hb dL_law_1607 (lv_at hl 1 rfl) ?_
      refine lv_icmp_eq (tgt := 1614) hx hb dL_law_1609 (by decide) (fun c_7262 => ?_) (fun c_7262 => ?_)
      · skip
        refine lv_iload hx hb dL_law_1614 (lv_at hl 1 rfl) ?_
        refine lv_if_ne (tgt := 1630) hx hb dL_law_1616 (by decide) (fun c_7263 => ?_) (fun c_7263 => ?_)
        · exact absurd (by decide) c_7263
        · skip
          refine lv_aload_n hx hb dL_law_1619 rfl (lv_at hl 5 rfl) ?_
          refine lv_iconst (v := 0) hx hb dL_law_1620 (by decide) ?_
          refine va_lald hx hb hK hP 1 1 rfl rfl (show vp_in 0 1 by unfold vp_in; decide) dL_law_1621 ?_
          refine W.eq (g2 := F0 m 1622 ls [.long (n_cut (xs 2) (n_combine (xs 1) 1 (n_cut (xs 2) ((((xs 4).toInt64) <<< ((32 : Int32).toInt64 &&& 63)) ||| (((xs 5).toInt64) &&& 4294967295))) (n_cut (xs 3) ((((xs 6).toInt64) <<< ((32 : Int32).toInt64 &&& 63)) ||| (((xs 7).toInt64) &&& 4294967295)))))]) rfl ?_
          refine lv_lload hx hb dL_law_1622 (lv_at hl 0 rfl) ?_
          refine W.lcmp hx hb dL_law_1624 ?_
          refine lv_if_eq (tgt := 1630) hx hb dL_law_1625 (by decide) (fun c_7264 => ?_) (fun c_7264 => ?_)
          · skip
            refine lv_goto (tgt := 1804) hx hb dL_law_1630 (by decide) ?_
            exact lk_tail hC hA2 (lv_sub hl [2, 6] rfl) hS (Nat.le_of_ble_eq_true rfl) (Nat.le_of_ble_eq_true rfl)
          · exact absurd ((lg_cmp_eq _ _).mpr (qx_w1 c_61 c_7171 (fun q => c_63 q.2) (by rw [c_7176]; decide))) c_7264
      · exact absurd (by decide) c_7262
    · skip
      subst w_7194
      subst w_7195
      exact absurd c_64 c_7191
    · skip
      subst w_7208
      subst w_7209
      exact absurd c_64 c_7205
  · skip
    subst w_76
    subst w_77
    obtain ⟨hP, hD⟩ := va_join (wr := [(m0, .inr (11, y0))]) (w1 := [(h0, .inr (10, [.ref x0, .int 0, .ref x1, .ref x2, .ref x3, .ref x4, .ref x5, .ref x6, .ref x7, .ref x8, .int 0, .int 3000])), (o0, .inl (kA 1, 1, .inr (.inl (vp_updL (fun _ => 0) 0 (n_cut (xs 2) (n_combine (xs 1) 0 (n_cut (xs 2) ((((xs 4).toInt64) <<< ((32 : Int32).toInt64 &&& 63)) ||| (((xs 5).toInt64) &&& 4294967295))) (n_cut (xs 3) ((((xs 6).toInt64) <<< ((32 : Int32).toInt64 &&& 63)) ||| (((xs 7).toInt64) &&& 4294967295)))))))))]) hP hD [0, 2] [1] rfl rfl (by decide) (by decide) hk1 hFc hP1 hD1
    generalize H1 = H at hP hS ⊢
    have hP : va_P D vwCl [(m0, .inr (11, y0)), (h0, .inr (10, [.ref x0, .int 0, .ref x1, .ref x2, .ref x3, .ref x4, .ref x5, .ref x6, .ref x7, .ref x8, .int 0, .int 3000])), (o0, .inl (kA 1, 1, .inr (.inl (vp_updL (fun _ => 0) 0 (n_cut (xs 2) (n_combine (xs 1) 0 (n_cut (xs 2) ((((xs 4).toInt64) <<< ((32 : Int32).toInt64 &&& 63)) ||| (((xs 5).toInt64) &&& 4294967295))) (n_cut (xs 3) ((((xs 6).toInt64) <<< ((32 : Int32).toInt64 &&& 63)) ||| (((xs 7).toInt64) &&& 4294967295)))))))))] H := hP
    have hD : va_D A [(m0, .inr (11, y0)), (h0, .inr (10, [.ref x0, .int 0, .ref x1, .ref x2, .ref x3, .ref x4, .ref x5, .ref x6, .ref x7, .ref x8, .int 0, .int 3000])), (o0, .inl (kA 1, 1, .inr (.inl (vp_updL (fun _ => 0) 0 (n_cut (xs 2) (n_combine (xs 1) 0 (n_cut (xs 2) ((((xs 4).toInt64) <<< ((32 : Int32).toInt64 &&& 63)) ||| (((xs 5).toInt64) &&& 4294967295))) (n_cut (xs 3) ((((xs 6).toInt64) <<< ((32 : Int32).toInt64 &&& 63)) ||| (((xs 7).toInt64) &&& 4294967295)))))))))] := hD
    refine lv_istore (lv' := [(5, .int 0), (0, .ref b), (1, .ref h0), (2, .ref m0), (3, .ref o0), (4, .int 0)]) hx hb dL_law_1531 hl (by decide) rfl (fun ls hl => ?_)
    refine lv_aload_n hx hb dL_law_1533 rfl (lv_at hl 3 rfl) ?_
    refine lv_aload_n hx hb dL_law_1534 rfl (lv_at hl 1 rfl) ?_
    refine lv_iload hx hb dL_law_1535 (lv_at hl 5 rfl) ?_
    refine lv_iconst (v := 1) hx hb dL_law_1537 (by decide) ?_
    refine lv_iadd hx hb dL_law_1538 ?_
    refine W.eq (g2 := F0 m 1539 ls [.int 1, .ref b, .ref m0]) rfl ?_
    refine va_sld hx hb hX hbl hbA hS (show vp_in 1 8 by unfold vp_in; decide) dL_law_1539 ?_
    refine W.eq (g2 := F0 m 1540 ls [.int (xs 1), .ref m0]) rfl ?_
    refine lv_aload_n hx hb dL_law_1540 rfl (lv_at hl 1 rfl) ?_
    refine lv_iload hx hb dL_law_1541 (lv_at hl 5 rfl) ?_
    refine lv_iconst (v := 2) hx hb dL_law_1543 (by decide) ?_
    refine lv_iadd hx hb dL_law_1544 ?_
    refine W.eq (g2 := F0 m 1545 ls [.int 2, .ref b, .int (xs 1), .ref m0]) rfl ?_
    refine va_sld hx hb hX hbl hbA hS (show vp_in 2 8 by unfold vp_in; decide) dL_law_1545 ?_
    refine W.eq (g2 := F0 m 1546 ls [.int (xs 2), .int (xs 1), .ref m0]) rfl ?_
    refine lv_aload_n hx hb dL_law_1546 rfl (lv_at hl 1 rfl) ?_
    refine lv_iload hx hb dL_law_1547 (lv_at hl 5 rfl) ?_
    refine lv_iconst (v := 3) hx hb dL_law_1549 (by decide) ?_
    refine lv_iadd hx hb dL_law_1550 ?_
    refine W.eq (g2 := F0 m 1551 ls [.int 3, .ref b, .int (xs 2), .int (xs 1), .ref m0]) rfl ?_
    refine va_sld hx hb hX hbl hbA hS (show vp_in 3 8 by unfold vp_in; decide) dL_law_1551 ?_
    refine W.eq (g2 := F0 m 1552 ls [.int (xs 3), .int (xs 2), .int (xs 1), .ref m0]) rfl ?_
    refine lv_aload_n hx hb dL_law_1552 rfl (lv_at hl 1 rfl) ?_
    refine lv_iload hx hb dL_law_1553 (lv_at hl 5 rfl) ?_
    refine lv_iconst (v := 4) hx hb dL_law_1555 (by decide) ?_
    refine lv_iadd hx hb dL_law_1556 ?_
    refine W.eq (g2 := F0 m 1557 ls [.int 4, .ref b, .int (xs 3), .int (xs 2), .int (xs 1), .ref m0]) rfl ?_
    refine va_sld hx hb hX hbl hbA hS (show vp_in 4 8 by unfold vp_in; decide) dL_law_1557 ?_
    refine W.eq (g2 := F0 m 1558 ls [.int (xs 4), .int (xs 3), .int (xs 2), .int (xs 1), .ref m0]) rfl ?_
    refine lv_i2l (v := (xs 4).toInt64) hx hb dL_law_1558 rfl ?_
    refine lv_bipush (v := 32) hx hb dL_law_1559 (by decide) ?_
    refine lv_lshl (v := ((xs 4).toInt64) <<< ((32 : Int32).toInt64 &&& 63)) hx hb dL_law_1561 rfl ?_
    refine lv_aload_n hx hb dL_law_1562 rfl (lv_at hl 1 rfl) ?_
    refine lv_iload hx hb dL_law_1563 (lv_at hl 5 rfl) ?_
    refine lv_iconst (v := 5) hx hb dL_law_1565 (by decide) ?_
    refine lv_iadd hx hb dL_law_1566 ?_
    refine W.eq (g2 := F0 m 1567 ls [.int 5, .ref b, .long (((xs 4).toInt64) <<< ((32 : Int32).toInt64 &&& 63)), .int (xs 3), .int (xs 2), .int (xs 1), .ref m0]) rfl ?_
    refine va_sld hx hb hX hbl hbA hS (show vp_in 5 8 by unfold vp_in; decide) dL_law_1567 ?_
    refine W.eq (g2 := F0 m 1568 ls [.int (xs 5), .long (((xs 4).toInt64) <<< ((32 : Int32).toInt64 &&& 63)), .int (xs 3), .int (xs 2), .int (xs 1), .ref m0]) rfl ?_
    refine lv_i2l (v := (xs 5).toInt64) hx hb dL_law_1568 rfl ?_
    refine lv_ldc2 (v := 4294967295) hx hb hown (hG _ gw_2764) dL_law_1569 ?_
    refine lv_land hx hb dL_law_1572 ?_
    refine lv_lor hx hb dL_law_1573 ?_
    refine lv_aload_n hx hb dL_law_1574 rfl (lv_at hl 1 rfl) ?_
    refine lv_iload hx hb dL_law_1575 (lv_at hl 5 rfl) ?_
    refine lv_bipush (v := 6) hx hb dL_law_1577 (by decide) ?_
    refine lv_iadd hx hb dL_law_1579 ?_
    refine W.eq (g2 := F0 m 1580 ls [.int 6, .ref b, .long ((((xs 4).toInt64) <<< ((32 : Int32).toInt64 &&& 63)) ||| (((xs 5).toInt64) &&& 4294967295)), .int (xs 3), .int (xs 2), .int (xs 1), .ref m0]) rfl ?_
    refine va_sld hx hb hX hbl hbA hS (show vp_in 6 8 by unfold vp_in; decide) dL_law_1580 ?_
    refine W.eq (g2 := F0 m 1581 ls [.int (xs 6), .long ((((xs 4).toInt64) <<< ((32 : Int32).toInt64 &&& 63)) ||| (((xs 5).toInt64) &&& 4294967295)), .int (xs 3), .int (xs 2), .int (xs 1), .ref m0]) rfl ?_
    refine lv_i2l (v := (xs 6).toInt64) hx hb dL_law_1581 rfl ?_
    refine lv_bipush (v := 32) hx hb dL_law_1582 (by decide) ?_
    refine lv_lshl (v := ((xs 6).toInt64) <<< ((32 : Int32).toInt64 &&& 63)) hx hb dL_law_1584 rfl ?_
    refine lv_aload_n hx hb dL_law_1585 rfl (lv_at hl 1 rfl) ?_
    refine lv_iload hx hb dL_law_1586 (lv_at hl 5 rfl) ?_
    refine lv_bipush (v := 7) hx hb dL_law_1588 (by decide) ?_
    refine lv_iadd hx hb dL_law_1590 ?_
    refine W.eq (g2 := F0 m 1591 ls [.int 7, .ref b, .long (((xs 6).toInt64) <<< ((32 : Int32).toInt64 &&& 63)), .long ((((xs 4).toInt64) <<< ((32 : Int32).toInt64 &&& 63)) ||| (((xs 5).toInt64) &&& 4294967295)), .int (xs 3), .int (xs 2), .int (xs 1), .ref m0]) rfl ?_
    refine va_sld hx hb hX hbl hbA hS (show vp_in 7 8 by unfold vp_in; decide) dL_law_1591 ?_
    refine W.eq (g2 := F0 m 1592 ls [.int (xs 7), .long (((xs 6).toInt64) <<< ((32 : Int32).toInt64 &&& 63)), .long ((((xs 4).toInt64) <<< ((32 : Int32).toInt64 &&& 63)) ||| (((xs 5).toInt64) &&& 4294967295)), .int (xs 3), .int (xs 2), .int (xs 1), .ref m0]) rfl ?_
    refine lv_i2l (v := (xs 7).toInt64) hx hb dL_law_1592 rfl ?_
    refine lv_ldc2 (v := 4294967295) hx hb hown (hG _ gw_2764) dL_law_1593 ?_
    refine lv_land hx hb dL_law_1596 ?_
    refine lv_lor hx hb dL_law_1597 ?_
    have hPc := hP.sub (ws' := [(m0, .inr (11, y0))]) [0] rfl
    have hDc := hD.sub (ws' := [(m0, .inr (11, y0))]) [0] (by decide) rfl
    have hFc := va_free (wc := [(m0, .inr (11, y0))]) hD hS hA [0] rfl
    refine va_calll (va_runV (As := [.int (xs 1), .int (xs 2), .int (xs 3), .long ((((xs 4).toInt64) <<< ((32 : Int32).toInt64 &&& 63)) ||| (((xs 5).toInt64) &&& 4294967295)), .long ((((xs 6).toInt64) <<< ((32 : Int32).toInt64 &&& 63)) ||| (((xs 7).toInt64) &&& 4294967295))]) (rest := []) ⟨hx, hb, hml, hown, hts⟩ (a153_X12_work l  D kA V H.size m0 (xs 1) (xs 2) (xs 3) ((((xs 4).toInt64) <<< ((32 : Int32).toInt64 &&& 63)) ||| (((xs 5).toInt64) &&& 4294967295)) ((((xs 6).toInt64) <<< ((32 : Int32).toInt64 &&& 63)) ||| (((xs 7).toInt64) &&& 4294967295)) y0 (fun k hk => (hq k hk)) hq9) (cwV 5 hts (gw_V gw_2756 gw_2757 gw_2758 gw_16 gw_2759) rfl rfl rfl (by decide +kernel) ⟨(Nat.le_of_ble_eq_true rfl), (Nat.le_of_ble_eq_true rfl)⟩) ⟨aP.blind, va_recv hK hP (ci := 11) (q0 := 0) rfl rfl, aP.pre hE hS hPc hK hDc hFc⟩ rfl rfl hl.1 rfl (lv_room (Nat.le_of_ble_eq_true rfl)) dL_law_1598 ⟨(Nat.le_of_ble_eq_true rfl), (Nat.le_of_ble_eq_true rfl)⟩) hS (fun q _ h => hFc q h) hFc (fun r_7265 u t H1 locs ht hvm hw hB hz1 hk1 hS => ?_)
    obtain ⟨u_7266, rfl⟩ : ∃ z, z = u := ⟨u, rfl⟩
    obtain ⟨hP1, hD1⟩ := hB
    rw [ht] at hP1
    try dsimp only at hw hP1 hD1
    rcases hw with ⟨c_7267, c_7268, w_7269, w_7270⟩ | ⟨c_7271, c_7272, c_7273, w_7274, w_7275⟩ | ⟨c_7276, c_7277, c_7278, c_7279, w_7280, w_7281⟩ | ⟨c_7282, c_7283, c_7284, c_7285, c_7286, w_7287, w_7288⟩ | ⟨c_7289, c_7290, c_7291, c_7292, c_7293, w_7294, w_7295⟩ | ⟨c_7296, c_7297, c_7298, w_7299, w_7300⟩ | ⟨c_7301, c_7302, c_7303, c_7304, w_7305, w_7306⟩ | ⟨c_7307, c_7308, c_7309, c_7310, c_7311, w_7312, w_7313⟩ | ⟨c_7314, c_7315, c_7316, c_7317, c_7318, c_7319, w_7320, w_7321⟩ | ⟨c_7322, c_7323, c_7324, c_7325, c_7326, c_7327, w_7328, w_7329⟩ | ⟨c_7330, c_7331, c_7332, w_7333, w_7334⟩ | ⟨c_7335, c_7336, c_7337, c_7338, w_7339, w_7340⟩ | ⟨c_7341, c_7342, c_7343, c_7344, c_7345, w_7346, w_7347⟩ | ⟨c_7348, c_7349, c_7350, c_7351, c_7352, c_7353, w_7354, w_7355⟩ | ⟨c_7356, c_7357, c_7358, c_7359, c_7360, c_7361, c_7362, c_7363, c_7364, c_7365, c_7366, c_7367, c_7368, c_7369, c_7370, c_7371, c_7372, c_7373, c_7374, w_7375, w_7376⟩ | ⟨c_7377, c_7378, c_7379, c_7380, c_7381, c_7382, c_7383, c_7384, c_7385, c_7386, c_7387, c_7388, c_7389, c_7390, c_7391, c_7392, c_7393, c_7394, c_7395, c_7396, w_7397, w_7398⟩ | ⟨c_7399, c_7400, c_7401, c_7402, c_7403, c_7404, c_7405, c_7406, c_7407, c_7408, c_7409, c_7410, c_7411, c_7412, c_7413, c_7414, c_7415, c_7416, c_7417, c_7418, c_7419, w_7420, w_7421⟩ | ⟨c_7422, c_7423, c_7424, c_7425, c_7426, c_7427, c_7428, c_7429, c_7430, c_7431, c_7432, c_7433, c_7434, c_7435, c_7436, c_7437, c_7438, c_7439, c_7440, c_7441, c_7442, w_7443, w_7444⟩ | ⟨c_7445, c_7446, c_7447, c_7448, c_7449, c_7450, c_7451, c_7452, c_7453, c_7454, c_7455, c_7456, c_7457, c_7458, c_7459, c_7460, c_7461, c_7462, c_7463, w_7464, w_7465⟩ | ⟨c_7466, c_7467, c_7468, c_7469, c_7470, c_7471, c_7472, c_7473, c_7474, c_7475, c_7476, c_7477, c_7478, c_7479, c_7480, c_7481, c_7482, c_7483, c_7484, c_7485, w_7486, w_7487⟩ | ⟨c_7488, c_7489, c_7490, c_7491, c_7492, c_7493, c_7494, c_7495, c_7496, c_7497, c_7498, c_7499, c_7500, c_7501, c_7502, c_7503, c_7504, c_7505, w_7506, w_7507⟩ | ⟨c_7508, c_7509, c_7510, c_7511, c_7512, c_7513, c_7514, c_7515, c_7516, c_7517, c_7518, c_7519, c_7520, c_7521, c_7522, c_7523, c_7524, c_7525, c_7526, w_7527, w_7528⟩ | ⟨c_7529, c_7530, c_7531, c_7532, c_7533, c_7534, c_7535, c_7536, c_7537, c_7538, c_7539, c_7540, c_7541, c_7542, c_7543, c_7544, c_7545, w_7546, w_7547⟩ | ⟨c_7548, c_7549, c_7550, c_7551, c_7552, c_7553, c_7554, c_7555, c_7556, c_7557, c_7558, c_7559, c_7560, c_7561, c_7562, c_7563, c_7564, c_7565, c_7566, w_7567, w_7568⟩ | ⟨c_7569, c_7570, c_7571, c_7572, c_7573, c_7574, c_7575, c_7576, c_7577, c_7578, c_7579, c_7580, c_7581, c_7582, c_7583, c_7584, c_7585, c_7586, c_7587, w_7588, w_7589⟩ | ⟨c_7590, c_7591, c_7592, c_7593, c_7594, c_7595, c_7596, c_7597, c_7598, c_7599, c_7600, c_7601, c_7602, c_7603, c_7604, c_7605, w_7606, w_7607⟩ | ⟨c_7608, c_7609, c_7610, c_7611, c_7612, c_7613, c_7614, c_7615, c_7616, c_7617, c_7618, c_7619, c_7620, c_7621, c_7622, c_7623, c_7624, c_7625, w_7626, w_7627⟩ | ⟨c_7628, c_7629, c_7630, c_7631, c_7632, c_7633, c_7634, c_7635, c_7636, c_7637, c_7638, c_7639, c_7640, c_7641, c_7642, c_7643, c_7644, c_7645, w_7646, w_7647⟩ | ⟨c_7648, c_7649, c_7650, c_7651, c_7652, c_7653, c_7654, c_7655, c_7656, c_7657, c_7658, c_7659, c_7660, c_7661, c_7662, w_7663, w_7664⟩ | ⟨c_7665, c_7666, c_7667, c_7668, c_7669, c_7670, c_7671, c_7672, c_7673, c_7674, c_7675, c_7676, c_7677, c_7678, c_7679, c_7680, c_7681, w_7682, w_7683⟩ | ⟨c_7684, c_7685, c_7686, c_7687, c_7688, c_7689, c_7690, c_7691, c_7692, c_7693, c_7694, c_7695, c_7696, c_7697, c_7698, c_7699, c_7700, w_7701, w_7702⟩ | ⟨c_7703, c_7704, c_7705, c_7706, c_7707, c_7708, c_7709, c_7710, c_7711, c_7712, c_7713, c_7714, c_7715, c_7716, c_7717, w_7718, w_7719⟩ | ⟨c_7720, c_7721, c_7722, c_7723, c_7724, c_7725, c_7726, c_7727, c_7728, c_7729, c_7730, c_7731, c_7732, c_7733, c_7734, c_7735, c_7736, w_7737, w_7738⟩ | ⟨c_7739, c_7740, c_7741, c_7742, c_7743, c_7744, c_7745, c_7746, c_7747, c_7748, c_7749, c_7750, c_7751, c_7752, c_7753, c_7754, c_7755, w_7756, w_7757⟩ | ⟨c_7758, c_7759, c_7760, c_7761, c_7762, c_7763, c_7764, c_7765, c_7766, c_7767, c_7768, c_7769, c_7770, c_7771, c_7772, w_7773, w_7774⟩ | ⟨c_7775, c_7776, c_7777, c_7778, c_7779, c_7780, c_7781, c_7782, c_7783, c_7784, c_7785, c_7786, c_7787, c_7788, c_7789, c_7790, c_7791, w_7792, w_7793⟩ | ⟨c_7794, c_7795, c_7796, c_7797, c_7798, c_7799, c_7800, c_7801, c_7802, c_7803, c_7804, c_7805, c_7806, c_7807, c_7808, c_7809, c_7810, w_7811, w_7812⟩ | ⟨c_7813, c_7814, c_7815, c_7816, c_7817, c_7818, c_7819, c_7820, c_7821, c_7822, c_7823, c_7824, c_7825, w_7826, w_7827⟩ | ⟨c_7828, c_7829, c_7830, c_7831, c_7832, c_7833, c_7834, c_7835, c_7836, c_7837, c_7838, c_7839, c_7840, c_7841, c_7842, w_7843, w_7844⟩ | ⟨c_7845, c_7846, c_7847, c_7848, c_7849, c_7850, c_7851, c_7852, c_7853, c_7854, c_7855, c_7856, c_7857, c_7858, c_7859, w_7860, w_7861⟩ | ⟨c_7862, c_7863, c_7864, c_7865, c_7866, c_7867, c_7868, c_7869, c_7870, c_7871, c_7872, c_7873, c_7874, w_7875, w_7876⟩ | ⟨c_7877, c_7878, c_7879, c_7880, c_7881, c_7882, c_7883, c_7884, c_7885, c_7886, c_7887, c_7888, c_7889, c_7890, c_7891, w_7892, w_7893⟩ | ⟨c_7894, c_7895, c_7896, c_7897, c_7898, c_7899, c_7900, c_7901, c_7902, c_7903, c_7904, c_7905, c_7906, c_7907, c_7908, w_7909, w_7910⟩ | ⟨c_7911, c_7912, c_7913, c_7914, c_7915, c_7916, c_7917, c_7918, c_7919, c_7920, c_7921, c_7922, w_7923, w_7924⟩ | ⟨c_7925, c_7926, c_7927, c_7928, c_7929, c_7930, c_7931, c_7932, c_7933, c_7934, c_7935, c_7936, c_7937, c_7938, w_7939, w_7940⟩ | ⟨c_7941, c_7942, c_7943, c_7944, c_7945, c_7946, c_7947, c_7948, c_7949, c_7950, c_7951, c_7952, c_7953, c_7954, w_7955, w_7956⟩ | ⟨c_7957, c_7958, c_7959, c_7960, c_7961, c_7962, c_7963, c_7964, c_7965, c_7966, c_7967, w_7968, w_7969⟩ | ⟨c_7970, c_7971, c_7972, c_7973, c_7974, c_7975, c_7976, c_7977, c_7978, c_7979, c_7980, c_7981, c_7982, w_7983, w_7984⟩ | ⟨c_7985, c_7986, c_7987, c_7988, c_7989, c_7990, c_7991, c_7992, c_7993, c_7994, c_7995, c_7996, c_7997, w_7998, w_7999⟩ | ⟨c_8000, c_8001, c_8002, c_8003, c_8004, c_8005, c_8006, c_8007, c_8008, c_8009, w_8010, w_8011⟩ | ⟨c_8012, c_8013, c_8014, c_8015, c_8016, c_8017, c_8018, c_8019, c_8020, c_8021, c_8022, c_8023, w_8024, w_8025⟩ | ⟨c_8026, c_8027, c_8028, c_8029, c_8030, c_8031, c_8032, c_8033, c_8034, c_8035, c_8036, c_8037, w_8038, w_8039⟩
    · skip
      subst w_7269
      subst w_7270
      exact absurd c_7267 c_71
    · skip
      subst w_7274
      subst w_7275
      exact absurd c_7271 c_71
    · skip
      subst w_7280
      subst w_7281
      exact absurd c_7276 c_71
    · skip
      subst w_7287
      subst w_7288
      exact absurd c_7282 c_71
    · skip
      subst w_7294
      subst w_7295
      exact absurd c_7289 c_71
    · skip
      subst w_7299
      subst w_7300
      exact absurd c_7297 (Int32.not_lt.mpr c_72)
    · skip
      subst w_7305
      subst w_7306
      exact absurd c_7302 (Int32.not_lt.mpr c_72)
    · skip
      subst w_7312
      subst w_7313
      exact absurd c_7308 (Int32.not_lt.mpr c_72)
    · skip
      subst w_7320
      subst w_7321
      exact absurd c_7315 (Int32.not_lt.mpr c_72)
    · skip
      subst w_7328
      subst w_7329
      exact absurd c_7323 (Int32.not_lt.mpr c_72)
    · skip
      subst w_7333
      subst w_7334
      exact absurd c_7332 c_67
    · skip
      subst w_7339
      subst w_7340
      exact absurd c_7338 c_68
    · skip
      subst w_7346
      subst w_7347
      exact absurd c_7345 c_69
    · skip
      subst w_7354
      subst w_7355
      exact absurd c_7353 c_70
    · skip
      subst w_7375
      subst w_7376
      exact absurd c_7374 c_74
    · skip
      subst w_7397
      subst w_7398
      obtain ⟨hP, hD⟩ := va_join (wr := [(h0, .inr (10, [.ref x0, .int 0, .ref x1, .ref x2, .ref x3, .ref x4, .ref x5, .ref x6, .ref x7, .ref x8, .int 0, .int 3000])), (o0, .inl (kA 1, 1, .inr (.inl (vp_updL (fun _ => 0) 0 (n_cut (xs 2) (n_combine (xs 1) 0 (n_cut (xs 2) ((((xs 4).toInt64) <<< ((32 : Int32).toInt64 &&& 63)) ||| (((xs 5).toInt64) &&& 4294967295))) (n_cut (xs 3) ((((xs 6).toInt64) <<< ((32 : Int32).toInt64 &&& 63)) ||| (((xs 7).toInt64) &&& 4294967295)))))))))]) (w1 := [(m0, .inr (11, y0.set 9 (.int 0)))]) hP hD [0] [1, 2] rfl rfl (by decide) (by decide) hk1 hFc hP1 hD1
      generalize H1 = H at hP hS ⊢
      have hP : va_P D vwCl [(h0, .inr (10, [.ref x0, .int 0, .ref x1, .ref x2, .ref x3, .ref x4, .ref x5, .ref x6, .ref x7, .ref x8, .int 0, .int 3000])), (o0, .inl (kA 1, 1, .inr (.inl (vp_updL (fun _ => 0) 0 (n_cut (xs 2) (n_combine (xs 1) 0 (n_cut (xs 2) ((((xs 4).toInt64) <<< ((32 : Int32).toInt64 &&& 63)) ||| (((xs 5).toInt64) &&& 4294967295))) (n_cut (xs 3) ((((xs 6).toInt64) <<< ((32 : Int32).toInt64 &&& 63)) ||| (((xs 7).toInt64) &&& 4294967295))))))))), (m0, .inr (11, y0.set 9 (.int 0)))] H := hP
      have hD : va_D A [(h0, .inr (10, [.ref x0, .int 0, .ref x1, .ref x2, .ref x3, .ref x4, .ref x5, .ref x6, .ref x7, .ref x8, .int 0, .int 3000])), (o0, .inl (kA 1, 1, .inr (.inl (vp_updL (fun _ => 0) 0 (n_cut (xs 2) (n_combine (xs 1) 0 (n_cut (xs 2) ((((xs 4).toInt64) <<< ((32 : Int32).toInt64 &&& 63)) ||| (((xs 5).toInt64) &&& 4294967295))) (n_cut (xs 3) ((((xs 6).toInt64) <<< ((32 : Int32).toInt64 &&& 63)) ||| (((xs 7).toInt64) &&& 4294967295))))))))), (m0, .inr (11, y0.set 9 (.int 0)))] := hD
      refine lv_lstore (lv' := [(6, .long (n_cut (xs 2) (r_two 203 0 (n_cut (xs 2) ((((xs 4).toInt64) <<< ((32 : Int32).toInt64 &&& 63)) ||| (((xs 5).toInt64) &&& 4294967295))) (n_cut (xs 3) ((((xs 6).toInt64) <<< ((32 : Int32).toInt64 &&& 63)) ||| (((xs 7).toInt64) &&& 4294967295)))))), (5, .int 0), (0, .ref b), (1, .ref h0), (2, .ref m0), (3, .ref o0), (4, .int 0)]) hx hb dL_law_1601 hl (by decide) rfl (fun ls hl => ?_)
      refine lv_aload_n hx hb dL_law_1603 rfl (lv_at hl 4 rfl) ?_
      have hPc := hP.sub (ws' := [(m0, .inr (11, y0.set 9 (.int 0)))]) [2] rfl
      have hDc := hD.sub (ws' := [(m0, .inr (11, y0.set 9 (.int 0)))]) [2] (by decide) rfl
      have hFc := va_free (wc := [(m0, .inr (11, y0.set 9 (.int 0)))]) hD hS hA [2] rfl
      refine va_calli (va_runV (As := []) (rest := []) ⟨hx, hb, hml, hown, hts⟩ (a94_X12_thrown l  D kA V H.size m0 (y0.set 9 (.int 0)) (fun k hk => (by rw [List.length_set]; exact (hq k hk))) (List.getElem?_set_self (hq 9 (by decide)))) (cwV 0 hts (gw_V gw_1879 gw_1880 gw_1881 gw_16 gw_1882) rfl rfl rfl (by decide +kernel) ⟨(Nat.le_of_ble_eq_true rfl), (Nat.le_of_ble_eq_true rfl)⟩) ⟨aP.blind, va_recv hK hP (ci := 11) (q0 := 2) rfl rfl, aP.pre hE hS hPc hK hDc hFc⟩ rfl rfl hl.1 rfl (lv_room (Nat.le_of_ble_eq_true rfl)) dL_law_1604 ⟨(Nat.le_of_ble_eq_true rfl), (Nat.le_of_ble_eq_true rfl)⟩) hS (fun q _ h => hFc q h) hFc (fun r_8040 u t H1 locs ht hvm hw hB hz1 hk1 hS => ?_)
      obtain ⟨hP1, hD1⟩ := hB
      rw [ht] at hP1
      try dsimp only at hw hP1 hD1
      have w_8041 := hw
      subst w_8041
      obtain ⟨hP, hD⟩ := va_join (wr := [(h0, .inr (10, [.ref x0, .int 0, .ref x1, .ref x2, .ref x3, .ref x4, .ref x5, .ref x6, .ref x7, .ref x8, .int 0, .int 3000])), (o0, .inl (kA 1, 1, .inr (.inl (vp_updL (fun _ => 0) 0 (n_cut (xs 2) (n_combine (xs 1) 0 (n_cut (xs 2) ((((xs 4).toInt64) <<< ((32 : Int32).toInt64 &&& 63)) ||| (((xs 5).toInt64) &&& 4294967295))) (n_cut (xs 3) ((((xs 6).toInt64) <<< ((32 : Int32).toInt64 &&& 63)) ||| (((xs 7).toInt64) &&& 4294967295)))))))))]) (w1 := [(m0, .inr (11, (y0.set 9 (.int 0))))]) hP hD [2] [0, 1] rfl rfl (by decide) (by decide) hk1 hFc hP1 hD1
      generalize H1 = H at hP hS ⊢
      have hP : va_P D vwCl [(h0, .inr (10, [.ref x0, .int 0, .ref x1, .ref x2, .ref x3, .ref x4, .ref x5, .ref x6, .ref x7, .ref x8, .int 0, .int 3000])), (o0, .inl (kA 1, 1, .inr (.inl (vp_updL (fun _ => 0) 0 (n_cut (xs 2) (n_combine (xs 1) 0 (n_cut (xs 2) ((((xs 4).toInt64) <<< ((32 : Int32).toInt64 &&& 63)) ||| (((xs 5).toInt64) &&& 4294967295))) (n_cut (xs 3) ((((xs 6).toInt64) <<< ((32 : Int32).toInt64 &&& 63)) ||| (((xs 7).toInt64) &&& 4294967295))))))))), (m0, .inr (11, (y0.set 9 (.int 0))))] H := hP
      have hD : va_D A [(h0, .inr (10, [.ref x0, .int 0, .ref x1, .ref x2, .ref x3, .ref x4, .ref x5, .ref x6, .ref x7, .ref x8, .int 0, .int 3000])), (o0, .inl (kA 1, 1, .inr (.inl (vp_updL (fun _ => 0) 0 (n_cut (xs 2) (n_combine (xs 1) 0 (n_cut (xs 2) ((((xs 4).toInt64) <<< ((32 : Int32).toInt64 &&& 63)) ||| (((xs 5).toInt64) &&& 4294967295))) (n_cut (xs 3) ((((xs 6).toInt64) <<< ((32 : Int32).toInt64 &&& 63)) ||| (((xs 7).toInt64) &&& 4294967295))))))))), (m0, .inr (11, (y0.set 9 (.int 0))))] := hD
      refine lv_iload hx hb dL_law_1607 (lv_at hl 1 rfl) ?_
      refine lv_icmp_eq (tgt := 1614) hx hb dL_law_1609 (by decide) (fun c_8042 => ?_) (fun c_8042 => ?_)
      · skip
        refine lv_iload hx hb dL_law_1614 (lv_at hl 1 rfl) ?_
        refine lv_if_ne (tgt := 1630) hx hb dL_law_1616 (by decide) (fun c_8043 => ?_) (fun c_8043 => ?_)
        · exact absurd (by decide) c_8043
        · skip
          refine lv_aload_n hx hb dL_law_1619 rfl (lv_at hl 5 rfl) ?_
          refine lv_iconst (v := 0) hx hb dL_law_1620 (by decide) ?_
          refine va_lald hx hb hK hP 1 1 rfl rfl (show vp_in 0 1 by unfold vp_in; decide) dL_law_1621 ?_
          refine W.eq (g2 := F0 m 1622 ls [.long (n_cut (xs 2) (n_combine (xs 1) 0 (n_cut (xs 2) ((((xs 4).toInt64) <<< ((32 : Int32).toInt64 &&& 63)) ||| (((xs 5).toInt64) &&& 4294967295))) (n_cut (xs 3) ((((xs 6).toInt64) <<< ((32 : Int32).toInt64 &&& 63)) ||| (((xs 7).toInt64) &&& 4294967295)))))]) rfl ?_
          refine lv_lload hx hb dL_law_1622 (lv_at hl 0 rfl) ?_
          refine W.lcmp hx hb dL_law_1624 ?_
          refine lv_if_eq (tgt := 1630) hx hb dL_law_1625 (by decide) (fun c_8044 => ?_) (fun c_8044 => ?_)
          · skip
            refine lv_goto (tgt := 1804) hx hb dL_law_1630 (by decide) ?_
            exact lk_tail hC hA2 (lv_sub hl [2, 6] rfl) hS (Nat.le_of_ble_eq_true rfl) (Nat.le_of_ble_eq_true rfl)
          · exact absurd ((lg_cmp_eq _ _).mpr (qx_w0 c_71 c_7378 c_67 c_68 c_74 c_69 c_70 (fun q => absurd q (Int32.not_lt.mpr c_75)) (fun q => c_73 q.2) (by unfold q_sign; rw [if_neg c_7383, if_neg c_7384, if_neg c_7385, if_neg c_7386, if_neg c_7387, if_neg c_7388, if_neg c_7389, if_neg c_7390, if_neg c_7391, if_neg c_7392]))) c_8044
      · exact absurd (by decide) c_8042
    · skip
      subst w_7420
      subst w_7421
      exact absurd c_75 c_7418
    · skip
      subst w_7443
      subst w_7444
      exact absurd c_75 c_7441
    · skip
      subst w_7464
      subst w_7465
      exact absurd c_7463 c_74
    · skip
      subst w_7486
      subst w_7487
      obtain ⟨hP, hD⟩ := va_join (wr := [(h0, .inr (10, [.ref x0, .int 0, .ref x1, .ref x2, .ref x3, .ref x4, .ref x5, .ref x6, .ref x7, .ref x8, .int 0, .int 3000])), (o0, .inl (kA 1, 1, .inr (.inl (vp_updL (fun _ => 0) 0 (n_cut (xs 2) (n_combine (xs 1) 0 (n_cut (xs 2) ((((xs 4).toInt64) <<< ((32 : Int32).toInt64 &&& 63)) ||| (((xs 5).toInt64) &&& 4294967295))) (n_cut (xs 3) ((((xs 6).toInt64) <<< ((32 : Int32).toInt64 &&& 63)) ||| (((xs 7).toInt64) &&& 4294967295)))))))))]) (w1 := [(m0, .inr (11, y0.set 9 (.int 0)))]) hP hD [0] [1, 2] rfl rfl (by decide) (by decide) hk1 hFc hP1 hD1
      generalize H1 = H at hP hS ⊢
      have hP : va_P D vwCl [(h0, .inr (10, [.ref x0, .int 0, .ref x1, .ref x2, .ref x3, .ref x4, .ref x5, .ref x6, .ref x7, .ref x8, .int 0, .int 3000])), (o0, .inl (kA 1, 1, .inr (.inl (vp_updL (fun _ => 0) 0 (n_cut (xs 2) (n_combine (xs 1) 0 (n_cut (xs 2) ((((xs 4).toInt64) <<< ((32 : Int32).toInt64 &&& 63)) ||| (((xs 5).toInt64) &&& 4294967295))) (n_cut (xs 3) ((((xs 6).toInt64) <<< ((32 : Int32).toInt64 &&& 63)) ||| (((xs 7).toInt64) &&& 4294967295))))))))), (m0, .inr (11, y0.set 9 (.int 0)))] H := hP
      have hD : va_D A [(h0, .inr (10, [.ref x0, .int 0, .ref x1, .ref x2, .ref x3, .ref x4, .ref x5, .ref x6, .ref x7, .ref x8, .int 0, .int 3000])), (o0, .inl (kA 1, 1, .inr (.inl (vp_updL (fun _ => 0) 0 (n_cut (xs 2) (n_combine (xs 1) 0 (n_cut (xs 2) ((((xs 4).toInt64) <<< ((32 : Int32).toInt64 &&& 63)) ||| (((xs 5).toInt64) &&& 4294967295))) (n_cut (xs 3) ((((xs 6).toInt64) <<< ((32 : Int32).toInt64 &&& 63)) ||| (((xs 7).toInt64) &&& 4294967295))))))))), (m0, .inr (11, y0.set 9 (.int 0)))] := hD
      refine lv_lstore (lv' := [(6, .long (n_cut (xs 2) (r_two 222 0 (n_cut (xs 2) ((((xs 4).toInt64) <<< ((32 : Int32).toInt64 &&& 63)) ||| (((xs 5).toInt64) &&& 4294967295))) (n_cut (xs 3) ((((xs 6).toInt64) <<< ((32 : Int32).toInt64 &&& 63)) ||| (((xs 7).toInt64) &&& 4294967295)))))), (5, .int 0), (0, .ref b), (1, .ref h0), (2, .ref m0), (3, .ref o0), (4, .int 0)]) hx hb dL_law_1601 hl (by decide) rfl (fun ls hl => ?_)
      refine lv_aload_n hx hb dL_law_1603 rfl (lv_at hl 4 rfl) ?_
      have hPc := hP.sub (ws' := [(m0, .inr (11, y0.set 9 (.int 0)))]) [2] rfl
      have hDc := hD.sub (ws' := [(m0, .inr (11, y0.set 9 (.int 0)))]) [2] (by decide) rfl
      have hFc := va_free (wc := [(m0, .inr (11, y0.set 9 (.int 0)))]) hD hS hA [2] rfl
      refine va_calli (va_runV (As := []) (rest := []) ⟨hx, hb, hml, hown, hts⟩ (a94_X12_thrown l  D kA V H.size m0 (y0.set 9 (.int 0)) (fun k hk => (by rw [List.length_set]; exact (hq k hk))) (List.getElem?_set_self (hq 9 (by decide)))) (cwV 0 hts (gw_V gw_1879 gw_1880 gw_1881 gw_16 gw_1882) rfl rfl rfl (by decide +kernel) ⟨(Nat.le_of_ble_eq_true rfl), (Nat.le_of_ble_eq_true rfl)⟩) ⟨aP.blind, va_recv hK hP (ci := 11) (q0 := 2) rfl rfl, aP.pre hE hS hPc hK hDc hFc⟩ rfl rfl hl.1 rfl (lv_room (Nat.le_of_ble_eq_true rfl)) dL_law_1604 ⟨(Nat.le_of_ble_eq_true rfl), (Nat.le_of_ble_eq_true rfl)⟩) hS (fun q _ h => hFc q h) hFc (fun r_8045 u t H1 locs ht hvm hw hB hz1 hk1 hS => ?_)
      obtain ⟨hP1, hD1⟩ := hB
      rw [ht] at hP1
      try dsimp only at hw hP1 hD1
      have w_8046 := hw
      subst w_8046
      obtain ⟨hP, hD⟩ := va_join (wr := [(h0, .inr (10, [.ref x0, .int 0, .ref x1, .ref x2, .ref x3, .ref x4, .ref x5, .ref x6, .ref x7, .ref x8, .int 0, .int 3000])), (o0, .inl (kA 1, 1, .inr (.inl (vp_updL (fun _ => 0) 0 (n_cut (xs 2) (n_combine (xs 1) 0 (n_cut (xs 2) ((((xs 4).toInt64) <<< ((32 : Int32).toInt64 &&& 63)) ||| (((xs 5).toInt64) &&& 4294967295))) (n_cut (xs 3) ((((xs 6).toInt64) <<< ((32 : Int32).toInt64 &&& 63)) ||| (((xs 7).toInt64) &&& 4294967295)))))))))]) (w1 := [(m0, .inr (11, (y0.set 9 (.int 0))))]) hP hD [2] [0, 1] rfl rfl (by decide) (by decide) hk1 hFc hP1 hD1
      generalize H1 = H at hP hS ⊢
      have hP : va_P D vwCl [(h0, .inr (10, [.ref x0, .int 0, .ref x1, .ref x2, .ref x3, .ref x4, .ref x5, .ref x6, .ref x7, .ref x8, .int 0, .int 3000])), (o0, .inl (kA 1, 1, .inr (.inl (vp_updL (fun _ => 0) 0 (n_cut (xs 2) (n_combine (xs 1) 0 (n_cut (xs 2) ((((xs 4).toInt64) <<< ((32 : Int32).toInt64 &&& 63)) ||| (((xs 5).toInt64) &&& 4294967295))) (n_cut (xs 3) ((((xs 6).toInt64) <<< ((32 : Int32).toInt64 &&& 63)) ||| (((xs 7).toInt64) &&& 4294967295))))))))), (m0, .inr (11, (y0.set 9 (.int 0))))] H := hP
      have hD : va_D A [(h0, .inr (10, [.ref x0, .int 0, .ref x1, .ref x2, .ref x3, .ref x4, .ref x5, .ref x6, .ref x7, .ref x8, .int 0, .int 3000])), (o0, .inl (kA 1, 1, .inr (.inl (vp_updL (fun _ => 0) 0 (n_cut (xs 2) (n_combine (xs 1) 0 (n_cut (xs 2) ((((xs 4).toInt64) <<< ((32 : Int32).toInt64 &&& 63)) ||| (((xs 5).toInt64) &&& 4294967295))) (n_cut (xs 3) ((((xs 6).toInt64) <<< ((32 : Int32).toInt64 &&& 63)) ||| (((xs 7).toInt64) &&& 4294967295))))))))), (m0, .inr (11, (y0.set 9 (.int 0))))] := hD
      refine lv_iload hx hb dL_law_1607 (lv_at hl 1 rfl) ?_
      refine lv_icmp_eq (tgt := 1614) hx hb dL_law_1609 (by decide) (fun c_8047 => ?_) (fun c_8047 => ?_)
      · skip
        refine lv_iload hx hb dL_law_1614 (lv_at hl 1 rfl) ?_
        refine lv_if_ne (tgt := 1630) hx hb dL_law_1616 (by decide) (fun c_8048 => ?_) (fun c_8048 => ?_)
        · exact absurd (by decide) c_8048
        · skip
          refine lv_aload_n hx hb dL_law_1619 rfl (lv_at hl 5 rfl) ?_
          refine lv_iconst (v := 0) hx hb dL_law_1620 (by decide) ?_
          refine va_lald hx hb hK hP 1 1 rfl rfl (show vp_in 0 1 by unfold vp_in; decide) dL_law_1621 ?_
          refine W.eq (g2 := F0 m 1622 ls [.long (n_cut (xs 2) (n_combine (xs 1) 0 (n_cut (xs 2) ((((xs 4).toInt64) <<< ((32 : Int32).toInt64 &&& 63)) ||| (((xs 5).toInt64) &&& 4294967295))) (n_cut (xs 3) ((((xs 6).toInt64) <<< ((32 : Int32).toInt64 &&& 63)) ||| (((xs 7).toInt64) &&& 4294967295)))))]) rfl ?_
          refine lv_lload hx hb dL_law_1622 (lv_at hl 0 rfl) ?_
          refine W.lcmp hx hb dL_law_1624 ?_
          refine lv_if_eq (tgt := 1630) hx hb dL_law_1625 (by decide) (fun c_8049 => ?_) (fun c_8049 => ?_)
          · skip
            refine lv_goto (tgt := 1804) hx hb dL_law_1630 (by decide) ?_
            exact lk_tail hC hA2 (lv_sub hl [2, 6] rfl) hS (Nat.le_of_ble_eq_true rfl) (Nat.le_of_ble_eq_true rfl)
          · exact absurd ((lg_cmp_eq _ _).mpr (qx_w0 c_71 c_7467 c_67 c_68 c_74 c_69 c_70 (fun q => absurd q (Int32.not_lt.mpr c_75)) (fun q => c_73 q.2) (by rw [c_7481]; decide))) c_8049
      · exact absurd (by decide) c_8047
    · skip
      subst w_7506
      subst w_7507
      exact absurd c_7505 c_74
    · skip
      subst w_7527
      subst w_7528
      obtain ⟨hP, hD⟩ := va_join (wr := [(h0, .inr (10, [.ref x0, .int 0, .ref x1, .ref x2, .ref x3, .ref x4, .ref x5, .ref x6, .ref x7, .ref x8, .int 0, .int 3000])), (o0, .inl (kA 1, 1, .inr (.inl (vp_updL (fun _ => 0) 0 (n_cut (xs 2) (n_combine (xs 1) 0 (n_cut (xs 2) ((((xs 4).toInt64) <<< ((32 : Int32).toInt64 &&& 63)) ||| (((xs 5).toInt64) &&& 4294967295))) (n_cut (xs 3) ((((xs 6).toInt64) <<< ((32 : Int32).toInt64 &&& 63)) ||| (((xs 7).toInt64) &&& 4294967295)))))))))]) (w1 := [(m0, .inr (11, y0.set 9 (.int 0)))]) hP hD [0] [1, 2] rfl rfl (by decide) (by decide) hk1 hFc hP1 hD1
      generalize H1 = H at hP hS ⊢
      have hP : va_P D vwCl [(h0, .inr (10, [.ref x0, .int 0, .ref x1, .ref x2, .ref x3, .ref x4, .ref x5, .ref x6, .ref x7, .ref x8, .int 0, .int 3000])), (o0, .inl (kA 1, 1, .inr (.inl (vp_updL (fun _ => 0) 0 (n_cut (xs 2) (n_combine (xs 1) 0 (n_cut (xs 2) ((((xs 4).toInt64) <<< ((32 : Int32).toInt64 &&& 63)) ||| (((xs 5).toInt64) &&& 4294967295))) (n_cut (xs 3) ((((xs 6).toInt64) <<< ((32 : Int32).toInt64 &&& 63)) ||| (((xs 7).toInt64) &&& 4294967295))))))))), (m0, .inr (11, y0.set 9 (.int 0)))] H := hP
      have hD : va_D A [(h0, .inr (10, [.ref x0, .int 0, .ref x1, .ref x2, .ref x3, .ref x4, .ref x5, .ref x6, .ref x7, .ref x8, .int 0, .int 3000])), (o0, .inl (kA 1, 1, .inr (.inl (vp_updL (fun _ => 0) 0 (n_cut (xs 2) (n_combine (xs 1) 0 (n_cut (xs 2) ((((xs 4).toInt64) <<< ((32 : Int32).toInt64 &&& 63)) ||| (((xs 5).toInt64) &&& 4294967295))) (n_cut (xs 3) ((((xs 6).toInt64) <<< ((32 : Int32).toInt64 &&& 63)) ||| (((xs 7).toInt64) &&& 4294967295))))))))), (m0, .inr (11, y0.set 9 (.int 0)))] := hD
      refine lv_lstore (lv' := [(6, .long (n_cut (xs 2) (r_two 221 0 (n_cut (xs 2) ((((xs 4).toInt64) <<< ((32 : Int32).toInt64 &&& 63)) ||| (((xs 5).toInt64) &&& 4294967295))) (n_cut (xs 3) ((((xs 6).toInt64) <<< ((32 : Int32).toInt64 &&& 63)) ||| (((xs 7).toInt64) &&& 4294967295)))))), (5, .int 0), (0, .ref b), (1, .ref h0), (2, .ref m0), (3, .ref o0), (4, .int 0)]) hx hb dL_law_1601 hl (by decide) rfl (fun ls hl => ?_)
      refine lv_aload_n hx hb dL_law_1603 rfl (lv_at hl 4 rfl) ?_
      have hPc := hP.sub (ws' := [(m0, .inr (11, y0.set 9 (.int 0)))]) [2] rfl
      have hDc := hD.sub (ws' := [(m0, .inr (11, y0.set 9 (.int 0)))]) [2] (by decide) rfl
      have hFc := va_free (wc := [(m0, .inr (11, y0.set 9 (.int 0)))]) hD hS hA [2] rfl
      refine va_calli (va_runV (As := []) (rest := []) ⟨hx, hb, hml, hown, hts⟩ (a94_X12_thrown l  D kA V H.size m0 (y0.set 9 (.int 0)) (fun k hk => (by rw [List.length_set]; exact (hq k hk))) (List.getElem?_set_self (hq 9 (by decide)))) (cwV 0 hts (gw_V gw_1879 gw_1880 gw_1881 gw_16 gw_1882) rfl rfl rfl (by decide +kernel) ⟨(Nat.le_of_ble_eq_true rfl), (Nat.le_of_ble_eq_true rfl)⟩) ⟨aP.blind, va_recv hK hP (ci := 11) (q0 := 2) rfl rfl, aP.pre hE hS hPc hK hDc hFc⟩ rfl rfl hl.1 rfl (lv_room (Nat.le_of_ble_eq_true rfl)) dL_law_1604 ⟨(Nat.le_of_ble_eq_true rfl), (Nat.le_of_ble_eq_true rfl)⟩) hS (fun q _ h => hFc q h) hFc (fun r_8050 u t H1 locs ht hvm hw hB hz1 hk1 hS => ?_)
      obtain ⟨hP1, hD1⟩ := hB
      rw [ht] at hP1
      try dsimp only at hw hP1 hD1
      have w_8051 := hw
      subst w_8051
      obtain ⟨hP, hD⟩ := va_join (wr := [(h0, .inr (10, [.ref x0, .int 0, .ref x1, .ref x2, .ref x3, .ref x4, .ref x5, .ref x6, .ref x7, .ref x8, .int 0, .int 3000])), (o0, .inl (kA 1, 1, .inr (.inl (vp_updL (fun _ => 0) 0 (n_cut (xs 2) (n_combine (xs 1) 0 (n_cut (xs 2) ((((xs 4).toInt64) <<< ((32 : Int32).toInt64 &&& 63)) ||| (((xs 5).toInt64) &&& 4294967295))) (n_cut (xs 3) ((((xs 6).toInt64) <<< ((32 : Int32).toInt64 &&& 63)) ||| (((xs 7).toInt64) &&& 4294967295)))))))))]) (w1 := [(m0, .inr (11, (y0.set 9 (.int 0))))]) hP hD [2] [0, 1] rfl rfl (by decide) (by decide) hk1 hFc hP1 hD1
      generalize H1 = H at hP hS ⊢
      have hP : va_P D vwCl [(h0, .inr (10, [.ref x0, .int 0, .ref x1, .ref x2, .ref x3, .ref x4, .ref x5, .ref x6, .ref x7, .ref x8, .int 0, .int 3000])), (o0, .inl (kA 1, 1, .inr (.inl (vp_updL (fun _ => 0) 0 (n_cut (xs 2) (n_combine (xs 1) 0 (n_cut (xs 2) ((((xs 4).toInt64) <<< ((32 : Int32).toInt64 &&& 63)) ||| (((xs 5).toInt64) &&& 4294967295))) (n_cut (xs 3) ((((xs 6).toInt64) <<< ((32 : Int32).toInt64 &&& 63)) ||| (((xs 7).toInt64) &&& 4294967295))))))))), (m0, .inr (11, (y0.set 9 (.int 0))))] H := hP
      have hD : va_D A [(h0, .inr (10, [.ref x0, .int 0, .ref x1, .ref x2, .ref x3, .ref x4, .ref x5, .ref x6, .ref x7, .ref x8, .int 0, .int 3000])), (o0, .inl (kA 1, 1, .inr (.inl (vp_updL (fun _ => 0) 0 (n_cut (xs 2) (n_combine (xs 1) 0 (n_cut (xs 2) ((((xs 4).toInt64) <<< ((32 : Int32).toInt64 &&& 63)) ||| (((xs 5).toInt64) &&& 4294967295))) (n_cut (xs 3) ((((xs 6).toInt64) <<< ((32 : Int32).toInt64 &&& 63)) ||| (((xs 7).toInt64) &&& 4294967295))))))))), (m0, .inr (11, (y0.set 9 (.int 0))))] := hD
      refine lv_iload hx hb dL_law_1607 (lv_at hl 1 rfl) ?_
      refine lv_icmp_eq (tgt := 1614) hx hb dL_law_1609 (by decide) (fun c_8052 => ?_) (fun c_8052 => ?_)
      · skip
        refine lv_iload hx hb dL_law_1614 (lv_at hl 1 rfl) ?_
        refine lv_if_ne (tgt := 1630) hx hb dL_law_1616 (by decide) (fun c_8053 => ?_) (fun c_8053 => ?_)
        · exact absurd (by decide) c_8053
        · skip
          refine lv_aload_n hx hb dL_law_1619 rfl (lv_at hl 5 rfl) ?_
          refine lv_iconst (v := 0) hx hb dL_law_1620 (by decide) ?_
          refine va_lald hx hb hK hP 1 1 rfl rfl (show vp_in 0 1 by unfold vp_in; decide) dL_law_1621 ?_
          refine W.eq (g2 := F0 m 1622 ls [.long (n_cut (xs 2) (n_combine (xs 1) 0 (n_cut (xs 2) ((((xs 4).toInt64) <<< ((32 : Int32).toInt64 &&& 63)) ||| (((xs 5).toInt64) &&& 4294967295))) (n_cut (xs 3) ((((xs 6).toInt64) <<< ((32 : Int32).toInt64 &&& 63)) ||| (((xs 7).toInt64) &&& 4294967295)))))]) rfl ?_
          refine lv_lload hx hb dL_law_1622 (lv_at hl 0 rfl) ?_
          refine W.lcmp hx hb dL_law_1624 ?_
          refine lv_if_eq (tgt := 1630) hx hb dL_law_1625 (by decide) (fun c_8054 => ?_) (fun c_8054 => ?_)
          · skip
            refine lv_goto (tgt := 1804) hx hb dL_law_1630 (by decide) ?_
            exact lk_tail hC hA2 (lv_sub hl [2, 6] rfl) hS (Nat.le_of_ble_eq_true rfl) (Nat.le_of_ble_eq_true rfl)
          · exact absurd ((lg_cmp_eq _ _).mpr (qx_w0 c_71 c_7509 c_67 c_68 c_74 c_69 c_70 (fun q => absurd q (Int32.not_lt.mpr c_75)) (fun q => c_73 q.2) (by rw [c_7522]; decide))) c_8054
      · exact absurd (by decide) c_8052
    · skip
      subst w_7546
      subst w_7547
      exact False.elim (by have a1 := (iyE (n := 7) c_7542 (by decide)); have a2 := (iyB (n := 8) c_75 (by decide)); omega)
    · skip
      subst w_7567
      subst w_7568
      exact False.elim (by have a1 := (iyE (n := 7) c_7561 (by decide)); have a2 := (iyB (n := 8) c_75 (by decide)); omega)
    · skip
      subst w_7588
      subst w_7589
      exact False.elim (by have a1 := (iyE (n := 7) c_7582 (by decide)); have a2 := (iyB (n := 8) c_75 (by decide)); omega)
    · skip
      subst w_7606
      subst w_7607
      exact False.elim (by have a1 := (iyE (n := 6) c_7602 (by decide)); have a2 := (iyB (n := 8) c_75 (by decide)); omega)
    · skip
      subst w_7626
      subst w_7627
      exact False.elim (by have a1 := (iyE (n := 6) c_7620 (by decide)); have a2 := (iyB (n := 8) c_75 (by decide)); omega)
    · skip
      subst w_7646
      subst w_7647
      exact False.elim (by have a1 := (iyE (n := 6) c_7640 (by decide)); have a2 := (iyB (n := 8) c_75 (by decide)); omega)
    · skip
      subst w_7663
      subst w_7664
      exact False.elim (by have a1 := (iyE (n := 5) c_7659 (by decide)); have a2 := (iyB (n := 8) c_75 (by decide)); omega)
    · skip
      subst w_7682
      subst w_7683
      exact False.elim (by have a1 := (iyE (n := 5) c_7676 (by decide)); have a2 := (iyB (n := 8) c_75 (by decide)); omega)
    · skip
      subst w_7701
      subst w_7702
      exact False.elim (by have a1 := (iyE (n := 5) c_7695 (by decide)); have a2 := (iyB (n := 8) c_75 (by decide)); omega)
    · skip
      subst w_7718
      subst w_7719
      exact False.elim (by have a1 := (iyE (n := 4) c_7713 (by decide)); have a2 := (iyB (n := 8) c_75 (by decide)); omega)
    · skip
      subst w_7737
      subst w_7738
      exact False.elim (by have a1 := (iyE (n := 4) c_7730 (by decide)); have a2 := (iyB (n := 8) c_75 (by decide)); omega)
    · skip
      subst w_7756
      subst w_7757
      exact False.elim (by have a1 := (iyE (n := 4) c_7749 (by decide)); have a2 := (iyB (n := 8) c_75 (by decide)); omega)
    · skip
      subst w_7773
      subst w_7774
      exact False.elim (by have a1 := (iyE (n := 4) c_7768 (by decide)); have a2 := (iyB (n := 8) c_75 (by decide)); omega)
    · skip
      subst w_7792
      subst w_7793
      exact False.elim (by have a1 := (iyE (n := 4) c_7785 (by decide)); have a2 := (iyB (n := 8) c_75 (by decide)); omega)
    · skip
      subst w_7811
      subst w_7812
      exact False.elim (by have a1 := (iyE (n := 4) c_7804 (by decide)); have a2 := (iyB (n := 8) c_75 (by decide)); omega)
    · skip
      subst w_7826
      subst w_7827
      exact False.elim (by have a1 := (iyE (n := 3) c_7822 (by decide)); have a2 := (iyB (n := 8) c_75 (by decide)); omega)
    · skip
      subst w_7843
      subst w_7844
      exact False.elim (by have a1 := (iyE (n := 3) c_7837 (by decide)); have a2 := (iyB (n := 8) c_75 (by decide)); omega)
    · skip
      subst w_7860
      subst w_7861
      exact False.elim (by have a1 := (iyE (n := 3) c_7854 (by decide)); have a2 := (iyB (n := 8) c_75 (by decide)); omega)
    · skip
      subst w_7875
      subst w_7876
      exact False.elim (by have a1 := (iyE (n := 3) c_7871 (by decide)); have a2 := (iyB (n := 8) c_75 (by decide)); omega)
    · skip
      subst w_7892
      subst w_7893
      exact False.elim (by have a1 := (iyE (n := 3) c_7886 (by decide)); have a2 := (iyB (n := 8) c_75 (by decide)); omega)
    · skip
      subst w_7909
      subst w_7910
      exact False.elim (by have a1 := (iyE (n := 3) c_7903 (by decide)); have a2 := (iyB (n := 8) c_75 (by decide)); omega)
    · skip
      subst w_7923
      subst w_7924
      exact False.elim (by have a1 := (iyE (n := 2) c_7919 (by decide)); have a2 := (iyB (n := 8) c_75 (by decide)); omega)
    · skip
      subst w_7939
      subst w_7940
      exact False.elim (by have a1 := (iyE (n := 2) c_7933 (by decide)); have a2 := (iyB (n := 8) c_75 (by decide)); omega)
    · skip
      subst w_7955
      subst w_7956
      exact False.elim (by have a1 := (iyE (n := 2) c_7949 (by decide)); have a2 := (iyB (n := 8) c_75 (by decide)); omega)
    · skip
      subst w_7968
      subst w_7969
      exact False.elim (by have a1 := (iyE (n := 1) c_7964 (by decide)); have a2 := (iyB (n := 8) c_75 (by decide)); omega)
    · skip
      subst w_7983
      subst w_7984
      exact False.elim (by have a1 := (iyE (n := 1) c_7977 (by decide)); have a2 := (iyB (n := 8) c_75 (by decide)); omega)
    · skip
      subst w_7998
      subst w_7999
      exact False.elim (by have a1 := (iyE (n := 1) c_7992 (by decide)); have a2 := (iyB (n := 8) c_75 (by decide)); omega)
    · skip
      subst w_8010
      subst w_8011
      exact False.elim (by have a1 := (iyE (n := 0) c_8006 (by decide)); have a2 := (iyB (n := 8) c_75 (by decide)); omega)
    · skip
      subst w_8024
      subst w_8025
      exact False.elim (by have a1 := (iyE (n := 0) c_8018 (by decide)); have a2 := (iyB (n := 8) c_75 (by decide)); omega)
    · skip
      subst w_8038
      subst w_8039
      exact False.elim (by have a1 := (iyE (n := 0) c_8032 (by decide)); have a2 := (iyB (n := 8) c_75 (by decide)); omega)
  · skip
    subst w_88
    subst w_89
    obtain ⟨hP, hD⟩ := va_join (wr := [(m0, .inr (11, y0))]) (w1 := [(h0, .inr (10, [.ref x0, .int 0, .ref x1, .ref x2, .ref x3, .ref x4, .ref x5, .ref x6, .ref x7, .ref x8, .int 0, .int 3000])), (o0, .inl (kA 1, 1, .inr (.inl (vp_updL (fun _ => 0) 0 (n_cut (xs 2) (n_combine (xs 1) 0 (n_cut (xs 2) ((((xs 4).toInt64) <<< ((32 : Int32).toInt64 &&& 63)) ||| (((xs 5).toInt64) &&& 4294967295))) (n_cut (xs 3) ((((xs 6).toInt64) <<< ((32 : Int32).toInt64 &&& 63)) ||| (((xs 7).toInt64) &&& 4294967295)))))))))]) hP hD [0, 2] [1] rfl rfl (by decide) (by decide) hk1 hFc hP1 hD1
    generalize H1 = H at hP hS ⊢
    have hP : va_P D vwCl [(m0, .inr (11, y0)), (h0, .inr (10, [.ref x0, .int 0, .ref x1, .ref x2, .ref x3, .ref x4, .ref x5, .ref x6, .ref x7, .ref x8, .int 0, .int 3000])), (o0, .inl (kA 1, 1, .inr (.inl (vp_updL (fun _ => 0) 0 (n_cut (xs 2) (n_combine (xs 1) 0 (n_cut (xs 2) ((((xs 4).toInt64) <<< ((32 : Int32).toInt64 &&& 63)) ||| (((xs 5).toInt64) &&& 4294967295))) (n_cut (xs 3) ((((xs 6).toInt64) <<< ((32 : Int32).toInt64 &&& 63)) ||| (((xs 7).toInt64) &&& 4294967295)))))))))] H := hP
    have hD : va_D A [(m0, .inr (11, y0)), (h0, .inr (10, [.ref x0, .int 0, .ref x1, .ref x2, .ref x3, .ref x4, .ref x5, .ref x6, .ref x7, .ref x8, .int 0, .int 3000])), (o0, .inl (kA 1, 1, .inr (.inl (vp_updL (fun _ => 0) 0 (n_cut (xs 2) (n_combine (xs 1) 0 (n_cut (xs 2) ((((xs 4).toInt64) <<< ((32 : Int32).toInt64 &&& 63)) ||| (((xs 5).toInt64) &&& 4294967295))) (n_cut (xs 3) ((((xs 6).toInt64) <<< ((32 : Int32).toInt64 &&& 63)) ||| (((xs 7).toInt64) &&& 4294967295)))))))))] := hD
    refine lv_istore (lv' := [(5, .int 0), (0, .ref b), (1, .ref h0), (2, .ref m0), (3, .ref o0), (4, .int 0)]) hx hb dL_law_1531 hl (by decide) rfl (fun ls hl => ?_)
    refine lv_aload_n hx hb dL_law_1533 rfl (lv_at hl 3 rfl) ?_
    refine lv_aload_n hx hb dL_law_1534 rfl (lv_at hl 1 rfl) ?_
    refine lv_iload hx hb dL_law_1535 (lv_at hl 5 rfl) ?_
    refine lv_iconst (v := 1) hx hb dL_law_1537 (by decide) ?_
    refine lv_iadd hx hb dL_law_1538 ?_
    refine W.eq (g2 := F0 m 1539 ls [.int 1, .ref b, .ref m0]) rfl ?_
    refine va_sld hx hb hX hbl hbA hS (show vp_in 1 8 by unfold vp_in; decide) dL_law_1539 ?_
    refine W.eq (g2 := F0 m 1540 ls [.int (xs 1), .ref m0]) rfl ?_
    refine lv_aload_n hx hb dL_law_1540 rfl (lv_at hl 1 rfl) ?_
    refine lv_iload hx hb dL_law_1541 (lv_at hl 5 rfl) ?_
    refine lv_iconst (v := 2) hx hb dL_law_1543 (by decide) ?_
    refine lv_iadd hx hb dL_law_1544 ?_
    refine W.eq (g2 := F0 m 1545 ls [.int 2, .ref b, .int (xs 1), .ref m0]) rfl ?_
    refine va_sld hx hb hX hbl hbA hS (show vp_in 2 8 by unfold vp_in; decide) dL_law_1545 ?_
    refine W.eq (g2 := F0 m 1546 ls [.int (xs 2), .int (xs 1), .ref m0]) rfl ?_
    refine lv_aload_n hx hb dL_law_1546 rfl (lv_at hl 1 rfl) ?_
    refine lv_iload hx hb dL_law_1547 (lv_at hl 5 rfl) ?_
    refine lv_iconst (v := 3) hx hb dL_law_1549 (by decide) ?_
    refine lv_iadd hx hb dL_law_1550 ?_
    refine W.eq (g2 := F0 m 1551 ls [.int 3, .ref b, .int (xs 2), .int (xs 1), .ref m0]) rfl ?_
    refine va_sld hx hb hX hbl hbA hS (show vp_in 3 8 by unfold vp_in; decide) dL_law_1551 ?_
    refine W.eq (g2 := F0 m 1552 ls [.int (xs 3), .int (xs 2), .int (xs 1), .ref m0]) rfl ?_
    refine lv_aload_n hx hb dL_law_1552 rfl (lv_at hl 1 rfl) ?_
    refine lv_iload hx hb dL_law_1553 (lv_at hl 5 rfl) ?_
    refine lv_iconst (v := 4) hx hb dL_law_1555 (by decide) ?_
    refine lv_iadd hx hb dL_law_1556 ?_
    refine W.eq (g2 := F0 m 1557 ls [.int 4, .ref b, .int (xs 3), .int (xs 2), .int (xs 1), .ref m0]) rfl ?_
    refine va_sld hx hb hX hbl hbA hS (show vp_in 4 8 by unfold vp_in; decide) dL_law_1557 ?_
    refine W.eq (g2 := F0 m 1558 ls [.int (xs 4), .int (xs 3), .int (xs 2), .int (xs 1), .ref m0]) rfl ?_
    refine lv_i2l (v := (xs 4).toInt64) hx hb dL_law_1558 rfl ?_
    refine lv_bipush (v := 32) hx hb dL_law_1559 (by decide) ?_
    refine lv_lshl (v := ((xs 4).toInt64) <<< ((32 : Int32).toInt64 &&& 63)) hx hb dL_law_1561 rfl ?_
    refine lv_aload_n hx hb dL_law_1562 rfl (lv_at hl 1 rfl) ?_
    refine lv_iload hx hb dL_law_1563 (lv_at hl 5 rfl) ?_
    refine lv_iconst (v := 5) hx hb dL_law_1565 (by decide) ?_
    refine lv_iadd hx hb dL_law_1566 ?_
    refine W.eq (g2 := F0 m 1567 ls [.int 5, .ref b, .long (((xs 4).toInt64) <<< ((32 : Int32).toInt64 &&& 63)), .int (xs 3), .int (xs 2), .int (xs 1), .ref m0]) rfl ?_
    refine va_sld hx hb hX hbl hbA hS (show vp_in 5 8 by unfold vp_in; decide) dL_law_1567 ?_
    refine W.eq (g2 := F0 m 1568 ls [.int (xs 5), .long (((xs 4).toInt64) <<< ((32 : Int32).toInt64 &&& 63)), .int (xs 3), .int (xs 2), .int (xs 1), .ref m0]) rfl ?_
    refine lv_i2l (v := (xs 5).toInt64) hx hb dL_law_1568 rfl ?_
    refine lv_ldc2 (v := 4294967295) hx hb hown (hG _ gw_2764) dL_law_1569 ?_
    refine lv_land hx hb dL_law_1572 ?_
    refine lv_lor hx hb dL_law_1573 ?_
    refine lv_aload_n hx hb dL_law_1574 rfl (lv_at hl 1 rfl) ?_
    refine lv_iload hx hb dL_law_1575 (lv_at hl 5 rfl) ?_
    refine lv_bipush (v := 6) hx hb dL_law_1577 (by decide) ?_
    refine lv_iadd hx hb dL_law_1579 ?_
    refine W.eq (g2 := F0 m 1580 ls [.int 6, .ref b, .long ((((xs 4).toInt64) <<< ((32 : Int32).toInt64 &&& 63)) ||| (((xs 5).toInt64) &&& 4294967295)), .int (xs 3), .int (xs 2), .int (xs 1), .ref m0]) rfl ?_
    refine va_sld hx hb hX hbl hbA hS (show vp_in 6 8 by unfold vp_in; decide) dL_law_1580 ?_
    refine W.eq (g2 := F0 m 1581 ls [.int (xs 6), .long ((((xs 4).toInt64) <<< ((32 : Int32).toInt64 &&& 63)) ||| (((xs 5).toInt64) &&& 4294967295)), .int (xs 3), .int (xs 2), .int (xs 1), .ref m0]) rfl ?_
    refine lv_i2l (v := (xs 6).toInt64) hx hb dL_law_1581 rfl ?_
    refine lv_bipush (v := 32) hx hb dL_law_1582 (by decide) ?_
    refine lv_lshl (v := ((xs 6).toInt64) <<< ((32 : Int32).toInt64 &&& 63)) hx hb dL_law_1584 rfl ?_
    refine lv_aload_n hx hb dL_law_1585 rfl (lv_at hl 1 rfl) ?_
    refine lv_iload hx hb dL_law_1586 (lv_at hl 5 rfl) ?_
    refine lv_bipush (v := 7) hx hb dL_law_1588 (by decide) ?_
    refine lv_iadd hx hb dL_law_1590 ?_
    refine W.eq (g2 := F0 m 1591 ls [.int 7, .ref b, .long (((xs 6).toInt64) <<< ((32 : Int32).toInt64 &&& 63)), .long ((((xs 4).toInt64) <<< ((32 : Int32).toInt64 &&& 63)) ||| (((xs 5).toInt64) &&& 4294967295)), .int (xs 3), .int (xs 2), .int (xs 1), .ref m0]) rfl ?_
    refine va_sld hx hb hX hbl hbA hS (show vp_in 7 8 by unfold vp_in; decide) dL_law_1591 ?_
    refine W.eq (g2 := F0 m 1592 ls [.int (xs 7), .long (((xs 6).toInt64) <<< ((32 : Int32).toInt64 &&& 63)), .long ((((xs 4).toInt64) <<< ((32 : Int32).toInt64 &&& 63)) ||| (((xs 5).toInt64) &&& 4294967295)), .int (xs 3), .int (xs 2), .int (xs 1), .ref m0]) rfl ?_
    refine lv_i2l (v := (xs 7).toInt64) hx hb dL_law_1592 rfl ?_
    refine lv_ldc2 (v := 4294967295) hx hb hown (hG _ gw_2764) dL_law_1593 ?_
    refine lv_land hx hb dL_law_1596 ?_
    refine lv_lor hx hb dL_law_1597 ?_
    have hPc := hP.sub (ws' := [(m0, .inr (11, y0))]) [0] rfl
    have hDc := hD.sub (ws' := [(m0, .inr (11, y0))]) [0] (by decide) rfl
    have hFc := va_free (wc := [(m0, .inr (11, y0))]) hD hS hA [0] rfl
    refine va_calll (va_runV (As := [.int (xs 1), .int (xs 2), .int (xs 3), .long ((((xs 4).toInt64) <<< ((32 : Int32).toInt64 &&& 63)) ||| (((xs 5).toInt64) &&& 4294967295)), .long ((((xs 6).toInt64) <<< ((32 : Int32).toInt64 &&& 63)) ||| (((xs 7).toInt64) &&& 4294967295))]) (rest := []) ⟨hx, hb, hml, hown, hts⟩ (a153_X12_work l  D kA V H.size m0 (xs 1) (xs 2) (xs 3) ((((xs 4).toInt64) <<< ((32 : Int32).toInt64 &&& 63)) ||| (((xs 5).toInt64) &&& 4294967295)) ((((xs 6).toInt64) <<< ((32 : Int32).toInt64 &&& 63)) ||| (((xs 7).toInt64) &&& 4294967295)) y0 (fun k hk => (hq k hk)) hq9) (cwV 5 hts (gw_V gw_2756 gw_2757 gw_2758 gw_16 gw_2759) rfl rfl rfl (by decide +kernel) ⟨(Nat.le_of_ble_eq_true rfl), (Nat.le_of_ble_eq_true rfl)⟩) ⟨aP.blind, va_recv hK hP (ci := 11) (q0 := 0) rfl rfl, aP.pre hE hS hPc hK hDc hFc⟩ rfl rfl hl.1 rfl (lv_room (Nat.le_of_ble_eq_true rfl)) dL_law_1598 ⟨(Nat.le_of_ble_eq_true rfl), (Nat.le_of_ble_eq_true rfl)⟩) hS (fun q _ h => hFc q h) hFc (fun r_8055 u t H1 locs ht hvm hw hB hz1 hk1 hS => ?_)
    obtain ⟨u_8056, rfl⟩ : ∃ z, z = u := ⟨u, rfl⟩
    obtain ⟨hP1, hD1⟩ := hB
    rw [ht] at hP1
    try dsimp only at hw hP1 hD1
    rcases hw with ⟨c_8057, c_8058, w_8059, w_8060⟩ | ⟨c_8061, c_8062, c_8063, w_8064, w_8065⟩ | ⟨c_8066, c_8067, c_8068, c_8069, w_8070, w_8071⟩ | ⟨c_8072, c_8073, c_8074, c_8075, c_8076, w_8077, w_8078⟩ | ⟨c_8079, c_8080, c_8081, c_8082, c_8083, w_8084, w_8085⟩ | ⟨c_8086, c_8087, c_8088, w_8089, w_8090⟩ | ⟨c_8091, c_8092, c_8093, c_8094, w_8095, w_8096⟩ | ⟨c_8097, c_8098, c_8099, c_8100, c_8101, w_8102, w_8103⟩ | ⟨c_8104, c_8105, c_8106, c_8107, c_8108, c_8109, w_8110, w_8111⟩ | ⟨c_8112, c_8113, c_8114, c_8115, c_8116, c_8117, w_8118, w_8119⟩ | ⟨c_8120, c_8121, c_8122, w_8123, w_8124⟩ | ⟨c_8125, c_8126, c_8127, c_8128, w_8129, w_8130⟩ | ⟨c_8131, c_8132, c_8133, c_8134, c_8135, w_8136, w_8137⟩ | ⟨c_8138, c_8139, c_8140, c_8141, c_8142, c_8143, w_8144, w_8145⟩ | ⟨c_8146, c_8147, c_8148, c_8149, c_8150, c_8151, c_8152, c_8153, c_8154, c_8155, c_8156, c_8157, c_8158, c_8159, c_8160, c_8161, c_8162, c_8163, c_8164, w_8165, w_8166⟩ | ⟨c_8167, c_8168, c_8169, c_8170, c_8171, c_8172, c_8173, c_8174, c_8175, c_8176, c_8177, c_8178, c_8179, c_8180, c_8181, c_8182, c_8183, c_8184, c_8185, c_8186, w_8187, w_8188⟩ | ⟨c_8189, c_8190, c_8191, c_8192, c_8193, c_8194, c_8195, c_8196, c_8197, c_8198, c_8199, c_8200, c_8201, c_8202, c_8203, c_8204, c_8205, c_8206, c_8207, c_8208, c_8209, w_8210, w_8211⟩ | ⟨c_8212, c_8213, c_8214, c_8215, c_8216, c_8217, c_8218, c_8219, c_8220, c_8221, c_8222, c_8223, c_8224, c_8225, c_8226, c_8227, c_8228, c_8229, c_8230, c_8231, c_8232, w_8233, w_8234⟩ | ⟨c_8235, c_8236, c_8237, c_8238, c_8239, c_8240, c_8241, c_8242, c_8243, c_8244, c_8245, c_8246, c_8247, c_8248, c_8249, c_8250, c_8251, c_8252, c_8253, w_8254, w_8255⟩ | ⟨c_8256, c_8257, c_8258, c_8259, c_8260, c_8261, c_8262, c_8263, c_8264, c_8265, c_8266, c_8267, c_8268, c_8269, c_8270, c_8271, c_8272, c_8273, c_8274, c_8275, w_8276, w_8277⟩ | ⟨c_8278, c_8279, c_8280, c_8281, c_8282, c_8283, c_8284, c_8285, c_8286, c_8287, c_8288, c_8289, c_8290, c_8291, c_8292, c_8293, c_8294, c_8295, w_8296, w_8297⟩ | ⟨c_8298, c_8299, c_8300, c_8301, c_8302, c_8303, c_8304, c_8305, c_8306, c_8307, c_8308, c_8309, c_8310, c_8311, c_8312, c_8313, c_8314, c_8315, c_8316, w_8317, w_8318⟩ | ⟨c_8319, c_8320, c_8321, c_8322, c_8323, c_8324, c_8325, c_8326, c_8327, c_8328, c_8329, c_8330, c_8331, c_8332, c_8333, c_8334, c_8335, w_8336, w_8337⟩ | ⟨c_8338, c_8339, c_8340, c_8341, c_8342, c_8343, c_8344, c_8345, c_8346, c_8347, c_8348, c_8349, c_8350, c_8351, c_8352, c_8353, c_8354, c_8355, c_8356, w_8357, w_8358⟩ | ⟨c_8359, c_8360, c_8361, c_8362, c_8363, c_8364, c_8365, c_8366, c_8367, c_8368, c_8369, c_8370, c_8371, c_8372, c_8373, c_8374, c_8375, c_8376, c_8377, w_8378, w_8379⟩ | ⟨c_8380, c_8381, c_8382, c_8383, c_8384, c_8385, c_8386, c_8387, c_8388, c_8389, c_8390, c_8391, c_8392, c_8393, c_8394, c_8395, w_8396, w_8397⟩ | ⟨c_8398, c_8399, c_8400, c_8401, c_8402, c_8403, c_8404, c_8405, c_8406, c_8407, c_8408, c_8409, c_8410, c_8411, c_8412, c_8413, c_8414, c_8415, w_8416, w_8417⟩ | ⟨c_8418, c_8419, c_8420, c_8421, c_8422, c_8423, c_8424, c_8425, c_8426, c_8427, c_8428, c_8429, c_8430, c_8431, c_8432, c_8433, c_8434, c_8435, w_8436, w_8437⟩ | ⟨c_8438, c_8439, c_8440, c_8441, c_8442, c_8443, c_8444, c_8445, c_8446, c_8447, c_8448, c_8449, c_8450, c_8451, c_8452, w_8453, w_8454⟩ | ⟨c_8455, c_8456, c_8457, c_8458, c_8459, c_8460, c_8461, c_8462, c_8463, c_8464, c_8465, c_8466, c_8467, c_8468, c_8469, c_8470, c_8471, w_8472, w_8473⟩ | ⟨c_8474, c_8475, c_8476, c_8477, c_8478, c_8479, c_8480, c_8481, c_8482, c_8483, c_8484, c_8485, c_8486, c_8487, c_8488, c_8489, c_8490, w_8491, w_8492⟩ | ⟨c_8493, c_8494, c_8495, c_8496, c_8497, c_8498, c_8499, c_8500, c_8501, c_8502, c_8503, c_8504, c_8505, c_8506, c_8507, w_8508, w_8509⟩ | ⟨c_8510, c_8511, c_8512, c_8513, c_8514, c_8515, c_8516, c_8517, c_8518, c_8519, c_8520, c_8521, c_8522, c_8523, c_8524, c_8525, c_8526, w_8527, w_8528⟩ | ⟨c_8529, c_8530, c_8531, c_8532, c_8533, c_8534, c_8535, c_8536, c_8537, c_8538, c_8539, c_8540, c_8541, c_8542, c_8543, c_8544, c_8545, w_8546, w_8547⟩ | ⟨c_8548, c_8549, c_8550, c_8551, c_8552, c_8553, c_8554, c_8555, c_8556, c_8557, c_8558, c_8559, c_8560, c_8561, c_8562, w_8563, w_8564⟩ | ⟨c_8565, c_8566, c_8567, c_8568, c_8569, c_8570, c_8571, c_8572, c_8573, c_8574, c_8575, c_8576, c_8577, c_8578, c_8579, c_8580, c_8581, w_8582, w_8583⟩ | ⟨c_8584, c_8585, c_8586, c_8587, c_8588, c_8589, c_8590, c_8591, c_8592, c_8593, c_8594, c_8595, c_8596, c_8597, c_8598, c_8599, c_8600, w_8601, w_8602⟩ | ⟨c_8603, c_8604, c_8605, c_8606, c_8607, c_8608, c_8609, c_8610, c_8611, c_8612, c_8613, c_8614, c_8615, w_8616, w_8617⟩ | ⟨c_8618, c_8619, c_8620, c_8621, c_8622, c_8623, c_8624, c_8625, c_8626, c_8627, c_8628, c_8629, c_8630, c_8631, c_8632, w_8633, w_8634⟩ | ⟨c_8635, c_8636, c_8637, c_8638, c_8639, c_8640, c_8641, c_8642, c_8643, c_8644, c_8645, c_8646, c_8647, c_8648, c_8649, w_8650, w_8651⟩ | ⟨c_8652, c_8653, c_8654, c_8655, c_8656, c_8657, c_8658, c_8659, c_8660, c_8661, c_8662, c_8663, c_8664, w_8665, w_8666⟩ | ⟨c_8667, c_8668, c_8669, c_8670, c_8671, c_8672, c_8673, c_8674, c_8675, c_8676, c_8677, c_8678, c_8679, c_8680, c_8681, w_8682, w_8683⟩ | ⟨c_8684, c_8685, c_8686, c_8687, c_8688, c_8689, c_8690, c_8691, c_8692, c_8693, c_8694, c_8695, c_8696, c_8697, c_8698, w_8699, w_8700⟩ | ⟨c_8701, c_8702, c_8703, c_8704, c_8705, c_8706, c_8707, c_8708, c_8709, c_8710, c_8711, c_8712, w_8713, w_8714⟩ | ⟨c_8715, c_8716, c_8717, c_8718, c_8719, c_8720, c_8721, c_8722, c_8723, c_8724, c_8725, c_8726, c_8727, c_8728, w_8729, w_8730⟩ | ⟨c_8731, c_8732, c_8733, c_8734, c_8735, c_8736, c_8737, c_8738, c_8739, c_8740, c_8741, c_8742, c_8743, c_8744, w_8745, w_8746⟩ | ⟨c_8747, c_8748, c_8749, c_8750, c_8751, c_8752, c_8753, c_8754, c_8755, c_8756, c_8757, w_8758, w_8759⟩ | ⟨c_8760, c_8761, c_8762, c_8763, c_8764, c_8765, c_8766, c_8767, c_8768, c_8769, c_8770, c_8771, c_8772, w_8773, w_8774⟩ | ⟨c_8775, c_8776, c_8777, c_8778, c_8779, c_8780, c_8781, c_8782, c_8783, c_8784, c_8785, c_8786, c_8787, w_8788, w_8789⟩ | ⟨c_8790, c_8791, c_8792, c_8793, c_8794, c_8795, c_8796, c_8797, c_8798, c_8799, w_8800, w_8801⟩ | ⟨c_8802, c_8803, c_8804, c_8805, c_8806, c_8807, c_8808, c_8809, c_8810, c_8811, c_8812, c_8813, w_8814, w_8815⟩ | ⟨c_8816, c_8817, c_8818, c_8819, c_8820, c_8821, c_8822, c_8823, c_8824, c_8825, c_8826, c_8827, w_8828, w_8829⟩
    · skip
      subst w_8059
      subst w_8060
      exact absurd c_8057 c_82
    · skip
      subst w_8064
      subst w_8065
      exact absurd c_8061 c_82
    · skip
      subst w_8070
      subst w_8071
      exact absurd c_8066 c_82
    · skip
      subst w_8077
      subst w_8078
      exact absurd c_8072 c_82
    · skip
      subst w_8084
      subst w_8085
      exact absurd c_8079 c_82
    · skip
      subst w_8089
      subst w_8090
      exact absurd c_8087 (Int32.not_lt.mpr c_83)
    · skip
      subst w_8095
      subst w_8096
      exact absurd c_8092 (Int32.not_lt.mpr c_83)
    · skip
      subst w_8102
      subst w_8103
      exact absurd c_8098 (Int32.not_lt.mpr c_83)
    · skip
      subst w_8110
      subst w_8111
      exact absurd c_8105 (Int32.not_lt.mpr c_83)
    · skip
      subst w_8118
      subst w_8119
      exact absurd c_8113 (Int32.not_lt.mpr c_83)
    · skip
      subst w_8123
      subst w_8124
      exact absurd c_8122 c_78
    · skip
      subst w_8129
      subst w_8130
      exact absurd c_8128 c_79
    · skip
      subst w_8136
      subst w_8137
      exact absurd c_8135 c_80
    · skip
      subst w_8144
      subst w_8145
      exact absurd c_8143 c_81
    · skip
      subst w_8165
      subst w_8166
      exact absurd c_8164 c_85
    · skip
      subst w_8187
      subst w_8188
      exact absurd c_8186 c_86
    · skip
      subst w_8210
      subst w_8211
      obtain ⟨hP, hD⟩ := va_join (wr := [(h0, .inr (10, [.ref x0, .int 0, .ref x1, .ref x2, .ref x3, .ref x4, .ref x5, .ref x6, .ref x7, .ref x8, .int 0, .int 3000])), (o0, .inl (kA 1, 1, .inr (.inl (vp_updL (fun _ => 0) 0 (n_cut (xs 2) (n_combine (xs 1) 0 (n_cut (xs 2) ((((xs 4).toInt64) <<< ((32 : Int32).toInt64 &&& 63)) ||| (((xs 5).toInt64) &&& 4294967295))) (n_cut (xs 3) ((((xs 6).toInt64) <<< ((32 : Int32).toInt64 &&& 63)) ||| (((xs 7).toInt64) &&& 4294967295)))))))))]) (w1 := [(m0, .inr (11, y0.set 9 (.int 0)))]) hP hD [0] [1, 2] rfl rfl (by decide) (by decide) hk1 hFc hP1 hD1
      generalize H1 = H at hP hS ⊢
      have hP : va_P D vwCl [(h0, .inr (10, [.ref x0, .int 0, .ref x1, .ref x2, .ref x3, .ref x4, .ref x5, .ref x6, .ref x7, .ref x8, .int 0, .int 3000])), (o0, .inl (kA 1, 1, .inr (.inl (vp_updL (fun _ => 0) 0 (n_cut (xs 2) (n_combine (xs 1) 0 (n_cut (xs 2) ((((xs 4).toInt64) <<< ((32 : Int32).toInt64 &&& 63)) ||| (((xs 5).toInt64) &&& 4294967295))) (n_cut (xs 3) ((((xs 6).toInt64) <<< ((32 : Int32).toInt64 &&& 63)) ||| (((xs 7).toInt64) &&& 4294967295))))))))), (m0, .inr (11, y0.set 9 (.int 0)))] H := hP
      have hD : va_D A [(h0, .inr (10, [.ref x0, .int 0, .ref x1, .ref x2, .ref x3, .ref x4, .ref x5, .ref x6, .ref x7, .ref x8, .int 0, .int 3000])), (o0, .inl (kA 1, 1, .inr (.inl (vp_updL (fun _ => 0) 0 (n_cut (xs 2) (n_combine (xs 1) 0 (n_cut (xs 2) ((((xs 4).toInt64) <<< ((32 : Int32).toInt64 &&& 63)) ||| (((xs 5).toInt64) &&& 4294967295))) (n_cut (xs 3) ((((xs 6).toInt64) <<< ((32 : Int32).toInt64 &&& 63)) ||| (((xs 7).toInt64) &&& 4294967295))))))))), (m0, .inr (11, y0.set 9 (.int 0)))] := hD
      refine lv_lstore (lv' := [(6, .long (n_cut (xs 2) (r_two 203 0 (n_cut (xs 2) ((((xs 4).toInt64) <<< ((32 : Int32).toInt64 &&& 63)) ||| (((xs 5).toInt64) &&& 4294967295))) (n_cut (xs 3) ((((xs 6).toInt64) <<< ((32 : Int32).toInt64 &&& 63)) ||| (((xs 7).toInt64) &&& 4294967295)))))), (5, .int 0), (0, .ref b), (1, .ref h0), (2, .ref m0), (3, .ref o0), (4, .int 0)]) hx hb dL_law_1601 hl (by decide) rfl (fun ls hl => ?_)
      refine lv_aload_n hx hb dL_law_1603 rfl (lv_at hl 4 rfl) ?_
      have hPc := hP.sub (ws' := [(m0, .inr (11, y0.set 9 (.int 0)))]) [2] rfl
      have hDc := hD.sub (ws' := [(m0, .inr (11, y0.set 9 (.int 0)))]) [2] (by decide) rfl
      have hFc := va_free (wc := [(m0, .inr (11, y0.set 9 (.int 0)))]) hD hS hA [2] rfl
      refine va_calli (va_runV (As := []) (rest := []) ⟨hx, hb, hml, hown, hts⟩ (a94_X12_thrown l  D kA V H.size m0 (y0.set 9 (.int 0)) (fun k hk => (by rw [List.length_set]; exact (hq k hk))) (List.getElem?_set_self (hq 9 (by decide)))) (cwV 0 hts (gw_V gw_1879 gw_1880 gw_1881 gw_16 gw_1882) rfl rfl rfl (by decide +kernel) ⟨(Nat.le_of_ble_eq_true rfl), (Nat.le_of_ble_eq_true rfl)⟩) ⟨aP.blind, va_recv hK hP (ci := 11) (q0 := 2) rfl rfl, aP.pre hE hS hPc hK hDc hFc⟩ rfl rfl hl.1 rfl (lv_room (Nat.le_of_ble_eq_true rfl)) dL_law_1604 ⟨(Nat.le_of_ble_eq_true rfl), (Nat.le_of_ble_eq_true rfl)⟩) hS (fun q _ h => hFc q h) hFc (fun r_8830 u t H1 locs ht hvm hw hB hz1 hk1 hS => ?_)
      obtain ⟨hP1, hD1⟩ := hB
      rw [ht] at hP1
      try dsimp only at hw hP1 hD1
      have w_8831 := hw
      subst w_8831
      obtain ⟨hP, hD⟩ := va_join (wr := [(h0, .inr (10, [.ref x0, .int 0, .ref x1, .ref x2, .ref x3, .ref x4, .ref x5, .ref x6, .ref x7, .ref x8, .int 0, .int 3000])), (o0, .inl (kA 1, 1, .inr (.inl (vp_updL (fun _ => 0) 0 (n_cut (xs 2) (n_combine (xs 1) 0 (n_cut (xs 2) ((((xs 4).toInt64) <<< ((32 : Int32).toInt64 &&& 63)) ||| (((xs 5).toInt64) &&& 4294967295))) (n_cut (xs 3) ((((xs 6).toInt64) <<< ((32 : Int32).toInt64 &&& 63)) ||| (((xs 7).toInt64) &&& 4294967295)))))))))]) (w1 := [(m0, .inr (11, (y0.set 9 (.int 0))))]) hP hD [2] [0, 1] rfl rfl (by decide) (by decide) hk1 hFc hP1 hD1
      generalize H1 = H at hP hS ⊢
      have hP : va_P D vwCl [(h0, .inr (10, [.ref x0, .int 0, .ref x1, .ref x2, .ref x3, .ref x4, .ref x5, .ref x6, .ref x7, .ref x8, .int 0, .int 3000])), (o0, .inl (kA 1, 1, .inr (.inl (vp_updL (fun _ => 0) 0 (n_cut (xs 2) (n_combine (xs 1) 0 (n_cut (xs 2) ((((xs 4).toInt64) <<< ((32 : Int32).toInt64 &&& 63)) ||| (((xs 5).toInt64) &&& 4294967295))) (n_cut (xs 3) ((((xs 6).toInt64) <<< ((32 : Int32).toInt64 &&& 63)) ||| (((xs 7).toInt64) &&& 4294967295))))))))), (m0, .inr (11, (y0.set 9 (.int 0))))] H := hP
      have hD : va_D A [(h0, .inr (10, [.ref x0, .int 0, .ref x1, .ref x2, .ref x3, .ref x4, .ref x5, .ref x6, .ref x7, .ref x8, .int 0, .int 3000])), (o0, .inl (kA 1, 1, .inr (.inl (vp_updL (fun _ => 0) 0 (n_cut (xs 2) (n_combine (xs 1) 0 (n_cut (xs 2) ((((xs 4).toInt64) <<< ((32 : Int32).toInt64 &&& 63)) ||| (((xs 5).toInt64) &&& 4294967295))) (n_cut (xs 3) ((((xs 6).toInt64) <<< ((32 : Int32).toInt64 &&& 63)) ||| (((xs 7).toInt64) &&& 4294967295))))))))), (m0, .inr (11, (y0.set 9 (.int 0))))] := hD
      refine lv_iload hx hb dL_law_1607 (lv_at hl 1 rfl) ?_
      refine lv_icmp_eq (tgt := 1614) hx hb dL_law_1609 (by decide) (fun c_8832 => ?_) (fun c_8832 => ?_)
      · skip
        refine lv_iload hx hb dL_law_1614 (lv_at hl 1 rfl) ?_
        refine lv_if_ne (tgt := 1630) hx hb dL_law_1616 (by decide) (fun c_8833 => ?_) (fun c_8833 => ?_)
        · exact absurd (by decide) c_8833
        · skip
          refine lv_aload_n hx hb dL_law_1619 rfl (lv_at hl 5 rfl) ?_
          refine lv_iconst (v := 0) hx hb dL_law_1620 (by decide) ?_
          refine va_lald hx hb hK hP 1 1 rfl rfl (show vp_in 0 1 by unfold vp_in; decide) dL_law_1621 ?_
          refine W.eq (g2 := F0 m 1622 ls [.long (n_cut (xs 2) (n_combine (xs 1) 0 (n_cut (xs 2) ((((xs 4).toInt64) <<< ((32 : Int32).toInt64 &&& 63)) ||| (((xs 5).toInt64) &&& 4294967295))) (n_cut (xs 3) ((((xs 6).toInt64) <<< ((32 : Int32).toInt64 &&& 63)) ||| (((xs 7).toInt64) &&& 4294967295)))))]) rfl ?_
          refine lv_lload hx hb dL_law_1622 (lv_at hl 0 rfl) ?_
          refine W.lcmp hx hb dL_law_1624 ?_
          refine lv_if_eq (tgt := 1630) hx hb dL_law_1625 (by decide) (fun c_8834 => ?_) (fun c_8834 => ?_)
          · skip
            refine lv_goto (tgt := 1804) hx hb dL_law_1630 (by decide) ?_
            exact lk_tail hC hA2 (lv_sub hl [2, 6] rfl) hS (Nat.le_of_ble_eq_true rfl) (Nat.le_of_ble_eq_true rfl)
          · exact absurd ((lg_cmp_eq _ _).mpr (qx_w0 c_82 c_8190 c_78 c_79 c_85 c_80 c_81 (fun _ => c_87) (fun q => c_84 q.2) (by unfold q_sign; rw [if_neg c_8195, if_neg c_8196, if_neg c_8197, if_neg c_8198, if_neg c_8199, if_neg c_8200, if_neg c_8201, if_neg c_8202, if_neg c_8203, if_neg c_8204]))) c_8834
      · exact absurd (by decide) c_8832
    · skip
      subst w_8233
      subst w_8234
      exact absurd c_8232 c_87
    · skip
      subst w_8254
      subst w_8255
      exact False.elim (by have a1 := (iyE (n := 9) c_8250 (by decide)); have a2 := (ixA (n := 8) (Int32.not_le.mp c_86) (by decide)); omega)
    · skip
      subst w_8276
      subst w_8277
      exact False.elim (by have a1 := (iyE (n := 9) c_8271 (by decide)); have a2 := (ixA (n := 8) (Int32.not_le.mp c_86) (by decide)); omega)
    · skip
      subst w_8296
      subst w_8297
      exact False.elim (by have a1 := (iyE (n := 8) c_8292 (by decide)); have a2 := (ixA (n := 8) (Int32.not_le.mp c_86) (by decide)); omega)
    · skip
      subst w_8317
      subst w_8318
      exact False.elim (by have a1 := (iyE (n := 8) c_8312 (by decide)); have a2 := (ixA (n := 8) (Int32.not_le.mp c_86) (by decide)); omega)
    · skip
      subst w_8336
      subst w_8337
      exact absurd c_8335 c_85
    · skip
      subst w_8357
      subst w_8358
      obtain ⟨hP, hD⟩ := va_join (wr := [(h0, .inr (10, [.ref x0, .int 0, .ref x1, .ref x2, .ref x3, .ref x4, .ref x5, .ref x6, .ref x7, .ref x8, .int 0, .int 3000])), (o0, .inl (kA 1, 1, .inr (.inl (vp_updL (fun _ => 0) 0 (n_cut (xs 2) (n_combine (xs 1) 0 (n_cut (xs 2) ((((xs 4).toInt64) <<< ((32 : Int32).toInt64 &&& 63)) ||| (((xs 5).toInt64) &&& 4294967295))) (n_cut (xs 3) ((((xs 6).toInt64) <<< ((32 : Int32).toInt64 &&& 63)) ||| (((xs 7).toInt64) &&& 4294967295)))))))))]) (w1 := [(m0, .inr (11, y0.set 9 (.int 0)))]) hP hD [0] [1, 2] rfl rfl (by decide) (by decide) hk1 hFc hP1 hD1
      generalize H1 = H at hP hS ⊢
      have hP : va_P D vwCl [(h0, .inr (10, [.ref x0, .int 0, .ref x1, .ref x2, .ref x3, .ref x4, .ref x5, .ref x6, .ref x7, .ref x8, .int 0, .int 3000])), (o0, .inl (kA 1, 1, .inr (.inl (vp_updL (fun _ => 0) 0 (n_cut (xs 2) (n_combine (xs 1) 0 (n_cut (xs 2) ((((xs 4).toInt64) <<< ((32 : Int32).toInt64 &&& 63)) ||| (((xs 5).toInt64) &&& 4294967295))) (n_cut (xs 3) ((((xs 6).toInt64) <<< ((32 : Int32).toInt64 &&& 63)) ||| (((xs 7).toInt64) &&& 4294967295))))))))), (m0, .inr (11, y0.set 9 (.int 0)))] H := hP
      have hD : va_D A [(h0, .inr (10, [.ref x0, .int 0, .ref x1, .ref x2, .ref x3, .ref x4, .ref x5, .ref x6, .ref x7, .ref x8, .int 0, .int 3000])), (o0, .inl (kA 1, 1, .inr (.inl (vp_updL (fun _ => 0) 0 (n_cut (xs 2) (n_combine (xs 1) 0 (n_cut (xs 2) ((((xs 4).toInt64) <<< ((32 : Int32).toInt64 &&& 63)) ||| (((xs 5).toInt64) &&& 4294967295))) (n_cut (xs 3) ((((xs 6).toInt64) <<< ((32 : Int32).toInt64 &&& 63)) ||| (((xs 7).toInt64) &&& 4294967295))))))))), (m0, .inr (11, y0.set 9 (.int 0)))] := hD
      refine lv_lstore (lv' := [(6, .long (n_cut (xs 2) (r_two 236 0 (n_cut (xs 2) ((((xs 4).toInt64) <<< ((32 : Int32).toInt64 &&& 63)) ||| (((xs 5).toInt64) &&& 4294967295))) (n_cut (xs 3) ((((xs 6).toInt64) <<< ((32 : Int32).toInt64 &&& 63)) ||| (((xs 7).toInt64) &&& 4294967295)))))), (5, .int 0), (0, .ref b), (1, .ref h0), (2, .ref m0), (3, .ref o0), (4, .int 0)]) hx hb dL_law_1601 hl (by decide) rfl (fun ls hl => ?_)
      refine lv_aload_n hx hb dL_law_1603 rfl (lv_at hl 4 rfl) ?_
      have hPc := hP.sub (ws' := [(m0, .inr (11, y0.set 9 (.int 0)))]) [2] rfl
      have hDc := hD.sub (ws' := [(m0, .inr (11, y0.set 9 (.int 0)))]) [2] (by decide) rfl
      have hFc := va_free (wc := [(m0, .inr (11, y0.set 9 (.int 0)))]) hD hS hA [2] rfl
      refine va_calli (va_runV (As := []) (rest := []) ⟨hx, hb, hml, hown, hts⟩ (a94_X12_thrown l  D kA V H.size m0 (y0.set 9 (.int 0)) (fun k hk => (by rw [List.length_set]; exact (hq k hk))) (List.getElem?_set_self (hq 9 (by decide)))) (cwV 0 hts (gw_V gw_1879 gw_1880 gw_1881 gw_16 gw_1882) rfl rfl rfl (by decide +kernel) ⟨(Nat.le_of_ble_eq_true rfl), (Nat.le_of_ble_eq_true rfl)⟩) ⟨aP.blind, va_recv hK hP (ci := 11) (q0 := 2) rfl rfl, aP.pre hE hS hPc hK hDc hFc⟩ rfl rfl hl.1 rfl (lv_room (Nat.le_of_ble_eq_true rfl)) dL_law_1604 ⟨(Nat.le_of_ble_eq_true rfl), (Nat.le_of_ble_eq_true rfl)⟩) hS (fun q _ h => hFc q h) hFc (fun r_8835 u t H1 locs ht hvm hw hB hz1 hk1 hS => ?_)
      obtain ⟨hP1, hD1⟩ := hB
      rw [ht] at hP1
      try dsimp only at hw hP1 hD1
      have w_8836 := hw
      subst w_8836
      obtain ⟨hP, hD⟩ := va_join (wr := [(h0, .inr (10, [.ref x0, .int 0, .ref x1, .ref x2, .ref x3, .ref x4, .ref x5, .ref x6, .ref x7, .ref x8, .int 0, .int 3000])), (o0, .inl (kA 1, 1, .inr (.inl (vp_updL (fun _ => 0) 0 (n_cut (xs 2) (n_combine (xs 1) 0 (n_cut (xs 2) ((((xs 4).toInt64) <<< ((32 : Int32).toInt64 &&& 63)) ||| (((xs 5).toInt64) &&& 4294967295))) (n_cut (xs 3) ((((xs 6).toInt64) <<< ((32 : Int32).toInt64 &&& 63)) ||| (((xs 7).toInt64) &&& 4294967295)))))))))]) (w1 := [(m0, .inr (11, (y0.set 9 (.int 0))))]) hP hD [2] [0, 1] rfl rfl (by decide) (by decide) hk1 hFc hP1 hD1
      generalize H1 = H at hP hS ⊢
      have hP : va_P D vwCl [(h0, .inr (10, [.ref x0, .int 0, .ref x1, .ref x2, .ref x3, .ref x4, .ref x5, .ref x6, .ref x7, .ref x8, .int 0, .int 3000])), (o0, .inl (kA 1, 1, .inr (.inl (vp_updL (fun _ => 0) 0 (n_cut (xs 2) (n_combine (xs 1) 0 (n_cut (xs 2) ((((xs 4).toInt64) <<< ((32 : Int32).toInt64 &&& 63)) ||| (((xs 5).toInt64) &&& 4294967295))) (n_cut (xs 3) ((((xs 6).toInt64) <<< ((32 : Int32).toInt64 &&& 63)) ||| (((xs 7).toInt64) &&& 4294967295))))))))), (m0, .inr (11, (y0.set 9 (.int 0))))] H := hP
      have hD : va_D A [(h0, .inr (10, [.ref x0, .int 0, .ref x1, .ref x2, .ref x3, .ref x4, .ref x5, .ref x6, .ref x7, .ref x8, .int 0, .int 3000])), (o0, .inl (kA 1, 1, .inr (.inl (vp_updL (fun _ => 0) 0 (n_cut (xs 2) (n_combine (xs 1) 0 (n_cut (xs 2) ((((xs 4).toInt64) <<< ((32 : Int32).toInt64 &&& 63)) ||| (((xs 5).toInt64) &&& 4294967295))) (n_cut (xs 3) ((((xs 6).toInt64) <<< ((32 : Int32).toInt64 &&& 63)) ||| (((xs 7).toInt64) &&& 4294967295))))))))), (m0, .inr (11, (y0.set 9 (.int 0))))] := hD
      refine lv_iload hx hb dL_law_1607 (lv_at hl 1 rfl) ?_
      refine lv_icmp_eq (tgt := 1614) hx hb dL_law_1609 (by decide) (fun c_8837 => ?_) (fun c_8837 => ?_)
      · skip
        refine lv_iload hx hb dL_law_1614 (lv_at hl 1 rfl) ?_
        refine lv_if_ne (tgt := 1630) hx hb dL_law_1616 (by decide) (fun c_8838 => ?_) (fun c_8838 => ?_)
        · exact absurd (by decide) c_8838
        · skip
          refine lv_aload_n hx hb dL_law_1619 rfl (lv_at hl 5 rfl) ?_
          refine lv_iconst (v := 0) hx hb dL_law_1620 (by decide) ?_
          refine va_lald hx hb hK hP 1 1 rfl rfl (show vp_in 0 1 by unfold vp_in; decide) dL_law_1621 ?_
          refine W.eq (g2 := F0 m 1622 ls [.long (n_cut (xs 2) (n_combine (xs 1) 0 (n_cut (xs 2) ((((xs 4).toInt64) <<< ((32 : Int32).toInt64 &&& 63)) ||| (((xs 5).toInt64) &&& 4294967295))) (n_cut (xs 3) ((((xs 6).toInt64) <<< ((32 : Int32).toInt64 &&& 63)) ||| (((xs 7).toInt64) &&& 4294967295)))))]) rfl ?_
          refine lv_lload hx hb dL_law_1622 (lv_at hl 0 rfl) ?_
          refine W.lcmp hx hb dL_law_1624 ?_
          refine lv_if_eq (tgt := 1630) hx hb dL_law_1625 (by decide) (fun c_8839 => ?_) (fun c_8839 => ?_)
          · skip
            refine lv_goto (tgt := 1804) hx hb dL_law_1630 (by decide) ?_
            exact lk_tail hC hA2 (lv_sub hl [2, 6] rfl) hS (Nat.le_of_ble_eq_true rfl) (Nat.le_of_ble_eq_true rfl)
          · exact absurd ((lg_cmp_eq _ _).mpr (qx_w0 c_82 c_8339 c_78 c_79 c_85 c_80 c_81 (fun _ => c_87) (fun q => c_84 q.2) (by rw [c_8351]; decide))) c_8839
      · exact absurd (by decide) c_8837
    · skip
      subst w_8378
      subst w_8379
      exact absurd c_8377 c_87
    · skip
      subst w_8396
      subst w_8397
      exact absurd c_8395 c_85
    · skip
      subst w_8416
      subst w_8417
      obtain ⟨hP, hD⟩ := va_join (wr := [(h0, .inr (10, [.ref x0, .int 0, .ref x1, .ref x2, .ref x3, .ref x4, .ref x5, .ref x6, .ref x7, .ref x8, .int 0, .int 3000])), (o0, .inl (kA 1, 1, .inr (.inl (vp_updL (fun _ => 0) 0 (n_cut (xs 2) (n_combine (xs 1) 0 (n_cut (xs 2) ((((xs 4).toInt64) <<< ((32 : Int32).toInt64 &&& 63)) ||| (((xs 5).toInt64) &&& 4294967295))) (n_cut (xs 3) ((((xs 6).toInt64) <<< ((32 : Int32).toInt64 &&& 63)) ||| (((xs 7).toInt64) &&& 4294967295)))))))))]) (w1 := [(m0, .inr (11, y0.set 9 (.int 0)))]) hP hD [0] [1, 2] rfl rfl (by decide) (by decide) hk1 hFc hP1 hD1
      generalize H1 = H at hP hS ⊢
      have hP : va_P D vwCl [(h0, .inr (10, [.ref x0, .int 0, .ref x1, .ref x2, .ref x3, .ref x4, .ref x5, .ref x6, .ref x7, .ref x8, .int 0, .int 3000])), (o0, .inl (kA 1, 1, .inr (.inl (vp_updL (fun _ => 0) 0 (n_cut (xs 2) (n_combine (xs 1) 0 (n_cut (xs 2) ((((xs 4).toInt64) <<< ((32 : Int32).toInt64 &&& 63)) ||| (((xs 5).toInt64) &&& 4294967295))) (n_cut (xs 3) ((((xs 6).toInt64) <<< ((32 : Int32).toInt64 &&& 63)) ||| (((xs 7).toInt64) &&& 4294967295))))))))), (m0, .inr (11, y0.set 9 (.int 0)))] H := hP
      have hD : va_D A [(h0, .inr (10, [.ref x0, .int 0, .ref x1, .ref x2, .ref x3, .ref x4, .ref x5, .ref x6, .ref x7, .ref x8, .int 0, .int 3000])), (o0, .inl (kA 1, 1, .inr (.inl (vp_updL (fun _ => 0) 0 (n_cut (xs 2) (n_combine (xs 1) 0 (n_cut (xs 2) ((((xs 4).toInt64) <<< ((32 : Int32).toInt64 &&& 63)) ||| (((xs 5).toInt64) &&& 4294967295))) (n_cut (xs 3) ((((xs 6).toInt64) <<< ((32 : Int32).toInt64 &&& 63)) ||| (((xs 7).toInt64) &&& 4294967295))))))))), (m0, .inr (11, y0.set 9 (.int 0)))] := hD
      refine lv_lstore (lv' := [(6, .long (n_cut (xs 2) (r_two 235 0 (n_cut (xs 2) ((((xs 4).toInt64) <<< ((32 : Int32).toInt64 &&& 63)) ||| (((xs 5).toInt64) &&& 4294967295))) (n_cut (xs 3) ((((xs 6).toInt64) <<< ((32 : Int32).toInt64 &&& 63)) ||| (((xs 7).toInt64) &&& 4294967295)))))), (5, .int 0), (0, .ref b), (1, .ref h0), (2, .ref m0), (3, .ref o0), (4, .int 0)]) hx hb dL_law_1601 hl (by decide) rfl (fun ls hl => ?_)
      refine lv_aload_n hx hb dL_law_1603 rfl (lv_at hl 4 rfl) ?_
      have hPc := hP.sub (ws' := [(m0, .inr (11, y0.set 9 (.int 0)))]) [2] rfl
      have hDc := hD.sub (ws' := [(m0, .inr (11, y0.set 9 (.int 0)))]) [2] (by decide) rfl
      have hFc := va_free (wc := [(m0, .inr (11, y0.set 9 (.int 0)))]) hD hS hA [2] rfl
      refine va_calli (va_runV (As := []) (rest := []) ⟨hx, hb, hml, hown, hts⟩ (a94_X12_thrown l  D kA V H.size m0 (y0.set 9 (.int 0)) (fun k hk => (by rw [List.length_set]; exact (hq k hk))) (List.getElem?_set_self (hq 9 (by decide)))) (cwV 0 hts (gw_V gw_1879 gw_1880 gw_1881 gw_16 gw_1882) rfl rfl rfl (by decide +kernel) ⟨(Nat.le_of_ble_eq_true rfl), (Nat.le_of_ble_eq_true rfl)⟩) ⟨aP.blind, va_recv hK hP (ci := 11) (q0 := 2) rfl rfl, aP.pre hE hS hPc hK hDc hFc⟩ rfl rfl hl.1 rfl (lv_room (Nat.le_of_ble_eq_true rfl)) dL_law_1604 ⟨(Nat.le_of_ble_eq_true rfl), (Nat.le_of_ble_eq_true rfl)⟩) hS (fun q _ h => hFc q h) hFc (fun r_8840 u t H1 locs ht hvm hw hB hz1 hk1 hS => ?_)
      obtain ⟨hP1, hD1⟩ := hB
      rw [ht] at hP1
      try dsimp only at hw hP1 hD1
      have w_8841 := hw
      subst w_8841
      obtain ⟨hP, hD⟩ := va_join (wr := [(h0, .inr (10, [.ref x0, .int 0, .ref x1, .ref x2, .ref x3, .ref x4, .ref x5, .ref x6, .ref x7, .ref x8, .int 0, .int 3000])), (o0, .inl (kA 1, 1, .inr (.inl (vp_updL (fun _ => 0) 0 (n_cut (xs 2) (n_combine (xs 1) 0 (n_cut (xs 2) ((((xs 4).toInt64) <<< ((32 : Int32).toInt64 &&& 63)) ||| (((xs 5).toInt64) &&& 4294967295))) (n_cut (xs 3) ((((xs 6).toInt64) <<< ((32 : Int32).toInt64 &&& 63)) ||| (((xs 7).toInt64) &&& 4294967295)))))))))]) (w1 := [(m0, .inr (11, (y0.set 9 (.int 0))))]) hP hD [2] [0, 1] rfl rfl (by decide) (by decide) hk1 hFc hP1 hD1
      generalize H1 = H at hP hS ⊢
      have hP : va_P D vwCl [(h0, .inr (10, [.ref x0, .int 0, .ref x1, .ref x2, .ref x3, .ref x4, .ref x5, .ref x6, .ref x7, .ref x8, .int 0, .int 3000])), (o0, .inl (kA 1, 1, .inr (.inl (vp_updL (fun _ => 0) 0 (n_cut (xs 2) (n_combine (xs 1) 0 (n_cut (xs 2) ((((xs 4).toInt64) <<< ((32 : Int32).toInt64 &&& 63)) ||| (((xs 5).toInt64) &&& 4294967295))) (n_cut (xs 3) ((((xs 6).toInt64) <<< ((32 : Int32).toInt64 &&& 63)) ||| (((xs 7).toInt64) &&& 4294967295))))))))), (m0, .inr (11, (y0.set 9 (.int 0))))] H := hP
      have hD : va_D A [(h0, .inr (10, [.ref x0, .int 0, .ref x1, .ref x2, .ref x3, .ref x4, .ref x5, .ref x6, .ref x7, .ref x8, .int 0, .int 3000])), (o0, .inl (kA 1, 1, .inr (.inl (vp_updL (fun _ => 0) 0 (n_cut (xs 2) (n_combine (xs 1) 0 (n_cut (xs 2) ((((xs 4).toInt64) <<< ((32 : Int32).toInt64 &&& 63)) ||| (((xs 5).toInt64) &&& 4294967295))) (n_cut (xs 3) ((((xs 6).toInt64) <<< ((32 : Int32).toInt64 &&& 63)) ||| (((xs 7).toInt64) &&& 4294967295))))))))), (m0, .inr (11, (y0.set 9 (.int 0))))] := hD
      refine lv_iload hx hb dL_law_1607 (lv_at hl 1 rfl) ?_
      refine lv_icmp_eq (tgt := 1614) hx hb dL_law_1609 (by decide) (fun c_8842 => ?_) (fun c_8842 => ?_)
      · skip
        refine lv_iload hx hb dL_law_1614 (lv_at hl 1 rfl) ?_
        refine lv_if_ne (tgt := 1630) hx hb dL_law_1616 (by decide) (fun c_8843 => ?_) (fun c_8843 => ?_)
        · exact absurd (by decide) c_8843
        · skip
          refine lv_aload_n hx hb dL_law_1619 rfl (lv_at hl 5 rfl) ?_
          refine lv_iconst (v := 0) hx hb dL_law_1620 (by decide) ?_
          refine va_lald hx hb hK hP 1 1 rfl rfl (show vp_in 0 1 by unfold vp_in; decide) dL_law_1621 ?_
          refine W.eq (g2 := F0 m 1622 ls [.long (n_cut (xs 2) (n_combine (xs 1) 0 (n_cut (xs 2) ((((xs 4).toInt64) <<< ((32 : Int32).toInt64 &&& 63)) ||| (((xs 5).toInt64) &&& 4294967295))) (n_cut (xs 3) ((((xs 6).toInt64) <<< ((32 : Int32).toInt64 &&& 63)) ||| (((xs 7).toInt64) &&& 4294967295)))))]) rfl ?_
          refine lv_lload hx hb dL_law_1622 (lv_at hl 0 rfl) ?_
          refine W.lcmp hx hb dL_law_1624 ?_
          refine lv_if_eq (tgt := 1630) hx hb dL_law_1625 (by decide) (fun c_8844 => ?_) (fun c_8844 => ?_)
          · skip
            refine lv_goto (tgt := 1804) hx hb dL_law_1630 (by decide) ?_
            exact lk_tail hC hA2 (lv_sub hl [2, 6] rfl) hS (Nat.le_of_ble_eq_true rfl) (Nat.le_of_ble_eq_true rfl)
          · exact absurd ((lg_cmp_eq _ _).mpr (qx_w0 c_82 c_8399 c_78 c_79 c_85 c_80 c_81 (fun _ => c_87) (fun q => c_84 q.2) (by rw [c_8410]; decide))) c_8844
      · exact absurd (by decide) c_8842
    · skip
      subst w_8436
      subst w_8437
      exact absurd c_8435 c_87
    · skip
      subst w_8453
      subst w_8454
      exact absurd c_8452 c_85
    · skip
      subst w_8472
      subst w_8473
      obtain ⟨hP, hD⟩ := va_join (wr := [(h0, .inr (10, [.ref x0, .int 0, .ref x1, .ref x2, .ref x3, .ref x4, .ref x5, .ref x6, .ref x7, .ref x8, .int 0, .int 3000])), (o0, .inl (kA 1, 1, .inr (.inl (vp_updL (fun _ => 0) 0 (n_cut (xs 2) (n_combine (xs 1) 0 (n_cut (xs 2) ((((xs 4).toInt64) <<< ((32 : Int32).toInt64 &&& 63)) ||| (((xs 5).toInt64) &&& 4294967295))) (n_cut (xs 3) ((((xs 6).toInt64) <<< ((32 : Int32).toInt64 &&& 63)) ||| (((xs 7).toInt64) &&& 4294967295)))))))))]) (w1 := [(m0, .inr (11, y0.set 9 (.int 0)))]) hP hD [0] [1, 2] rfl rfl (by decide) (by decide) hk1 hFc hP1 hD1
      generalize H1 = H at hP hS ⊢
      have hP : va_P D vwCl [(h0, .inr (10, [.ref x0, .int 0, .ref x1, .ref x2, .ref x3, .ref x4, .ref x5, .ref x6, .ref x7, .ref x8, .int 0, .int 3000])), (o0, .inl (kA 1, 1, .inr (.inl (vp_updL (fun _ => 0) 0 (n_cut (xs 2) (n_combine (xs 1) 0 (n_cut (xs 2) ((((xs 4).toInt64) <<< ((32 : Int32).toInt64 &&& 63)) ||| (((xs 5).toInt64) &&& 4294967295))) (n_cut (xs 3) ((((xs 6).toInt64) <<< ((32 : Int32).toInt64 &&& 63)) ||| (((xs 7).toInt64) &&& 4294967295))))))))), (m0, .inr (11, y0.set 9 (.int 0)))] H := hP
      have hD : va_D A [(h0, .inr (10, [.ref x0, .int 0, .ref x1, .ref x2, .ref x3, .ref x4, .ref x5, .ref x6, .ref x7, .ref x8, .int 0, .int 3000])), (o0, .inl (kA 1, 1, .inr (.inl (vp_updL (fun _ => 0) 0 (n_cut (xs 2) (n_combine (xs 1) 0 (n_cut (xs 2) ((((xs 4).toInt64) <<< ((32 : Int32).toInt64 &&& 63)) ||| (((xs 5).toInt64) &&& 4294967295))) (n_cut (xs 3) ((((xs 6).toInt64) <<< ((32 : Int32).toInt64 &&& 63)) ||| (((xs 7).toInt64) &&& 4294967295))))))))), (m0, .inr (11, y0.set 9 (.int 0)))] := hD
      refine lv_lstore (lv' := [(6, .long (n_cut (xs 2) (r_two 237 0 (n_cut (xs 2) ((((xs 4).toInt64) <<< ((32 : Int32).toInt64 &&& 63)) ||| (((xs 5).toInt64) &&& 4294967295))) (n_cut (xs 3) ((((xs 6).toInt64) <<< ((32 : Int32).toInt64 &&& 63)) ||| (((xs 7).toInt64) &&& 4294967295)))))), (5, .int 0), (0, .ref b), (1, .ref h0), (2, .ref m0), (3, .ref o0), (4, .int 0)]) hx hb dL_law_1601 hl (by decide) rfl (fun ls hl => ?_)
      refine lv_aload_n hx hb dL_law_1603 rfl (lv_at hl 4 rfl) ?_
      have hPc := hP.sub (ws' := [(m0, .inr (11, y0.set 9 (.int 0)))]) [2] rfl
      have hDc := hD.sub (ws' := [(m0, .inr (11, y0.set 9 (.int 0)))]) [2] (by decide) rfl
      have hFc := va_free (wc := [(m0, .inr (11, y0.set 9 (.int 0)))]) hD hS hA [2] rfl
      refine va_calli (va_runV (As := []) (rest := []) ⟨hx, hb, hml, hown, hts⟩ (a94_X12_thrown l  D kA V H.size m0 (y0.set 9 (.int 0)) (fun k hk => (by rw [List.length_set]; exact (hq k hk))) (List.getElem?_set_self (hq 9 (by decide)))) (cwV 0 hts (gw_V gw_1879 gw_1880 gw_1881 gw_16 gw_1882) rfl rfl rfl (by decide +kernel) ⟨(Nat.le_of_ble_eq_true rfl), (Nat.le_of_ble_eq_true rfl)⟩) ⟨aP.blind, va_recv hK hP (ci := 11) (q0 := 2) rfl rfl, aP.pre hE hS hPc hK hDc hFc⟩ rfl rfl hl.1 rfl (lv_room (Nat.le_of_ble_eq_true rfl)) dL_law_1604 ⟨(Nat.le_of_ble_eq_true rfl), (Nat.le_of_ble_eq_true rfl)⟩) hS (fun q _ h => hFc q h) hFc (fun r_8845 u t H1 locs ht hvm hw hB hz1 hk1 hS => ?_)
      obtain ⟨hP1, hD1⟩ := hB
      rw [ht] at hP1
      try dsimp only at hw hP1 hD1
      have w_8846 := hw
      subst w_8846
      obtain ⟨hP, hD⟩ := va_join (wr := [(h0, .inr (10, [.ref x0, .int 0, .ref x1, .ref x2, .ref x3, .ref x4, .ref x5, .ref x6, .ref x7, .ref x8, .int 0, .int 3000])), (o0, .inl (kA 1, 1, .inr (.inl (vp_updL (fun _ => 0) 0 (n_cut (xs 2) (n_combine (xs 1) 0 (n_cut (xs 2) ((((xs 4).toInt64) <<< ((32 : Int32).toInt64 &&& 63)) ||| (((xs 5).toInt64) &&& 4294967295))) (n_cut (xs 3) ((((xs 6).toInt64) <<< ((32 : Int32).toInt64 &&& 63)) ||| (((xs 7).toInt64) &&& 4294967295)))))))))]) (w1 := [(m0, .inr (11, (y0.set 9 (.int 0))))]) hP hD [2] [0, 1] rfl rfl (by decide) (by decide) hk1 hFc hP1 hD1
      generalize H1 = H at hP hS ⊢
      have hP : va_P D vwCl [(h0, .inr (10, [.ref x0, .int 0, .ref x1, .ref x2, .ref x3, .ref x4, .ref x5, .ref x6, .ref x7, .ref x8, .int 0, .int 3000])), (o0, .inl (kA 1, 1, .inr (.inl (vp_updL (fun _ => 0) 0 (n_cut (xs 2) (n_combine (xs 1) 0 (n_cut (xs 2) ((((xs 4).toInt64) <<< ((32 : Int32).toInt64 &&& 63)) ||| (((xs 5).toInt64) &&& 4294967295))) (n_cut (xs 3) ((((xs 6).toInt64) <<< ((32 : Int32).toInt64 &&& 63)) ||| (((xs 7).toInt64) &&& 4294967295))))))))), (m0, .inr (11, (y0.set 9 (.int 0))))] H := hP
      have hD : va_D A [(h0, .inr (10, [.ref x0, .int 0, .ref x1, .ref x2, .ref x3, .ref x4, .ref x5, .ref x6, .ref x7, .ref x8, .int 0, .int 3000])), (o0, .inl (kA 1, 1, .inr (.inl (vp_updL (fun _ => 0) 0 (n_cut (xs 2) (n_combine (xs 1) 0 (n_cut (xs 2) ((((xs 4).toInt64) <<< ((32 : Int32).toInt64 &&& 63)) ||| (((xs 5).toInt64) &&& 4294967295))) (n_cut (xs 3) ((((xs 6).toInt64) <<< ((32 : Int32).toInt64 &&& 63)) ||| (((xs 7).toInt64) &&& 4294967295))))))))), (m0, .inr (11, (y0.set 9 (.int 0))))] := hD
      refine lv_iload hx hb dL_law_1607 (lv_at hl 1 rfl) ?_
      refine lv_icmp_eq (tgt := 1614) hx hb dL_law_1609 (by decide) (fun c_8847 => ?_) (fun c_8847 => ?_)
      · skip
        refine lv_iload hx hb dL_law_1614 (lv_at hl 1 rfl) ?_
        refine lv_if_ne (tgt := 1630) hx hb dL_law_1616 (by decide) (fun c_8848 => ?_) (fun c_8848 => ?_)
        · exact absurd (by decide) c_8848
        · skip
          refine lv_aload_n hx hb dL_law_1619 rfl (lv_at hl 5 rfl) ?_
          refine lv_iconst (v := 0) hx hb dL_law_1620 (by decide) ?_
          refine va_lald hx hb hK hP 1 1 rfl rfl (show vp_in 0 1 by unfold vp_in; decide) dL_law_1621 ?_
          refine W.eq (g2 := F0 m 1622 ls [.long (n_cut (xs 2) (n_combine (xs 1) 0 (n_cut (xs 2) ((((xs 4).toInt64) <<< ((32 : Int32).toInt64 &&& 63)) ||| (((xs 5).toInt64) &&& 4294967295))) (n_cut (xs 3) ((((xs 6).toInt64) <<< ((32 : Int32).toInt64 &&& 63)) ||| (((xs 7).toInt64) &&& 4294967295)))))]) rfl ?_
          refine lv_lload hx hb dL_law_1622 (lv_at hl 0 rfl) ?_
          refine W.lcmp hx hb dL_law_1624 ?_
          refine lv_if_eq (tgt := 1630) hx hb dL_law_1625 (by decide) (fun c_8849 => ?_) (fun c_8849 => ?_)
          · skip
            refine lv_goto (tgt := 1804) hx hb dL_law_1630 (by decide) ?_
            exact lk_tail hC hA2 (lv_sub hl [2, 6] rfl) hS (Nat.le_of_ble_eq_true rfl) (Nat.le_of_ble_eq_true rfl)
          · exact absurd ((lg_cmp_eq _ _).mpr (qx_w0 c_82 c_8456 c_78 c_79 c_85 c_80 c_81 (fun _ => c_87) (fun q => c_84 q.2) (by rw [c_8466]; decide))) c_8849
      · exact absurd (by decide) c_8847
    · skip
      subst w_8491
      subst w_8492
      exact absurd c_8490 c_87
    · skip
      subst w_8508
      subst w_8509
      exact absurd c_8507 c_85
    · skip
      subst w_8527
      subst w_8528
      obtain ⟨hP, hD⟩ := va_join (wr := [(h0, .inr (10, [.ref x0, .int 0, .ref x1, .ref x2, .ref x3, .ref x4, .ref x5, .ref x6, .ref x7, .ref x8, .int 0, .int 3000])), (o0, .inl (kA 1, 1, .inr (.inl (vp_updL (fun _ => 0) 0 (n_cut (xs 2) (n_combine (xs 1) 0 (n_cut (xs 2) ((((xs 4).toInt64) <<< ((32 : Int32).toInt64 &&& 63)) ||| (((xs 5).toInt64) &&& 4294967295))) (n_cut (xs 3) ((((xs 6).toInt64) <<< ((32 : Int32).toInt64 &&& 63)) ||| (((xs 7).toInt64) &&& 4294967295)))))))))]) (w1 := [(m0, .inr (11, y0.set 9 (.int 0)))]) hP hD [0] [1, 2] rfl rfl (by decide) (by decide) hk1 hFc hP1 hD1
      generalize H1 = H at hP hS ⊢
      have hP : va_P D vwCl [(h0, .inr (10, [.ref x0, .int 0, .ref x1, .ref x2, .ref x3, .ref x4, .ref x5, .ref x6, .ref x7, .ref x8, .int 0, .int 3000])), (o0, .inl (kA 1, 1, .inr (.inl (vp_updL (fun _ => 0) 0 (n_cut (xs 2) (n_combine (xs 1) 0 (n_cut (xs 2) ((((xs 4).toInt64) <<< ((32 : Int32).toInt64 &&& 63)) ||| (((xs 5).toInt64) &&& 4294967295))) (n_cut (xs 3) ((((xs 6).toInt64) <<< ((32 : Int32).toInt64 &&& 63)) ||| (((xs 7).toInt64) &&& 4294967295))))))))), (m0, .inr (11, y0.set 9 (.int 0)))] H := hP
      have hD : va_D A [(h0, .inr (10, [.ref x0, .int 0, .ref x1, .ref x2, .ref x3, .ref x4, .ref x5, .ref x6, .ref x7, .ref x8, .int 0, .int 3000])), (o0, .inl (kA 1, 1, .inr (.inl (vp_updL (fun _ => 0) 0 (n_cut (xs 2) (n_combine (xs 1) 0 (n_cut (xs 2) ((((xs 4).toInt64) <<< ((32 : Int32).toInt64 &&& 63)) ||| (((xs 5).toInt64) &&& 4294967295))) (n_cut (xs 3) ((((xs 6).toInt64) <<< ((32 : Int32).toInt64 &&& 63)) ||| (((xs 7).toInt64) &&& 4294967295))))))))), (m0, .inr (11, y0.set 9 (.int 0)))] := hD
      refine lv_lstore (lv' := [(6, .long (n_cut (xs 2) (r_two 244 0 (n_cut (xs 2) ((((xs 4).toInt64) <<< ((32 : Int32).toInt64 &&& 63)) ||| (((xs 5).toInt64) &&& 4294967295))) (n_cut (xs 3) ((((xs 6).toInt64) <<< ((32 : Int32).toInt64 &&& 63)) ||| (((xs 7).toInt64) &&& 4294967295)))))), (5, .int 0), (0, .ref b), (1, .ref h0), (2, .ref m0), (3, .ref o0), (4, .int 0)]) hx hb dL_law_1601 hl (by decide) rfl (fun ls hl => ?_)
      refine lv_aload_n hx hb dL_law_1603 rfl (lv_at hl 4 rfl) ?_
      have hPc := hP.sub (ws' := [(m0, .inr (11, y0.set 9 (.int 0)))]) [2] rfl
      have hDc := hD.sub (ws' := [(m0, .inr (11, y0.set 9 (.int 0)))]) [2] (by decide) rfl
      have hFc := va_free (wc := [(m0, .inr (11, y0.set 9 (.int 0)))]) hD hS hA [2] rfl
      refine va_calli (va_runV (As := []) (rest := []) ⟨hx, hb, hml, hown, hts⟩ (a94_X12_thrown l  D kA V H.size m0 (y0.set 9 (.int 0)) (fun k hk => (by rw [List.length_set]; exact (hq k hk))) (List.getElem?_set_self (hq 9 (by decide)))) (cwV 0 hts (gw_V gw_1879 gw_1880 gw_1881 gw_16 gw_1882) rfl rfl rfl (by decide +kernel) ⟨(Nat.le_of_ble_eq_true rfl), (Nat.le_of_ble_eq_true rfl)⟩) ⟨aP.blind, va_recv hK hP (ci := 11) (q0 := 2) rfl rfl, aP.pre hE hS hPc hK hDc hFc⟩ rfl rfl hl.1 rfl (lv_room (Nat.le_of_ble_eq_true rfl)) dL_law_1604 ⟨(Nat.le_of_ble_eq_true rfl), (Nat.le_of_ble_eq_true rfl)⟩) hS (fun q _ h => hFc q h) hFc (fun r_8850 u t H1 locs ht hvm hw hB hz1 hk1 hS => ?_)
      obtain ⟨hP1, hD1⟩ := hB
      rw [ht] at hP1
      try dsimp only at hw hP1 hD1
      have w_8851 := hw
      subst w_8851
      obtain ⟨hP, hD⟩ := va_join (wr := [(h0, .inr (10, [.ref x0, .int 0, .ref x1, .ref x2, .ref x3, .ref x4, .ref x5, .ref x6, .ref x7, .ref x8, .int 0, .int 3000])), (o0, .inl (kA 1, 1, .inr (.inl (vp_updL (fun _ => 0) 0 (n_cut (xs 2) (n_combine (xs 1) 0 (n_cut (xs 2) ((((xs 4).toInt64) <<< ((32 : Int32).toInt64 &&& 63)) ||| (((xs 5).toInt64) &&& 4294967295))) (n_cut (xs 3) ((((xs 6).toInt64) <<< ((32 : Int32).toInt64 &&& 63)) ||| (((xs 7).toInt64) &&& 4294967295)))))))))]) (w1 := [(m0, .inr (11, (y0.set 9 (.int 0))))]) hP hD [2] [0, 1] rfl rfl (by decide) (by decide) hk1 hFc hP1 hD1
      generalize H1 = H at hP hS ⊢
      have hP : va_P D vwCl [(h0, .inr (10, [.ref x0, .int 0, .ref x1, .ref x2, .ref x3, .ref x4, .ref x5, .ref x6, .ref x7, .ref x8, .int 0, .int 3000])), (o0, .inl (kA 1, 1, .inr (.inl (vp_updL (fun _ => 0) 0 (n_cut (xs 2) (n_combine (xs 1) 0 (n_cut (xs 2) ((((xs 4).toInt64) <<< ((32 : Int32).toInt64 &&& 63)) ||| (((xs 5).toInt64) &&& 4294967295))) (n_cut (xs 3) ((((xs 6).toInt64) <<< ((32 : Int32).toInt64 &&& 63)) ||| (((xs 7).toInt64) &&& 4294967295))))))))), (m0, .inr (11, (y0.set 9 (.int 0))))] H := hP
      have hD : va_D A [(h0, .inr (10, [.ref x0, .int 0, .ref x1, .ref x2, .ref x3, .ref x4, .ref x5, .ref x6, .ref x7, .ref x8, .int 0, .int 3000])), (o0, .inl (kA 1, 1, .inr (.inl (vp_updL (fun _ => 0) 0 (n_cut (xs 2) (n_combine (xs 1) 0 (n_cut (xs 2) ((((xs 4).toInt64) <<< ((32 : Int32).toInt64 &&& 63)) ||| (((xs 5).toInt64) &&& 4294967295))) (n_cut (xs 3) ((((xs 6).toInt64) <<< ((32 : Int32).toInt64 &&& 63)) ||| (((xs 7).toInt64) &&& 4294967295))))))))), (m0, .inr (11, (y0.set 9 (.int 0))))] := hD
      refine lv_iload hx hb dL_law_1607 (lv_at hl 1 rfl) ?_
      refine lv_icmp_eq (tgt := 1614) hx hb dL_law_1609 (by decide) (fun c_8852 => ?_) (fun c_8852 => ?_)
      · skip
        refine lv_iload hx hb dL_law_1614 (lv_at hl 1 rfl) ?_
        refine lv_if_ne (tgt := 1630) hx hb dL_law_1616 (by decide) (fun c_8853 => ?_) (fun c_8853 => ?_)
        · exact absurd (by decide) c_8853
        · skip
          refine lv_aload_n hx hb dL_law_1619 rfl (lv_at hl 5 rfl) ?_
          refine lv_iconst (v := 0) hx hb dL_law_1620 (by decide) ?_
          refine va_lald hx hb hK hP 1 1 rfl rfl (show vp_in 0 1 by unfold vp_in; decide) dL_law_1621 ?_
          refine W.eq (g2 := F0 m 1622 ls [.long (n_cut (xs 2) (n_combine (xs 1) 0 (n_cut (xs 2) ((((xs 4).toInt64) <<< ((32 : Int32).toInt64 &&& 63)) ||| (((xs 5).toInt64) &&& 4294967295))) (n_cut (xs 3) ((((xs 6).toInt64) <<< ((32 : Int32).toInt64 &&& 63)) ||| (((xs 7).toInt64) &&& 4294967295)))))]) rfl ?_
          refine lv_lload hx hb dL_law_1622 (lv_at hl 0 rfl) ?_
          refine W.lcmp hx hb dL_law_1624 ?_
          refine lv_if_eq (tgt := 1630) hx hb dL_law_1625 (by decide) (fun c_8854 => ?_) (fun c_8854 => ?_)
          · skip
            refine lv_goto (tgt := 1804) hx hb dL_law_1630 (by decide) ?_
            exact lk_tail hC hA2 (lv_sub hl [2, 6] rfl) hS (Nat.le_of_ble_eq_true rfl) (Nat.le_of_ble_eq_true rfl)
          · exact absurd ((lg_cmp_eq _ _).mpr (qx_w0 c_82 c_8511 c_78 c_79 c_85 c_80 c_81 (fun _ => c_87) (fun q => c_84 q.2) (by rw [c_8520]; decide))) c_8854
      · exact absurd (by decide) c_8852
    · skip
      subst w_8546
      subst w_8547
      exact absurd c_8545 c_87
    · skip
      subst w_8563
      subst w_8564
      exact absurd c_8561 c_84
    · skip
      subst w_8582
      subst w_8583
      exact absurd c_8578 c_84
    · skip
      subst w_8601
      subst w_8602
      exact absurd c_8597 c_84
    · skip
      subst w_8616
      subst w_8617
      exact absurd c_8615 c_85
    · skip
      subst w_8633
      subst w_8634
      obtain ⟨hP, hD⟩ := va_join (wr := [(h0, .inr (10, [.ref x0, .int 0, .ref x1, .ref x2, .ref x3, .ref x4, .ref x5, .ref x6, .ref x7, .ref x8, .int 0, .int 3000])), (o0, .inl (kA 1, 1, .inr (.inl (vp_updL (fun _ => 0) 0 (n_cut (xs 2) (n_combine (xs 1) 0 (n_cut (xs 2) ((((xs 4).toInt64) <<< ((32 : Int32).toInt64 &&& 63)) ||| (((xs 5).toInt64) &&& 4294967295))) (n_cut (xs 3) ((((xs 6).toInt64) <<< ((32 : Int32).toInt64 &&& 63)) ||| (((xs 7).toInt64) &&& 4294967295)))))))))]) (w1 := [(m0, .inr (11, y0.set 9 (.int 0)))]) hP hD [0] [1, 2] rfl rfl (by decide) (by decide) hk1 hFc hP1 hD1
      generalize H1 = H at hP hS ⊢
      have hP : va_P D vwCl [(h0, .inr (10, [.ref x0, .int 0, .ref x1, .ref x2, .ref x3, .ref x4, .ref x5, .ref x6, .ref x7, .ref x8, .int 0, .int 3000])), (o0, .inl (kA 1, 1, .inr (.inl (vp_updL (fun _ => 0) 0 (n_cut (xs 2) (n_combine (xs 1) 0 (n_cut (xs 2) ((((xs 4).toInt64) <<< ((32 : Int32).toInt64 &&& 63)) ||| (((xs 5).toInt64) &&& 4294967295))) (n_cut (xs 3) ((((xs 6).toInt64) <<< ((32 : Int32).toInt64 &&& 63)) ||| (((xs 7).toInt64) &&& 4294967295))))))))), (m0, .inr (11, y0.set 9 (.int 0)))] H := hP
      have hD : va_D A [(h0, .inr (10, [.ref x0, .int 0, .ref x1, .ref x2, .ref x3, .ref x4, .ref x5, .ref x6, .ref x7, .ref x8, .int 0, .int 3000])), (o0, .inl (kA 1, 1, .inr (.inl (vp_updL (fun _ => 0) 0 (n_cut (xs 2) (n_combine (xs 1) 0 (n_cut (xs 2) ((((xs 4).toInt64) <<< ((32 : Int32).toInt64 &&& 63)) ||| (((xs 5).toInt64) &&& 4294967295))) (n_cut (xs 3) ((((xs 6).toInt64) <<< ((32 : Int32).toInt64 &&& 63)) ||| (((xs 7).toInt64) &&& 4294967295))))))))), (m0, .inr (11, y0.set 9 (.int 0)))] := hD
      refine lv_lstore (lv' := [(6, .long (n_cut (xs 2) (r_two 243 0 (n_cut (xs 2) ((((xs 4).toInt64) <<< ((32 : Int32).toInt64 &&& 63)) ||| (((xs 5).toInt64) &&& 4294967295))) (n_cut (xs 3) ((((xs 6).toInt64) <<< ((32 : Int32).toInt64 &&& 63)) ||| (((xs 7).toInt64) &&& 4294967295)))))), (5, .int 0), (0, .ref b), (1, .ref h0), (2, .ref m0), (3, .ref o0), (4, .int 0)]) hx hb dL_law_1601 hl (by decide) rfl (fun ls hl => ?_)
      refine lv_aload_n hx hb dL_law_1603 rfl (lv_at hl 4 rfl) ?_
      have hPc := hP.sub (ws' := [(m0, .inr (11, y0.set 9 (.int 0)))]) [2] rfl
      have hDc := hD.sub (ws' := [(m0, .inr (11, y0.set 9 (.int 0)))]) [2] (by decide) rfl
      have hFc := va_free (wc := [(m0, .inr (11, y0.set 9 (.int 0)))]) hD hS hA [2] rfl
      refine va_calli (va_runV (As := []) (rest := []) ⟨hx, hb, hml, hown, hts⟩ (a94_X12_thrown l  D kA V H.size m0 (y0.set 9 (.int 0)) (fun k hk => (by rw [List.length_set]; exact (hq k hk))) (List.getElem?_set_self (hq 9 (by decide)))) (cwV 0 hts (gw_V gw_1879 gw_1880 gw_1881 gw_16 gw_1882) rfl rfl rfl (by decide +kernel) ⟨(Nat.le_of_ble_eq_true rfl), (Nat.le_of_ble_eq_true rfl)⟩) ⟨aP.blind, va_recv hK hP (ci := 11) (q0 := 2) rfl rfl, aP.pre hE hS hPc hK hDc hFc⟩ rfl rfl hl.1 rfl (lv_room (Nat.le_of_ble_eq_true rfl)) dL_law_1604 ⟨(Nat.le_of_ble_eq_true rfl), (Nat.le_of_ble_eq_true rfl)⟩) hS (fun q _ h => hFc q h) hFc (fun r_8855 u t H1 locs ht hvm hw hB hz1 hk1 hS => ?_)
      obtain ⟨hP1, hD1⟩ := hB
      rw [ht] at hP1
      try dsimp only at hw hP1 hD1
      have w_8856 := hw
      subst w_8856
      obtain ⟨hP, hD⟩ := va_join (wr := [(h0, .inr (10, [.ref x0, .int 0, .ref x1, .ref x2, .ref x3, .ref x4, .ref x5, .ref x6, .ref x7, .ref x8, .int 0, .int 3000])), (o0, .inl (kA 1, 1, .inr (.inl (vp_updL (fun _ => 0) 0 (n_cut (xs 2) (n_combine (xs 1) 0 (n_cut (xs 2) ((((xs 4).toInt64) <<< ((32 : Int32).toInt64 &&& 63)) ||| (((xs 5).toInt64) &&& 4294967295))) (n_cut (xs 3) ((((xs 6).toInt64) <<< ((32 : Int32).toInt64 &&& 63)) ||| (((xs 7).toInt64) &&& 4294967295)))))))))]) (w1 := [(m0, .inr (11, (y0.set 9 (.int 0))))]) hP hD [2] [0, 1] rfl rfl (by decide) (by decide) hk1 hFc hP1 hD1
      generalize H1 = H at hP hS ⊢
      have hP : va_P D vwCl [(h0, .inr (10, [.ref x0, .int 0, .ref x1, .ref x2, .ref x3, .ref x4, .ref x5, .ref x6, .ref x7, .ref x8, .int 0, .int 3000])), (o0, .inl (kA 1, 1, .inr (.inl (vp_updL (fun _ => 0) 0 (n_cut (xs 2) (n_combine (xs 1) 0 (n_cut (xs 2) ((((xs 4).toInt64) <<< ((32 : Int32).toInt64 &&& 63)) ||| (((xs 5).toInt64) &&& 4294967295))) (n_cut (xs 3) ((((xs 6).toInt64) <<< ((32 : Int32).toInt64 &&& 63)) ||| (((xs 7).toInt64) &&& 4294967295))))))))), (m0, .inr (11, (y0.set 9 (.int 0))))] H := hP
      have hD : va_D A [(h0, .inr (10, [.ref x0, .int 0, .ref x1, .ref x2, .ref x3, .ref x4, .ref x5, .ref x6, .ref x7, .ref x8, .int 0, .int 3000])), (o0, .inl (kA 1, 1, .inr (.inl (vp_updL (fun _ => 0) 0 (n_cut (xs 2) (n_combine (xs 1) 0 (n_cut (xs 2) ((((xs 4).toInt64) <<< ((32 : Int32).toInt64 &&& 63)) ||| (((xs 5).toInt64) &&& 4294967295))) (n_cut (xs 3) ((((xs 6).toInt64) <<< ((32 : Int32).toInt64 &&& 63)) ||| (((xs 7).toInt64) &&& 4294967295))))))))), (m0, .inr (11, (y0.set 9 (.int 0))))] := hD
      refine lv_iload hx hb dL_law_1607 (lv_at hl 1 rfl) ?_
      refine lv_icmp_eq (tgt := 1614) hx hb dL_law_1609 (by decide) (fun c_8857 => ?_) (fun c_8857 => ?_)
      · skip
        refine lv_iload hx hb dL_law_1614 (lv_at hl 1 rfl) ?_
        refine lv_if_ne (tgt := 1630) hx hb dL_law_1616 (by decide) (fun c_8858 => ?_) (fun c_8858 => ?_)
        · exact absurd (by decide) c_8858
        · skip
          refine lv_aload_n hx hb dL_law_1619 rfl (lv_at hl 5 rfl) ?_
          refine lv_iconst (v := 0) hx hb dL_law_1620 (by decide) ?_
          refine va_lald hx hb hK hP 1 1 rfl rfl (show vp_in 0 1 by unfold vp_in; decide) dL_law_1621 ?_
          refine W.eq (g2 := F0 m 1622 ls [.long (n_cut (xs 2) (n_combine (xs 1) 0 (n_cut (xs 2) ((((xs 4).toInt64) <<< ((32 : Int32).toInt64 &&& 63)) ||| (((xs 5).toInt64) &&& 4294967295))) (n_cut (xs 3) ((((xs 6).toInt64) <<< ((32 : Int32).toInt64 &&& 63)) ||| (((xs 7).toInt64) &&& 4294967295)))))]) rfl ?_
          refine lv_lload hx hb dL_law_1622 (lv_at hl 0 rfl) ?_
          refine W.lcmp hx hb dL_law_1624 ?_
          refine lv_if_eq (tgt := 1630) hx hb dL_law_1625 (by decide) (fun c_8859 => ?_) (fun c_8859 => ?_)
          · skip
            refine lv_goto (tgt := 1804) hx hb dL_law_1630 (by decide) ?_
            exact lk_tail hC hA2 (lv_sub hl [2, 6] rfl) hS (Nat.le_of_ble_eq_true rfl) (Nat.le_of_ble_eq_true rfl)
          · exact absurd ((lg_cmp_eq _ _).mpr (qx_w0 c_82 c_8619 c_78 c_79 c_85 c_80 c_81 (fun _ => c_87) (fun q => c_84 q.2) (by rw [c_8627]; decide))) c_8859
      · exact absurd (by decide) c_8857
    · skip
      subst w_8650
      subst w_8651
      exact absurd c_8649 c_87
    · skip
      subst w_8665
      subst w_8666
      exact absurd c_8663 c_84
    · skip
      subst w_8682
      subst w_8683
      exact absurd c_8678 c_84
    · skip
      subst w_8699
      subst w_8700
      exact absurd c_8695 c_84
    · skip
      subst w_8713
      subst w_8714
      exact absurd c_8712 c_85
    · skip
      subst w_8729
      subst w_8730
      obtain ⟨hP, hD⟩ := va_join (wr := [(h0, .inr (10, [.ref x0, .int 0, .ref x1, .ref x2, .ref x3, .ref x4, .ref x5, .ref x6, .ref x7, .ref x8, .int 0, .int 3000])), (o0, .inl (kA 1, 1, .inr (.inl (vp_updL (fun _ => 0) 0 (n_cut (xs 2) (n_combine (xs 1) 0 (n_cut (xs 2) ((((xs 4).toInt64) <<< ((32 : Int32).toInt64 &&& 63)) ||| (((xs 5).toInt64) &&& 4294967295))) (n_cut (xs 3) ((((xs 6).toInt64) <<< ((32 : Int32).toInt64 &&& 63)) ||| (((xs 7).toInt64) &&& 4294967295)))))))))]) (w1 := [(m0, .inr (11, y0.set 9 (.int 0)))]) hP hD [0] [1, 2] rfl rfl (by decide) (by decide) hk1 hFc hP1 hD1
      generalize H1 = H at hP hS ⊢
      have hP : va_P D vwCl [(h0, .inr (10, [.ref x0, .int 0, .ref x1, .ref x2, .ref x3, .ref x4, .ref x5, .ref x6, .ref x7, .ref x8, .int 0, .int 3000])), (o0, .inl (kA 1, 1, .inr (.inl (vp_updL (fun _ => 0) 0 (n_cut (xs 2) (n_combine (xs 1) 0 (n_cut (xs 2) ((((xs 4).toInt64) <<< ((32 : Int32).toInt64 &&& 63)) ||| (((xs 5).toInt64) &&& 4294967295))) (n_cut (xs 3) ((((xs 6).toInt64) <<< ((32 : Int32).toInt64 &&& 63)) ||| (((xs 7).toInt64) &&& 4294967295))))))))), (m0, .inr (11, y0.set 9 (.int 0)))] H := hP
      have hD : va_D A [(h0, .inr (10, [.ref x0, .int 0, .ref x1, .ref x2, .ref x3, .ref x4, .ref x5, .ref x6, .ref x7, .ref x8, .int 0, .int 3000])), (o0, .inl (kA 1, 1, .inr (.inl (vp_updL (fun _ => 0) 0 (n_cut (xs 2) (n_combine (xs 1) 0 (n_cut (xs 2) ((((xs 4).toInt64) <<< ((32 : Int32).toInt64 &&& 63)) ||| (((xs 5).toInt64) &&& 4294967295))) (n_cut (xs 3) ((((xs 6).toInt64) <<< ((32 : Int32).toInt64 &&& 63)) ||| (((xs 7).toInt64) &&& 4294967295))))))))), (m0, .inr (11, y0.set 9 (.int 0)))] := hD
      refine lv_lstore (lv' := [(6, .long (n_cut (xs 2) (r_two 242 0 (n_cut (xs 2) ((((xs 4).toInt64) <<< ((32 : Int32).toInt64 &&& 63)) ||| (((xs 5).toInt64) &&& 4294967295))) (n_cut (xs 3) ((((xs 6).toInt64) <<< ((32 : Int32).toInt64 &&& 63)) ||| (((xs 7).toInt64) &&& 4294967295)))))), (5, .int 0), (0, .ref b), (1, .ref h0), (2, .ref m0), (3, .ref o0), (4, .int 0)]) hx hb dL_law_1601 hl (by decide) rfl (fun ls hl => ?_)
      refine lv_aload_n hx hb dL_law_1603 rfl (lv_at hl 4 rfl) ?_
      have hPc := hP.sub (ws' := [(m0, .inr (11, y0.set 9 (.int 0)))]) [2] rfl
      have hDc := hD.sub (ws' := [(m0, .inr (11, y0.set 9 (.int 0)))]) [2] (by decide) rfl
      have hFc := va_free (wc := [(m0, .inr (11, y0.set 9 (.int 0)))]) hD hS hA [2] rfl
      refine va_calli (va_runV (As := []) (rest := []) ⟨hx, hb, hml, hown, hts⟩ (a94_X12_thrown l  D kA V H.size m0 (y0.set 9 (.int 0)) (fun k hk => (by rw [List.length_set]; exact (hq k hk))) (List.getElem?_set_self (hq 9 (by decide)))) (cwV 0 hts (gw_V gw_1879 gw_1880 gw_1881 gw_16 gw_1882) rfl rfl rfl (by decide +kernel) ⟨(Nat.le_of_ble_eq_true rfl), (Nat.le_of_ble_eq_true rfl)⟩) ⟨aP.blind, va_recv hK hP (ci := 11) (q0 := 2) rfl rfl, aP.pre hE hS hPc hK hDc hFc⟩ rfl rfl hl.1 rfl (lv_room (Nat.le_of_ble_eq_true rfl)) dL_law_1604 ⟨(Nat.le_of_ble_eq_true rfl), (Nat.le_of_ble_eq_true rfl)⟩) hS (fun q _ h => hFc q h) hFc (fun r_8860 u t H1 locs ht hvm hw hB hz1 hk1 hS => ?_)
      obtain ⟨hP1, hD1⟩ := hB
      rw [ht] at hP1
      try dsimp only at hw hP1 hD1
      have w_8861 := hw
      subst w_8861
      obtain ⟨hP, hD⟩ := va_join (wr := [(h0, .inr (10, [.ref x0, .int 0, .ref x1, .ref x2, .ref x3, .ref x4, .ref x5, .ref x6, .ref x7, .ref x8, .int 0, .int 3000])), (o0, .inl (kA 1, 1, .inr (.inl (vp_updL (fun _ => 0) 0 (n_cut (xs 2) (n_combine (xs 1) 0 (n_cut (xs 2) ((((xs 4).toInt64) <<< ((32 : Int32).toInt64 &&& 63)) ||| (((xs 5).toInt64) &&& 4294967295))) (n_cut (xs 3) ((((xs 6).toInt64) <<< ((32 : Int32).toInt64 &&& 63)) ||| (((xs 7).toInt64) &&& 4294967295)))))))))]) (w1 := [(m0, .inr (11, (y0.set 9 (.int 0))))]) hP hD [2] [0, 1] rfl rfl (by decide) (by decide) hk1 hFc hP1 hD1
      generalize H1 = H at hP hS ⊢
      have hP : va_P D vwCl [(h0, .inr (10, [.ref x0, .int 0, .ref x1, .ref x2, .ref x3, .ref x4, .ref x5, .ref x6, .ref x7, .ref x8, .int 0, .int 3000])), (o0, .inl (kA 1, 1, .inr (.inl (vp_updL (fun _ => 0) 0 (n_cut (xs 2) (n_combine (xs 1) 0 (n_cut (xs 2) ((((xs 4).toInt64) <<< ((32 : Int32).toInt64 &&& 63)) ||| (((xs 5).toInt64) &&& 4294967295))) (n_cut (xs 3) ((((xs 6).toInt64) <<< ((32 : Int32).toInt64 &&& 63)) ||| (((xs 7).toInt64) &&& 4294967295))))))))), (m0, .inr (11, (y0.set 9 (.int 0))))] H := hP
      have hD : va_D A [(h0, .inr (10, [.ref x0, .int 0, .ref x1, .ref x2, .ref x3, .ref x4, .ref x5, .ref x6, .ref x7, .ref x8, .int 0, .int 3000])), (o0, .inl (kA 1, 1, .inr (.inl (vp_updL (fun _ => 0) 0 (n_cut (xs 2) (n_combine (xs 1) 0 (n_cut (xs 2) ((((xs 4).toInt64) <<< ((32 : Int32).toInt64 &&& 63)) ||| (((xs 5).toInt64) &&& 4294967295))) (n_cut (xs 3) ((((xs 6).toInt64) <<< ((32 : Int32).toInt64 &&& 63)) ||| (((xs 7).toInt64) &&& 4294967295))))))))), (m0, .inr (11, (y0.set 9 (.int 0))))] := hD
      refine lv_iload hx hb dL_law_1607 (lv_at hl 1 rfl) ?_
      refine lv_icmp_eq (tgt := 1614) hx hb dL_law_1609 (by decide) (fun c_8862 => ?_) (fun c_8862 => ?_)
      · skip
        refine lv_iload hx hb dL_law_1614 (lv_at hl 1 rfl) ?_
        refine lv_if_ne (tgt := 1630) hx hb dL_law_1616 (by decide) (fun c_8863 => ?_) (fun c_8863 => ?_)
        · exact absurd (by decide) c_8863
        · skip
          refine lv_aload_n hx hb dL_law_1619 rfl (lv_at hl 5 rfl) ?_
          refine lv_iconst (v := 0) hx hb dL_law_1620 (by decide) ?_
          refine va_lald hx hb hK hP 1 1 rfl rfl (show vp_in 0 1 by unfold vp_in; decide) dL_law_1621 ?_
          refine W.eq (g2 := F0 m 1622 ls [.long (n_cut (xs 2) (n_combine (xs 1) 0 (n_cut (xs 2) ((((xs 4).toInt64) <<< ((32 : Int32).toInt64 &&& 63)) ||| (((xs 5).toInt64) &&& 4294967295))) (n_cut (xs 3) ((((xs 6).toInt64) <<< ((32 : Int32).toInt64 &&& 63)) ||| (((xs 7).toInt64) &&& 4294967295)))))]) rfl ?_
          refine lv_lload hx hb dL_law_1622 (lv_at hl 0 rfl) ?_
          refine W.lcmp hx hb dL_law_1624 ?_
          refine lv_if_eq (tgt := 1630) hx hb dL_law_1625 (by decide) (fun c_8864 => ?_) (fun c_8864 => ?_)
          · skip
            refine lv_goto (tgt := 1804) hx hb dL_law_1630 (by decide) ?_
            exact lk_tail hC hA2 (lv_sub hl [2, 6] rfl) hS (Nat.le_of_ble_eq_true rfl) (Nat.le_of_ble_eq_true rfl)
          · exact absurd ((lg_cmp_eq _ _).mpr (qx_w0 c_82 c_8716 c_78 c_79 c_85 c_80 c_81 (fun _ => c_87) (fun q => c_84 q.2) (by rw [c_8723]; decide))) c_8864
      · exact absurd (by decide) c_8862
    · skip
      subst w_8745
      subst w_8746
      exact absurd c_8744 c_87
    · skip
      subst w_8758
      subst w_8759
      exact absurd c_8757 c_85
    · skip
      subst w_8773
      subst w_8774
      obtain ⟨hP, hD⟩ := va_join (wr := [(h0, .inr (10, [.ref x0, .int 0, .ref x1, .ref x2, .ref x3, .ref x4, .ref x5, .ref x6, .ref x7, .ref x8, .int 0, .int 3000])), (o0, .inl (kA 1, 1, .inr (.inl (vp_updL (fun _ => 0) 0 (n_cut (xs 2) (n_combine (xs 1) 0 (n_cut (xs 2) ((((xs 4).toInt64) <<< ((32 : Int32).toInt64 &&& 63)) ||| (((xs 5).toInt64) &&& 4294967295))) (n_cut (xs 3) ((((xs 6).toInt64) <<< ((32 : Int32).toInt64 &&& 63)) ||| (((xs 7).toInt64) &&& 4294967295)))))))))]) (w1 := [(m0, .inr (11, y0.set 9 (.int 0)))]) hP hD [0] [1, 2] rfl rfl (by decide) (by decide) hk1 hFc hP1 hD1
      generalize H1 = H at hP hS ⊢
      have hP : va_P D vwCl [(h0, .inr (10, [.ref x0, .int 0, .ref x1, .ref x2, .ref x3, .ref x4, .ref x5, .ref x6, .ref x7, .ref x8, .int 0, .int 3000])), (o0, .inl (kA 1, 1, .inr (.inl (vp_updL (fun _ => 0) 0 (n_cut (xs 2) (n_combine (xs 1) 0 (n_cut (xs 2) ((((xs 4).toInt64) <<< ((32 : Int32).toInt64 &&& 63)) ||| (((xs 5).toInt64) &&& 4294967295))) (n_cut (xs 3) ((((xs 6).toInt64) <<< ((32 : Int32).toInt64 &&& 63)) ||| (((xs 7).toInt64) &&& 4294967295))))))))), (m0, .inr (11, y0.set 9 (.int 0)))] H := hP
      have hD : va_D A [(h0, .inr (10, [.ref x0, .int 0, .ref x1, .ref x2, .ref x3, .ref x4, .ref x5, .ref x6, .ref x7, .ref x8, .int 0, .int 3000])), (o0, .inl (kA 1, 1, .inr (.inl (vp_updL (fun _ => 0) 0 (n_cut (xs 2) (n_combine (xs 1) 0 (n_cut (xs 2) ((((xs 4).toInt64) <<< ((32 : Int32).toInt64 &&& 63)) ||| (((xs 5).toInt64) &&& 4294967295))) (n_cut (xs 3) ((((xs 6).toInt64) <<< ((32 : Int32).toInt64 &&& 63)) ||| (((xs 7).toInt64) &&& 4294967295))))))))), (m0, .inr (11, y0.set 9 (.int 0)))] := hD
      refine lv_lstore (lv' := [(6, .long (n_cut (xs 2) (r_two 241 0 (n_cut (xs 2) ((((xs 4).toInt64) <<< ((32 : Int32).toInt64 &&& 63)) ||| (((xs 5).toInt64) &&& 4294967295))) (n_cut (xs 3) ((((xs 6).toInt64) <<< ((32 : Int32).toInt64 &&& 63)) ||| (((xs 7).toInt64) &&& 4294967295)))))), (5, .int 0), (0, .ref b), (1, .ref h0), (2, .ref m0), (3, .ref o0), (4, .int 0)]) hx hb dL_law_1601 hl (by decide) rfl (fun ls hl => ?_)
      refine lv_aload_n hx hb dL_law_1603 rfl (lv_at hl 4 rfl) ?_
      have hPc := hP.sub (ws' := [(m0, .inr (11, y0.set 9 (.int 0)))]) [2] rfl
      have hDc := hD.sub (ws' := [(m0, .inr (11, y0.set 9 (.int 0)))]) [2] (by decide) rfl
      have hFc := va_free (wc := [(m0, .inr (11, y0.set 9 (.int 0)))]) hD hS hA [2] rfl
      refine va_calli (va_runV (As := []) (rest := []) ⟨hx, hb, hml, hown, hts⟩ (a94_X12_thrown l  D kA V H.size m0 (y0.set 9 (.int 0)) (fun k hk => (by rw [List.length_set]; exact (hq k hk))) (List.getElem?_set_self (hq 9 (by decide)))) (cwV 0 hts (gw_V gw_1879 gw_1880 gw_1881 gw_16 gw_1882) rfl rfl rfl (by decide +kernel) ⟨(Nat.le_of_ble_eq_true rfl), (Nat.le_of_ble_eq_true rfl)⟩) ⟨aP.blind, va_recv hK hP (ci := 11) (q0 := 2) rfl rfl, aP.pre hE hS hPc hK hDc hFc⟩ rfl rfl hl.1 rfl (lv_room (Nat.le_of_ble_eq_true rfl)) dL_law_1604 ⟨(Nat.le_of_ble_eq_true rfl), (Nat.le_of_ble_eq_true rfl)⟩) hS (fun q _ h => hFc q h) hFc (fun r_8865 u t H1 locs ht hvm hw hB hz1 hk1 hS => ?_)
      obtain ⟨hP1, hD1⟩ := hB
      rw [ht] at hP1
      try dsimp only at hw hP1 hD1
      have w_8866 := hw
      subst w_8866
      obtain ⟨hP, hD⟩ := va_join (wr := [(h0, .inr (10, [.ref x0, .int 0, .ref x1, .ref x2, .ref x3, .ref x4, .ref x5, .ref x6, .ref x7, .ref x8, .int 0, .int 3000])), (o0, .inl (kA 1, 1, .inr (.inl (vp_updL (fun _ => 0) 0 (n_cut (xs 2) (n_combine (xs 1) 0 (n_cut (xs 2) ((((xs 4).toInt64) <<< ((32 : Int32).toInt64 &&& 63)) ||| (((xs 5).toInt64) &&& 4294967295))) (n_cut (xs 3) ((((xs 6).toInt64) <<< ((32 : Int32).toInt64 &&& 63)) ||| (((xs 7).toInt64) &&& 4294967295)))))))))]) (w1 := [(m0, .inr (11, (y0.set 9 (.int 0))))]) hP hD [2] [0, 1] rfl rfl (by decide) (by decide) hk1 hFc hP1 hD1
      generalize H1 = H at hP hS ⊢
      have hP : va_P D vwCl [(h0, .inr (10, [.ref x0, .int 0, .ref x1, .ref x2, .ref x3, .ref x4, .ref x5, .ref x6, .ref x7, .ref x8, .int 0, .int 3000])), (o0, .inl (kA 1, 1, .inr (.inl (vp_updL (fun _ => 0) 0 (n_cut (xs 2) (n_combine (xs 1) 0 (n_cut (xs 2) ((((xs 4).toInt64) <<< ((32 : Int32).toInt64 &&& 63)) ||| (((xs 5).toInt64) &&& 4294967295))) (n_cut (xs 3) ((((xs 6).toInt64) <<< ((32 : Int32).toInt64 &&& 63)) ||| (((xs 7).toInt64) &&& 4294967295))))))))), (m0, .inr (11, (y0.set 9 (.int 0))))] H := hP
      have hD : va_D A [(h0, .inr (10, [.ref x0, .int 0, .ref x1, .ref x2, .ref x3, .ref x4, .ref x5, .ref x6, .ref x7, .ref x8, .int 0, .int 3000])), (o0, .inl (kA 1, 1, .inr (.inl (vp_updL (fun _ => 0) 0 (n_cut (xs 2) (n_combine (xs 1) 0 (n_cut (xs 2) ((((xs 4).toInt64) <<< ((32 : Int32).toInt64 &&& 63)) ||| (((xs 5).toInt64) &&& 4294967295))) (n_cut (xs 3) ((((xs 6).toInt64) <<< ((32 : Int32).toInt64 &&& 63)) ||| (((xs 7).toInt64) &&& 4294967295))))))))), (m0, .inr (11, (y0.set 9 (.int 0))))] := hD
      refine lv_iload hx hb dL_law_1607 (lv_at hl 1 rfl) ?_
      refine lv_icmp_eq (tgt := 1614) hx hb dL_law_1609 (by decide) (fun c_8867 => ?_) (fun c_8867 => ?_)
      · skip
        refine lv_iload hx hb dL_law_1614 (lv_at hl 1 rfl) ?_
        refine lv_if_ne (tgt := 1630) hx hb dL_law_1616 (by decide) (fun c_8868 => ?_) (fun c_8868 => ?_)
        · exact absurd (by decide) c_8868
        · skip
          refine lv_aload_n hx hb dL_law_1619 rfl (lv_at hl 5 rfl) ?_
          refine lv_iconst (v := 0) hx hb dL_law_1620 (by decide) ?_
          refine va_lald hx hb hK hP 1 1 rfl rfl (show vp_in 0 1 by unfold vp_in; decide) dL_law_1621 ?_
          refine W.eq (g2 := F0 m 1622 ls [.long (n_cut (xs 2) (n_combine (xs 1) 0 (n_cut (xs 2) ((((xs 4).toInt64) <<< ((32 : Int32).toInt64 &&& 63)) ||| (((xs 5).toInt64) &&& 4294967295))) (n_cut (xs 3) ((((xs 6).toInt64) <<< ((32 : Int32).toInt64 &&& 63)) ||| (((xs 7).toInt64) &&& 4294967295)))))]) rfl ?_
          refine lv_lload hx hb dL_law_1622 (lv_at hl 0 rfl) ?_
          refine W.lcmp hx hb dL_law_1624 ?_
          refine lv_if_eq (tgt := 1630) hx hb dL_law_1625 (by decide) (fun c_8869 => ?_) (fun c_8869 => ?_)
          · skip
            refine lv_goto (tgt := 1804) hx hb dL_law_1630 (by decide) ?_
            exact lk_tail hC hA2 (lv_sub hl [2, 6] rfl) hS (Nat.le_of_ble_eq_true rfl) (Nat.le_of_ble_eq_true rfl)
          · exact absurd ((lg_cmp_eq _ _).mpr (qx_w0 c_82 c_8761 c_78 c_79 c_85 c_80 c_81 (fun _ => c_87) (fun q => c_84 q.2) (by rw [c_8767]; decide))) c_8869
      · exact absurd (by decide) c_8867
    · skip
      subst w_8788
      subst w_8789
      exact absurd c_8787 c_87
    · skip
      subst w_8800
      subst w_8801
      exact absurd c_8799 c_85
    · skip
      subst w_8814
      subst w_8815
      obtain ⟨hP, hD⟩ := va_join (wr := [(h0, .inr (10, [.ref x0, .int 0, .ref x1, .ref x2, .ref x3, .ref x4, .ref x5, .ref x6, .ref x7, .ref x8, .int 0, .int 3000])), (o0, .inl (kA 1, 1, .inr (.inl (vp_updL (fun _ => 0) 0 (n_cut (xs 2) (n_combine (xs 1) 0 (n_cut (xs 2) ((((xs 4).toInt64) <<< ((32 : Int32).toInt64 &&& 63)) ||| (((xs 5).toInt64) &&& 4294967295))) (n_cut (xs 3) ((((xs 6).toInt64) <<< ((32 : Int32).toInt64 &&& 63)) ||| (((xs 7).toInt64) &&& 4294967295)))))))))]) (w1 := [(m0, .inr (11, y0.set 9 (.int 0)))]) hP hD [0] [1, 2] rfl rfl (by decide) (by decide) hk1 hFc hP1 hD1
      generalize H1 = H at hP hS ⊢
      have hP : va_P D vwCl [(h0, .inr (10, [.ref x0, .int 0, .ref x1, .ref x2, .ref x3, .ref x4, .ref x5, .ref x6, .ref x7, .ref x8, .int 0, .int 3000])), (o0, .inl (kA 1, 1, .inr (.inl (vp_updL (fun _ => 0) 0 (n_cut (xs 2) (n_combine (xs 1) 0 (n_cut (xs 2) ((((xs 4).toInt64) <<< ((32 : Int32).toInt64 &&& 63)) ||| (((xs 5).toInt64) &&& 4294967295))) (n_cut (xs 3) ((((xs 6).toInt64) <<< ((32 : Int32).toInt64 &&& 63)) ||| (((xs 7).toInt64) &&& 4294967295))))))))), (m0, .inr (11, y0.set 9 (.int 0)))] H := hP
      have hD : va_D A [(h0, .inr (10, [.ref x0, .int 0, .ref x1, .ref x2, .ref x3, .ref x4, .ref x5, .ref x6, .ref x7, .ref x8, .int 0, .int 3000])), (o0, .inl (kA 1, 1, .inr (.inl (vp_updL (fun _ => 0) 0 (n_cut (xs 2) (n_combine (xs 1) 0 (n_cut (xs 2) ((((xs 4).toInt64) <<< ((32 : Int32).toInt64 &&& 63)) ||| (((xs 5).toInt64) &&& 4294967295))) (n_cut (xs 3) ((((xs 6).toInt64) <<< ((32 : Int32).toInt64 &&& 63)) ||| (((xs 7).toInt64) &&& 4294967295))))))))), (m0, .inr (11, y0.set 9 (.int 0)))] := hD
      refine lv_lstore (lv' := [(6, .long (n_cut (xs 2) (r_two 240 0 (n_cut (xs 2) ((((xs 4).toInt64) <<< ((32 : Int32).toInt64 &&& 63)) ||| (((xs 5).toInt64) &&& 4294967295))) (n_cut (xs 3) ((((xs 6).toInt64) <<< ((32 : Int32).toInt64 &&& 63)) ||| (((xs 7).toInt64) &&& 4294967295)))))), (5, .int 0), (0, .ref b), (1, .ref h0), (2, .ref m0), (3, .ref o0), (4, .int 0)]) hx hb dL_law_1601 hl (by decide) rfl (fun ls hl => ?_)
      refine lv_aload_n hx hb dL_law_1603 rfl (lv_at hl 4 rfl) ?_
      have hPc := hP.sub (ws' := [(m0, .inr (11, y0.set 9 (.int 0)))]) [2] rfl
      have hDc := hD.sub (ws' := [(m0, .inr (11, y0.set 9 (.int 0)))]) [2] (by decide) rfl
      have hFc := va_free (wc := [(m0, .inr (11, y0.set 9 (.int 0)))]) hD hS hA [2] rfl
      refine va_calli (va_runV (As := []) (rest := []) ⟨hx, hb, hml, hown, hts⟩ (a94_X12_thrown l  D kA V H.size m0 (y0.set 9 (.int 0)) (fun k hk => (by rw [List.length_set]; exact (hq k hk))) (List.getElem?_set_self (hq 9 (by decide)))) (cwV 0 hts (gw_V gw_1879 gw_1880 gw_1881 gw_16 gw_1882) rfl rfl rfl (by decide +kernel) ⟨(Nat.le_of_ble_eq_true rfl), (Nat.le_of_ble_eq_true rfl)⟩) ⟨aP.blind, va_recv hK hP (ci := 11) (q0 := 2) rfl rfl, aP.pre hE hS hPc hK hDc hFc⟩ rfl rfl hl.1 rfl (lv_room (Nat.le_of_ble_eq_true rfl)) dL_law_1604 ⟨(Nat.le_of_ble_eq_true rfl), (Nat.le_of_ble_eq_true rfl)⟩) hS (fun q _ h => hFc q h) hFc (fun r_8870 u t H1 locs ht hvm hw hB hz1 hk1 hS => ?_)
      obtain ⟨hP1, hD1⟩ := hB
      rw [ht] at hP1
      try dsimp only at hw hP1 hD1
      have w_8871 := hw
      subst w_8871
      obtain ⟨hP, hD⟩ := va_join (wr := [(h0, .inr (10, [.ref x0, .int 0, .ref x1, .ref x2, .ref x3, .ref x4, .ref x5, .ref x6, .ref x7, .ref x8, .int 0, .int 3000])), (o0, .inl (kA 1, 1, .inr (.inl (vp_updL (fun _ => 0) 0 (n_cut (xs 2) (n_combine (xs 1) 0 (n_cut (xs 2) ((((xs 4).toInt64) <<< ((32 : Int32).toInt64 &&& 63)) ||| (((xs 5).toInt64) &&& 4294967295))) (n_cut (xs 3) ((((xs 6).toInt64) <<< ((32 : Int32).toInt64 &&& 63)) ||| (((xs 7).toInt64) &&& 4294967295)))))))))]) (w1 := [(m0, .inr (11, (y0.set 9 (.int 0))))]) hP hD [2] [0, 1] rfl rfl (by decide) (by decide) hk1 hFc hP1 hD1
      generalize H1 = H at hP hS ⊢
      have hP : va_P D vwCl [(h0, .inr (10, [.ref x0, .int 0, .ref x1, .ref x2, .ref x3, .ref x4, .ref x5, .ref x6, .ref x7, .ref x8, .int 0, .int 3000])), (o0, .inl (kA 1, 1, .inr (.inl (vp_updL (fun _ => 0) 0 (n_cut (xs 2) (n_combine (xs 1) 0 (n_cut (xs 2) ((((xs 4).toInt64) <<< ((32 : Int32).toInt64 &&& 63)) ||| (((xs 5).toInt64) &&& 4294967295))) (n_cut (xs 3) ((((xs 6).toInt64) <<< ((32 : Int32).toInt64 &&& 63)) ||| (((xs 7).toInt64) &&& 4294967295))))))))), (m0, .inr (11, (y0.set 9 (.int 0))))] H := hP
      have hD : va_D A [(h0, .inr (10, [.ref x0, .int 0, .ref x1, .ref x2, .ref x3, .ref x4, .ref x5, .ref x6, .ref x7, .ref x8, .int 0, .int 3000])), (o0, .inl (kA 1, 1, .inr (.inl (vp_updL (fun _ => 0) 0 (n_cut (xs 2) (n_combine (xs 1) 0 (n_cut (xs 2) ((((xs 4).toInt64) <<< ((32 : Int32).toInt64 &&& 63)) ||| (((xs 5).toInt64) &&& 4294967295))) (n_cut (xs 3) ((((xs 6).toInt64) <<< ((32 : Int32).toInt64 &&& 63)) ||| (((xs 7).toInt64) &&& 4294967295))))))))), (m0, .inr (11, (y0.set 9 (.int 0))))] := hD
      refine lv_iload hx hb dL_law_1607 (lv_at hl 1 rfl) ?_
      refine lv_icmp_eq (tgt := 1614) hx hb dL_law_1609 (by decide) (fun c_8872 => ?_) (fun c_8872 => ?_)
      · skip
        refine lv_iload hx hb dL_law_1614 (lv_at hl 1 rfl) ?_
        refine lv_if_ne (tgt := 1630) hx hb dL_law_1616 (by decide) (fun c_8873 => ?_) (fun c_8873 => ?_)
        · exact absurd (by decide) c_8873
        · skip
          refine lv_aload_n hx hb dL_law_1619 rfl (lv_at hl 5 rfl) ?_
          refine lv_iconst (v := 0) hx hb dL_law_1620 (by decide) ?_
          refine va_lald hx hb hK hP 1 1 rfl rfl (show vp_in 0 1 by unfold vp_in; decide) dL_law_1621 ?_
          refine W.eq (g2 := F0 m 1622 ls [.long (n_cut (xs 2) (n_combine (xs 1) 0 (n_cut (xs 2) ((((xs 4).toInt64) <<< ((32 : Int32).toInt64 &&& 63)) ||| (((xs 5).toInt64) &&& 4294967295))) (n_cut (xs 3) ((((xs 6).toInt64) <<< ((32 : Int32).toInt64 &&& 63)) ||| (((xs 7).toInt64) &&& 4294967295)))))]) rfl ?_
          refine lv_lload hx hb dL_law_1622 (lv_at hl 0 rfl) ?_
          refine W.lcmp hx hb dL_law_1624 ?_
          refine lv_if_eq (tgt := 1630) hx hb dL_law_1625 (by decide) (fun c_8874 => ?_) (fun c_8874 => ?_)
          · skip
            refine lv_goto (tgt := 1804) hx hb dL_law_1630 (by decide) ?_
            exact lk_tail hC hA2 (lv_sub hl [2, 6] rfl) hS (Nat.le_of_ble_eq_true rfl) (Nat.le_of_ble_eq_true rfl)
          · exact absurd ((lg_cmp_eq _ _).mpr (qx_w0 c_82 c_8803 c_78 c_79 c_85 c_80 c_81 (fun _ => c_87) (fun q => c_84 q.2) (by rw [c_8808]; decide))) c_8874
      · exact absurd (by decide) c_8872
    · skip
      subst w_8828
      subst w_8829
      exact absurd c_8827 c_87
  · skip
    subst w_100
    subst w_101
    obtain ⟨hP, hD⟩ := va_join (wr := [(m0, .inr (11, y0))]) (w1 := [(h0, .inr (10, [.ref x0, .int 0, .ref x1, .ref x2, .ref x3, .ref x4, .ref x5, .ref x6, .ref x7, .ref x8, .int 0, .int 3000])), (o0, .inl (kA 1, 1, .inr (.inl (vp_updL (fun _ => 0) 0 (n_cut (xs 2) (n_combine (xs 1) 1 (n_cut (xs 2) ((((xs 4).toInt64) <<< ((32 : Int32).toInt64 &&& 63)) ||| (((xs 5).toInt64) &&& 4294967295))) (n_cut (xs 3) ((((xs 6).toInt64) <<< ((32 : Int32).toInt64 &&& 63)) ||| (((xs 7).toInt64) &&& 4294967295)))))))))]) hP hD [0, 2] [1] rfl rfl (by decide) (by decide) hk1 hFc hP1 hD1
    generalize H1 = H at hP hS ⊢
    have hP : va_P D vwCl [(m0, .inr (11, y0)), (h0, .inr (10, [.ref x0, .int 0, .ref x1, .ref x2, .ref x3, .ref x4, .ref x5, .ref x6, .ref x7, .ref x8, .int 0, .int 3000])), (o0, .inl (kA 1, 1, .inr (.inl (vp_updL (fun _ => 0) 0 (n_cut (xs 2) (n_combine (xs 1) 1 (n_cut (xs 2) ((((xs 4).toInt64) <<< ((32 : Int32).toInt64 &&& 63)) ||| (((xs 5).toInt64) &&& 4294967295))) (n_cut (xs 3) ((((xs 6).toInt64) <<< ((32 : Int32).toInt64 &&& 63)) ||| (((xs 7).toInt64) &&& 4294967295)))))))))] H := hP
    have hD : va_D A [(m0, .inr (11, y0)), (h0, .inr (10, [.ref x0, .int 0, .ref x1, .ref x2, .ref x3, .ref x4, .ref x5, .ref x6, .ref x7, .ref x8, .int 0, .int 3000])), (o0, .inl (kA 1, 1, .inr (.inl (vp_updL (fun _ => 0) 0 (n_cut (xs 2) (n_combine (xs 1) 1 (n_cut (xs 2) ((((xs 4).toInt64) <<< ((32 : Int32).toInt64 &&& 63)) ||| (((xs 5).toInt64) &&& 4294967295))) (n_cut (xs 3) ((((xs 6).toInt64) <<< ((32 : Int32).toInt64 &&& 63)) ||| (((xs 7).toInt64) &&& 4294967295)))))))))] := hD
    refine lv_istore (lv' := [(5, .int 0), (0, .ref b), (1, .ref h0), (2, .ref m0), (3, .ref o0), (4, .int 0)]) hx hb dL_law_1531 hl (by decide) rfl (fun ls hl => ?_)
    refine lv_aload_n hx hb dL_law_1533 rfl (lv_at hl 3 rfl) ?_
    refine lv_aload_n hx hb dL_law_1534 rfl (lv_at hl 1 rfl) ?_
    refine lv_iload hx hb dL_law_1535 (lv_at hl 5 rfl) ?_
    refine lv_iconst (v := 1) hx hb dL_law_1537 (by decide) ?_
    refine lv_iadd hx hb dL_law_1538 ?_
    refine W.eq (g2 := F0 m 1539 ls [.int 1, .ref b, .ref m0]) rfl ?_
    refine va_sld hx hb hX hbl hbA hS (show vp_in 1 8 by unfold vp_in; decide) dL_law_1539 ?_
    refine W.eq (g2 := F0 m 1540 ls [.int (xs 1), .ref m0]) rfl ?_
    refine lv_aload_n hx hb dL_law_1540 rfl (lv_at hl 1 rfl) ?_
    refine lv_iload hx hb dL_law_1541 (lv_at hl 5 rfl) ?_
    refine lv_iconst (v := 2) hx hb dL_law_1543 (by decide) ?_
    refine lv_iadd hx hb dL_law_1544 ?_
    refine W.eq (g2 := F0 m 1545 ls [.int 2, .ref b, .int (xs 1), .ref m0]) rfl ?_
    refine va_sld hx hb hX hbl hbA hS (show vp_in 2 8 by unfold vp_in; decide) dL_law_1545 ?_
    refine W.eq (g2 := F0 m 1546 ls [.int (xs 2), .int (xs 1), .ref m0]) rfl ?_
    refine lv_aload_n hx hb dL_law_1546 rfl (lv_at hl 1 rfl) ?_
    refine lv_iload hx hb dL_law_1547 (lv_at hl 5 rfl) ?_
    refine lv_iconst (v := 3) hx hb dL_law_1549 (by decide) ?_
    refine lv_iadd hx hb dL_law_1550 ?_
    refine W.eq (g2 := F0 m 1551 ls [.int 3, .ref b, .int (xs 2), .int (xs 1), .ref m0]) rfl ?_
    refine va_sld hx hb hX hbl hbA hS (show vp_in 3 8 by unfold vp_in; decide) dL_law_1551 ?_
    refine W.eq (g2 := F0 m 1552 ls [.int (xs 3), .int (xs 2), .int (xs 1), .ref m0]) rfl ?_
    refine lv_aload_n hx hb dL_law_1552 rfl (lv_at hl 1 rfl) ?_
    refine lv_iload hx hb dL_law_1553 (lv_at hl 5 rfl) ?_
    refine lv_iconst (v := 4) hx hb dL_law_1555 (by decide) ?_
    refine lv_iadd hx hb dL_law_1556 ?_
    refine W.eq (g2 := F0 m 1557 ls [.int 4, .ref b, .int (xs 3), .int (xs 2), .int (xs 1), .ref m0]) rfl ?_
    refine va_sld hx hb hX hbl hbA hS (show vp_in 4 8 by unfold vp_in; decide) dL_law_1557 ?_
    refine W.eq (g2 := F0 m 1558 ls [.int (xs 4), .int (xs 3), .int (xs 2), .int (xs 1), .ref m0]) rfl ?_
    refine lv_i2l (v := (xs 4).toInt64) hx hb dL_law_1558 rfl ?_
    refine lv_bipush (v := 32) hx hb dL_law_1559 (by decide) ?_
    refine lv_lshl (v := ((xs 4).toInt64) <<< ((32 : Int32).toInt64 &&& 63)) hx hb dL_law_1561 rfl ?_
    refine lv_aload_n hx hb dL_law_1562 rfl (lv_at hl 1 rfl) ?_
    refine lv_iload hx hb dL_law_1563 (lv_at hl 5 rfl) ?_
    refine lv_iconst (v := 5) hx hb dL_law_1565 (by decide) ?_
    refine lv_iadd hx hb dL_law_1566 ?_
    refine W.eq (g2 := F0 m 1567 ls [.int 5, .ref b, .long (((xs 4).toInt64) <<< ((32 : Int32).toInt64 &&& 63)), .int (xs 3), .int (xs 2), .int (xs 1), .ref m0]) rfl ?_
    refine va_sld hx hb hX hbl hbA hS (show vp_in 5 8 by unfold vp_in; decide) dL_law_1567 ?_
    refine W.eq (g2 := F0 m 1568 ls [.int (xs 5), .long (((xs 4).toInt64) <<< ((32 : Int32).toInt64 &&& 63)), .int (xs 3), .int (xs 2), .int (xs 1), .ref m0]) rfl ?_
    refine lv_i2l (v := (xs 5).toInt64) hx hb dL_law_1568 rfl ?_
    refine lv_ldc2 (v := 4294967295) hx hb hown (hG _ gw_2764) dL_law_1569 ?_
    refine lv_land hx hb dL_law_1572 ?_
    refine lv_lor hx hb dL_law_1573 ?_
    refine lv_aload_n hx hb dL_law_1574 rfl (lv_at hl 1 rfl) ?_
    refine lv_iload hx hb dL_law_1575 (lv_at hl 5 rfl) ?_
    refine lv_bipush (v := 6) hx hb dL_law_1577 (by decide) ?_
    refine lv_iadd hx hb dL_law_1579 ?_
    refine W.eq (g2 := F0 m 1580 ls [.int 6, .ref b, .long ((((xs 4).toInt64) <<< ((32 : Int32).toInt64 &&& 63)) ||| (((xs 5).toInt64) &&& 4294967295)), .int (xs 3), .int (xs 2), .int (xs 1), .ref m0]) rfl ?_
    refine va_sld hx hb hX hbl hbA hS (show vp_in 6 8 by unfold vp_in; decide) dL_law_1580 ?_
    refine W.eq (g2 := F0 m 1581 ls [.int (xs 6), .long ((((xs 4).toInt64) <<< ((32 : Int32).toInt64 &&& 63)) ||| (((xs 5).toInt64) &&& 4294967295)), .int (xs 3), .int (xs 2), .int (xs 1), .ref m0]) rfl ?_
    refine lv_i2l (v := (xs 6).toInt64) hx hb dL_law_1581 rfl ?_
    refine lv_bipush (v := 32) hx hb dL_law_1582 (by decide) ?_
    refine lv_lshl (v := ((xs 6).toInt64) <<< ((32 : Int32).toInt64 &&& 63)) hx hb dL_law_1584 rfl ?_
    refine lv_aload_n hx hb dL_law_1585 rfl (lv_at hl 1 rfl) ?_
    refine lv_iload hx hb dL_law_1586 (lv_at hl 5 rfl) ?_
    refine lv_bipush (v := 7) hx hb dL_law_1588 (by decide) ?_
    refine lv_iadd hx hb dL_law_1590 ?_
    refine W.eq (g2 := F0 m 1591 ls [.int 7, .ref b, .long (((xs 6).toInt64) <<< ((32 : Int32).toInt64 &&& 63)), .long ((((xs 4).toInt64) <<< ((32 : Int32).toInt64 &&& 63)) ||| (((xs 5).toInt64) &&& 4294967295)), .int (xs 3), .int (xs 2), .int (xs 1), .ref m0]) rfl ?_
    refine va_sld hx hb hX hbl hbA hS (show vp_in 7 8 by unfold vp_in; decide) dL_law_1591 ?_
    refine W.eq (g2 := F0 m 1592 ls [.int (xs 7), .long (((xs 6).toInt64) <<< ((32 : Int32).toInt64 &&& 63)), .long ((((xs 4).toInt64) <<< ((32 : Int32).toInt64 &&& 63)) ||| (((xs 5).toInt64) &&& 4294967295)), .int (xs 3), .int (xs 2), .int (xs 1), .ref m0]) rfl ?_
    refine lv_i2l (v := (xs 7).toInt64) hx hb dL_law_1592 rfl ?_
    refine lv_ldc2 (v := 4294967295) hx hb hown (hG _ gw_2764) dL_law_1593 ?_
    refine lv_land hx hb dL_law_1596 ?_
    refine lv_lor hx hb dL_law_1597 ?_
    have hPc := hP.sub (ws' := [(m0, .inr (11, y0))]) [0] rfl
    have hDc := hD.sub (ws' := [(m0, .inr (11, y0))]) [0] (by decide) rfl
    have hFc := va_free (wc := [(m0, .inr (11, y0))]) hD hS hA [0] rfl
    refine va_calll (va_runV (As := [.int (xs 1), .int (xs 2), .int (xs 3), .long ((((xs 4).toInt64) <<< ((32 : Int32).toInt64 &&& 63)) ||| (((xs 5).toInt64) &&& 4294967295)), .long ((((xs 6).toInt64) <<< ((32 : Int32).toInt64 &&& 63)) ||| (((xs 7).toInt64) &&& 4294967295))]) (rest := []) ⟨hx, hb, hml, hown, hts⟩ (a153_X12_work l  D kA V H.size m0 (xs 1) (xs 2) (xs 3) ((((xs 4).toInt64) <<< ((32 : Int32).toInt64 &&& 63)) ||| (((xs 5).toInt64) &&& 4294967295)) ((((xs 6).toInt64) <<< ((32 : Int32).toInt64 &&& 63)) ||| (((xs 7).toInt64) &&& 4294967295)) y0 (fun k hk => (hq k hk)) hq9) (cwV 5 hts (gw_V gw_2756 gw_2757 gw_2758 gw_16 gw_2759) rfl rfl rfl (by decide +kernel) ⟨(Nat.le_of_ble_eq_true rfl), (Nat.le_of_ble_eq_true rfl)⟩) ⟨aP.blind, va_recv hK hP (ci := 11) (q0 := 0) rfl rfl, aP.pre hE hS hPc hK hDc hFc⟩ rfl rfl hl.1 rfl (lv_room (Nat.le_of_ble_eq_true rfl)) dL_law_1598 ⟨(Nat.le_of_ble_eq_true rfl), (Nat.le_of_ble_eq_true rfl)⟩) hS (fun q _ h => hFc q h) hFc (fun r_8875 u t H1 locs ht hvm hw hB hz1 hk1 hS => ?_)
    obtain ⟨u_8876, rfl⟩ : ∃ z, z = u := ⟨u, rfl⟩
    obtain ⟨hP1, hD1⟩ := hB
    rw [ht] at hP1
    try dsimp only at hw hP1 hD1
    rcases hw with ⟨c_8877, c_8878, w_8879, w_8880⟩ | ⟨c_8881, c_8882, c_8883, w_8884, w_8885⟩ | ⟨c_8886, c_8887, c_8888, c_8889, w_8890, w_8891⟩ | ⟨c_8892, c_8893, c_8894, c_8895, c_8896, w_8897, w_8898⟩ | ⟨c_8899, c_8900, c_8901, c_8902, c_8903, w_8904, w_8905⟩ | ⟨c_8906, c_8907, c_8908, w_8909, w_8910⟩ | ⟨c_8911, c_8912, c_8913, c_8914, w_8915, w_8916⟩ | ⟨c_8917, c_8918, c_8919, c_8920, c_8921, w_8922, w_8923⟩ | ⟨c_8924, c_8925, c_8926, c_8927, c_8928, c_8929, w_8930, w_8931⟩ | ⟨c_8932, c_8933, c_8934, c_8935, c_8936, c_8937, w_8938, w_8939⟩ | ⟨c_8940, c_8941, c_8942, w_8943, w_8944⟩ | ⟨c_8945, c_8946, c_8947, c_8948, w_8949, w_8950⟩ | ⟨c_8951, c_8952, c_8953, c_8954, c_8955, w_8956, w_8957⟩ | ⟨c_8958, c_8959, c_8960, c_8961, c_8962, c_8963, w_8964, w_8965⟩ | ⟨c_8966, c_8967, c_8968, c_8969, c_8970, c_8971, c_8972, c_8973, c_8974, c_8975, c_8976, c_8977, c_8978, c_8979, c_8980, c_8981, c_8982, c_8983, c_8984, w_8985, w_8986⟩ | ⟨c_8987, c_8988, c_8989, c_8990, c_8991, c_8992, c_8993, c_8994, c_8995, c_8996, c_8997, c_8998, c_8999, c_9000, c_9001, c_9002, c_9003, c_9004, c_9005, c_9006, w_9007, w_9008⟩ | ⟨c_9009, c_9010, c_9011, c_9012, c_9013, c_9014, c_9015, c_9016, c_9017, c_9018, c_9019, c_9020, c_9021, c_9022, c_9023, c_9024, c_9025, c_9026, c_9027, c_9028, c_9029, w_9030, w_9031⟩ | ⟨c_9032, c_9033, c_9034, c_9035, c_9036, c_9037, c_9038, c_9039, c_9040, c_9041, c_9042, c_9043, c_9044, c_9045, c_9046, c_9047, c_9048, c_9049, c_9050, c_9051, c_9052, w_9053, w_9054⟩ | ⟨c_9055, c_9056, c_9057, c_9058, c_9059, c_9060, c_9061, c_9062, c_9063, c_9064, c_9065, c_9066, c_9067, c_9068, c_9069, c_9070, c_9071, c_9072, c_9073, w_9074, w_9075⟩ | ⟨c_9076, c_9077, c_9078, c_9079, c_9080, c_9081, c_9082, c_9083, c_9084, c_9085, c_9086, c_9087, c_9088, c_9089, c_9090, c_9091, c_9092, c_9093, c_9094, c_9095, w_9096, w_9097⟩ | ⟨c_9098, c_9099, c_9100, c_9101, c_9102, c_9103, c_9104, c_9105, c_9106, c_9107, c_9108, c_9109, c_9110, c_9111, c_9112, c_9113, c_9114, c_9115, w_9116, w_9117⟩ | ⟨c_9118, c_9119, c_9120, c_9121, c_9122, c_9123, c_9124, c_9125, c_9126, c_9127, c_9128, c_9129, c_9130, c_9131, c_9132, c_9133, c_9134, c_9135, c_9136, w_9137, w_9138⟩ | ⟨c_9139, c_9140, c_9141, c_9142, c_9143, c_9144, c_9145, c_9146, c_9147, c_9148, c_9149, c_9150, c_9151, c_9152, c_9153, c_9154, c_9155, w_9156, w_9157⟩ | ⟨c_9158, c_9159, c_9160, c_9161, c_9162, c_9163, c_9164, c_9165, c_9166, c_9167, c_9168, c_9169, c_9170, c_9171, c_9172, c_9173, c_9174, c_9175, c_9176, w_9177, w_9178⟩ | ⟨c_9179, c_9180, c_9181, c_9182, c_9183, c_9184, c_9185, c_9186, c_9187, c_9188, c_9189, c_9190, c_9191, c_9192, c_9193, c_9194, c_9195, c_9196, c_9197, w_9198, w_9199⟩ | ⟨c_9200, c_9201, c_9202, c_9203, c_9204, c_9205, c_9206, c_9207, c_9208, c_9209, c_9210, c_9211, c_9212, c_9213, c_9214, c_9215, w_9216, w_9217⟩ | ⟨c_9218, c_9219, c_9220, c_9221, c_9222, c_9223, c_9224, c_9225, c_9226, c_9227, c_9228, c_9229, c_9230, c_9231, c_9232, c_9233, c_9234, c_9235, w_9236, w_9237⟩ | ⟨c_9238, c_9239, c_9240, c_9241, c_9242, c_9243, c_9244, c_9245, c_9246, c_9247, c_9248, c_9249, c_9250, c_9251, c_9252, c_9253, c_9254, c_9255, w_9256, w_9257⟩ | ⟨c_9258, c_9259, c_9260, c_9261, c_9262, c_9263, c_9264, c_9265, c_9266, c_9267, c_9268, c_9269, c_9270, c_9271, c_9272, w_9273, w_9274⟩ | ⟨c_9275, c_9276, c_9277, c_9278, c_9279, c_9280, c_9281, c_9282, c_9283, c_9284, c_9285, c_9286, c_9287, c_9288, c_9289, c_9290, c_9291, w_9292, w_9293⟩ | ⟨c_9294, c_9295, c_9296, c_9297, c_9298, c_9299, c_9300, c_9301, c_9302, c_9303, c_9304, c_9305, c_9306, c_9307, c_9308, c_9309, c_9310, w_9311, w_9312⟩ | ⟨c_9313, c_9314, c_9315, c_9316, c_9317, c_9318, c_9319, c_9320, c_9321, c_9322, c_9323, c_9324, c_9325, c_9326, c_9327, w_9328, w_9329⟩ | ⟨c_9330, c_9331, c_9332, c_9333, c_9334, c_9335, c_9336, c_9337, c_9338, c_9339, c_9340, c_9341, c_9342, c_9343, c_9344, c_9345, c_9346, w_9347, w_9348⟩ | ⟨c_9349, c_9350, c_9351, c_9352, c_9353, c_9354, c_9355, c_9356, c_9357, c_9358, c_9359, c_9360, c_9361, c_9362, c_9363, c_9364, c_9365, w_9366, w_9367⟩ | ⟨c_9368, c_9369, c_9370, c_9371, c_9372, c_9373, c_9374, c_9375, c_9376, c_9377, c_9378, c_9379, c_9380, c_9381, c_9382, w_9383, w_9384⟩ | ⟨c_9385, c_9386, c_9387, c_9388, c_9389, c_9390, c_9391, c_9392, c_9393, c_9394, c_9395, c_9396, c_9397, c_9398, c_9399, c_9400, c_9401, w_9402, w_9403⟩ | ⟨c_9404, c_9405, c_9406, c_9407, c_9408, c_9409, c_9410, c_9411, c_9412, c_9413, c_9414, c_9415, c_9416, c_9417, c_9418, c_9419, c_9420, w_9421, w_9422⟩ | ⟨c_9423, c_9424, c_9425, c_9426, c_9427, c_9428, c_9429, c_9430, c_9431, c_9432, c_9433, c_9434, c_9435, w_9436, w_9437⟩ | ⟨c_9438, c_9439, c_9440, c_9441, c_9442, c_9443, c_9444, c_9445, c_9446, c_9447, c_9448, c_9449, c_9450, c_9451, c_9452, w_9453, w_9454⟩ | ⟨c_9455, c_9456, c_9457, c_9458, c_9459, c_9460, c_9461, c_9462, c_9463, c_9464, c_9465, c_9466, c_9467, c_9468, c_9469, w_9470, w_9471⟩ | ⟨c_9472, c_9473, c_9474, c_9475, c_9476, c_9477, c_9478, c_9479, c_9480, c_9481, c_9482, c_9483, c_9484, w_9485, w_9486⟩ | ⟨c_9487, c_9488, c_9489, c_9490, c_9491, c_9492, c_9493, c_9494, c_9495, c_9496, c_9497, c_9498, c_9499, c_9500, c_9501, w_9502, w_9503⟩ | ⟨c_9504, c_9505, c_9506, c_9507, c_9508, c_9509, c_9510, c_9511, c_9512, c_9513, c_9514, c_9515, c_9516, c_9517, c_9518, w_9519, w_9520⟩ | ⟨c_9521, c_9522, c_9523, c_9524, c_9525, c_9526, c_9527, c_9528, c_9529, c_9530, c_9531, c_9532, w_9533, w_9534⟩ | ⟨c_9535, c_9536, c_9537, c_9538, c_9539, c_9540, c_9541, c_9542, c_9543, c_9544, c_9545, c_9546, c_9547, c_9548, w_9549, w_9550⟩ | ⟨c_9551, c_9552, c_9553, c_9554, c_9555, c_9556, c_9557, c_9558, c_9559, c_9560, c_9561, c_9562, c_9563, c_9564, w_9565, w_9566⟩ | ⟨c_9567, c_9568, c_9569, c_9570, c_9571, c_9572, c_9573, c_9574, c_9575, c_9576, c_9577, w_9578, w_9579⟩ | ⟨c_9580, c_9581, c_9582, c_9583, c_9584, c_9585, c_9586, c_9587, c_9588, c_9589, c_9590, c_9591, c_9592, w_9593, w_9594⟩ | ⟨c_9595, c_9596, c_9597, c_9598, c_9599, c_9600, c_9601, c_9602, c_9603, c_9604, c_9605, c_9606, c_9607, w_9608, w_9609⟩ | ⟨c_9610, c_9611, c_9612, c_9613, c_9614, c_9615, c_9616, c_9617, c_9618, c_9619, w_9620, w_9621⟩ | ⟨c_9622, c_9623, c_9624, c_9625, c_9626, c_9627, c_9628, c_9629, c_9630, c_9631, c_9632, c_9633, w_9634, w_9635⟩ | ⟨c_9636, c_9637, c_9638, c_9639, c_9640, c_9641, c_9642, c_9643, c_9644, c_9645, c_9646, c_9647, w_9648, w_9649⟩
    · skip
      subst w_8879
      subst w_8880
      exact absurd c_8877 c_94
    · skip
      subst w_8884
      subst w_8885
      exact absurd c_8881 c_94
    · skip
      subst w_8890
      subst w_8891
      exact absurd c_8886 c_94
    · skip
      subst w_8897
      subst w_8898
      exact absurd c_8892 c_94
    · skip
      subst w_8904
      subst w_8905
      exact absurd c_8899 c_94
    · skip
      subst w_8909
      subst w_8910
      exact absurd c_8907 (Int32.not_lt.mpr c_95)
    · skip
      subst w_8915
      subst w_8916
      exact absurd c_8912 (Int32.not_lt.mpr c_95)
    · skip
      subst w_8922
      subst w_8923
      exact absurd c_8918 (Int32.not_lt.mpr c_95)
    · skip
      subst w_8930
      subst w_8931
      exact absurd c_8925 (Int32.not_lt.mpr c_95)
    · skip
      subst w_8938
      subst w_8939
      exact absurd c_8933 (Int32.not_lt.mpr c_95)
    · skip
      subst w_8943
      subst w_8944
      exact absurd c_8942 c_90
    · skip
      subst w_8949
      subst w_8950
      exact absurd c_8948 c_91
    · skip
      subst w_8956
      subst w_8957
      exact absurd c_8955 c_92
    · skip
      subst w_8964
      subst w_8965
      exact absurd c_8963 c_93
    · skip
      subst w_8985
      subst w_8986
      exact absurd c_8984 c_97
    · skip
      subst w_9007
      subst w_9008
      exact absurd c_9006 c_98
    · skip
      subst w_9030
      subst w_9031
      exact absurd c_99 c_9029
    · skip
      subst w_9053
      subst w_9054
      obtain ⟨hP, hD⟩ := va_join (wr := [(h0, .inr (10, [.ref x0, .int 0, .ref x1, .ref x2, .ref x3, .ref x4, .ref x5, .ref x6, .ref x7, .ref x8, .int 0, .int 3000])), (o0, .inl (kA 1, 1, .inr (.inl (vp_updL (fun _ => 0) 0 (n_cut (xs 2) (n_combine (xs 1) 1 (n_cut (xs 2) ((((xs 4).toInt64) <<< ((32 : Int32).toInt64 &&& 63)) ||| (((xs 5).toInt64) &&& 4294967295))) (n_cut (xs 3) ((((xs 6).toInt64) <<< ((32 : Int32).toInt64 &&& 63)) ||| (((xs 7).toInt64) &&& 4294967295)))))))))]) (w1 := [(m0, .inr (11, y0.set 9 (.int 0)))]) hP hD [0] [1, 2] rfl rfl (by decide) (by decide) hk1 hFc hP1 hD1
      generalize H1 = H at hP hS ⊢
      have hP : va_P D vwCl [(h0, .inr (10, [.ref x0, .int 0, .ref x1, .ref x2, .ref x3, .ref x4, .ref x5, .ref x6, .ref x7, .ref x8, .int 0, .int 3000])), (o0, .inl (kA 1, 1, .inr (.inl (vp_updL (fun _ => 0) 0 (n_cut (xs 2) (n_combine (xs 1) 1 (n_cut (xs 2) ((((xs 4).toInt64) <<< ((32 : Int32).toInt64 &&& 63)) ||| (((xs 5).toInt64) &&& 4294967295))) (n_cut (xs 3) ((((xs 6).toInt64) <<< ((32 : Int32).toInt64 &&& 63)) ||| (((xs 7).toInt64) &&& 4294967295))))))))), (m0, .inr (11, y0.set 9 (.int 0)))] H := hP
      have hD : va_D A [(h0, .inr (10, [.ref x0, .int 0, .ref x1, .ref x2, .ref x3, .ref x4, .ref x5, .ref x6, .ref x7, .ref x8, .int 0, .int 3000])), (o0, .inl (kA 1, 1, .inr (.inl (vp_updL (fun _ => 0) 0 (n_cut (xs 2) (n_combine (xs 1) 1 (n_cut (xs 2) ((((xs 4).toInt64) <<< ((32 : Int32).toInt64 &&& 63)) ||| (((xs 5).toInt64) &&& 4294967295))) (n_cut (xs 3) ((((xs 6).toInt64) <<< ((32 : Int32).toInt64 &&& 63)) ||| (((xs 7).toInt64) &&& 4294967295))))))))), (m0, .inr (11, y0.set 9 (.int 0)))] := hD
      refine lv_lstore (lv' := [(6, .long (n_cut (xs 2) (r_two 203 1 (n_cut (xs 2) ((((xs 4).toInt64) <<< ((32 : Int32).toInt64 &&& 63)) ||| (((xs 5).toInt64) &&& 4294967295))) (n_cut (xs 3) ((((xs 6).toInt64) <<< ((32 : Int32).toInt64 &&& 63)) ||| (((xs 7).toInt64) &&& 4294967295)))))), (5, .int 0), (0, .ref b), (1, .ref h0), (2, .ref m0), (3, .ref o0), (4, .int 0)]) hx hb dL_law_1601 hl (by decide) rfl (fun ls hl => ?_)
      refine lv_aload_n hx hb dL_law_1603 rfl (lv_at hl 4 rfl) ?_
      have hPc := hP.sub (ws' := [(m0, .inr (11, y0.set 9 (.int 0)))]) [2] rfl
      have hDc := hD.sub (ws' := [(m0, .inr (11, y0.set 9 (.int 0)))]) [2] (by decide) rfl
      have hFc := va_free (wc := [(m0, .inr (11, y0.set 9 (.int 0)))]) hD hS hA [2] rfl
      refine va_calli (va_runV (As := []) (rest := []) ⟨hx, hb, hml, hown, hts⟩ (a94_X12_thrown l  D kA V H.size m0 (y0.set 9 (.int 0)) (fun k hk => (by rw [List.length_set]; exact (hq k hk))) (List.getElem?_set_self (hq 9 (by decide)))) (cwV 0 hts (gw_V gw_1879 gw_1880 gw_1881 gw_16 gw_1882) rfl rfl rfl (by decide +kernel) ⟨(Nat.le_of_ble_eq_true rfl), (Nat.le_of_ble_eq_true rfl)⟩) ⟨aP.blind, va_recv hK hP (ci := 11) (q0 := 2) rfl rfl, aP.pre hE hS hPc hK hDc hFc⟩ rfl rfl hl.1 rfl (lv_room (Nat.le_of_ble_eq_true rfl)) dL_law_1604 ⟨(Nat.le_of_ble_eq_true rfl), (Nat.le_of_ble_eq_true rfl)⟩) hS (fun q _ h => hFc q h) hFc (fun r_9650 u t H1 locs ht hvm hw hB hz1 hk1 hS => ?_)
      obtain ⟨hP1, hD1⟩ := hB
      rw [ht] at hP1
      try dsimp only at hw hP1 hD1
      have w_9651 := hw
      subst w_9651
      obtain ⟨hP, hD⟩ := va_join (wr := [(h0, .inr (10, [.ref x0, .int 0, .ref x1, .ref x2, .ref x3, .ref x4, .ref x5, .ref x6, .ref x7, .ref x8, .int 0, .int 3000])), (o0, .inl (kA 1, 1, .inr (.inl (vp_updL (fun _ => 0) 0 (n_cut (xs 2) (n_combine (xs 1) 1 (n_cut (xs 2) ((((xs 4).toInt64) <<< ((32 : Int32).toInt64 &&& 63)) ||| (((xs 5).toInt64) &&& 4294967295))) (n_cut (xs 3) ((((xs 6).toInt64) <<< ((32 : Int32).toInt64 &&& 63)) ||| (((xs 7).toInt64) &&& 4294967295)))))))))]) (w1 := [(m0, .inr (11, (y0.set 9 (.int 0))))]) hP hD [2] [0, 1] rfl rfl (by decide) (by decide) hk1 hFc hP1 hD1
      generalize H1 = H at hP hS ⊢
      have hP : va_P D vwCl [(h0, .inr (10, [.ref x0, .int 0, .ref x1, .ref x2, .ref x3, .ref x4, .ref x5, .ref x6, .ref x7, .ref x8, .int 0, .int 3000])), (o0, .inl (kA 1, 1, .inr (.inl (vp_updL (fun _ => 0) 0 (n_cut (xs 2) (n_combine (xs 1) 1 (n_cut (xs 2) ((((xs 4).toInt64) <<< ((32 : Int32).toInt64 &&& 63)) ||| (((xs 5).toInt64) &&& 4294967295))) (n_cut (xs 3) ((((xs 6).toInt64) <<< ((32 : Int32).toInt64 &&& 63)) ||| (((xs 7).toInt64) &&& 4294967295))))))))), (m0, .inr (11, (y0.set 9 (.int 0))))] H := hP
      have hD : va_D A [(h0, .inr (10, [.ref x0, .int 0, .ref x1, .ref x2, .ref x3, .ref x4, .ref x5, .ref x6, .ref x7, .ref x8, .int 0, .int 3000])), (o0, .inl (kA 1, 1, .inr (.inl (vp_updL (fun _ => 0) 0 (n_cut (xs 2) (n_combine (xs 1) 1 (n_cut (xs 2) ((((xs 4).toInt64) <<< ((32 : Int32).toInt64 &&& 63)) ||| (((xs 5).toInt64) &&& 4294967295))) (n_cut (xs 3) ((((xs 6).toInt64) <<< ((32 : Int32).toInt64 &&& 63)) ||| (((xs 7).toInt64) &&& 4294967295))))))))), (m0, .inr (11, (y0.set 9 (.int 0))))] := hD
      refine lv_iload hx hb dL_law_1607 (lv_at hl 1 rfl) ?_
      refine lv_icmp_eq (tgt := 1614) hx hb dL_law_1609 (by decide) (fun c_9652 => ?_) (fun c_9652 => ?_)
      · skip
        refine lv_iload hx hb dL_law_1614 (lv_at hl 1 rfl) ?_
        refine lv_if_ne (tgt := 1630) hx hb dL_law_1616 (by decide) (fun c_9653 => ?_) (fun c_9653 => ?_)
        · exact absurd (by decide) c_9653
        · skip
          refine lv_aload_n hx hb dL_law_1619 rfl (lv_at hl 5 rfl) ?_
          refine lv_iconst (v := 0) hx hb dL_law_1620 (by decide) ?_
          refine va_lald hx hb hK hP 1 1 rfl rfl (show vp_in 0 1 by unfold vp_in; decide) dL_law_1621 ?_
          refine W.eq (g2 := F0 m 1622 ls [.long (n_cut (xs 2) (n_combine (xs 1) 1 (n_cut (xs 2) ((((xs 4).toInt64) <<< ((32 : Int32).toInt64 &&& 63)) ||| (((xs 5).toInt64) &&& 4294967295))) (n_cut (xs 3) ((((xs 6).toInt64) <<< ((32 : Int32).toInt64 &&& 63)) ||| (((xs 7).toInt64) &&& 4294967295)))))]) rfl ?_
          refine lv_lload hx hb dL_law_1622 (lv_at hl 0 rfl) ?_
          refine W.lcmp hx hb dL_law_1624 ?_
          refine lv_if_eq (tgt := 1630) hx hb dL_law_1625 (by decide) (fun c_9654 => ?_) (fun c_9654 => ?_)
          · skip
            refine lv_goto (tgt := 1804) hx hb dL_law_1630 (by decide) ?_
            exact lk_tail hC hA2 (lv_sub hl [2, 6] rfl) hS (Nat.le_of_ble_eq_true rfl) (Nat.le_of_ble_eq_true rfl)
          · exact absurd ((lg_cmp_eq _ _).mpr (qx_w1 c_94 c_9033 (fun q => c_96 q.2) (by unfold q_sign; rw [if_neg c_9038, if_neg c_9039, if_neg c_9040, if_neg c_9041, if_neg c_9042, if_neg c_9043, if_neg c_9044, if_neg c_9045, if_neg c_9046, if_neg c_9047]))) c_9654
      · exact absurd (by decide) c_9652
    · skip
      subst w_9074
      subst w_9075
      exact False.elim (by have a1 := (iyE (n := 9) c_9070 (by decide)); have a2 := (ixA (n := 8) (Int32.not_le.mp c_98) (by decide)); omega)
    · skip
      subst w_9096
      subst w_9097
      exact False.elim (by have a1 := (iyE (n := 9) c_9091 (by decide)); have a2 := (ixA (n := 8) (Int32.not_le.mp c_98) (by decide)); omega)
    · skip
      subst w_9116
      subst w_9117
      exact False.elim (by have a1 := (iyE (n := 8) c_9112 (by decide)); have a2 := (ixA (n := 8) (Int32.not_le.mp c_98) (by decide)); omega)
    · skip
      subst w_9137
      subst w_9138
      exact False.elim (by have a1 := (iyE (n := 8) c_9132 (by decide)); have a2 := (ixA (n := 8) (Int32.not_le.mp c_98) (by decide)); omega)
    · skip
      subst w_9156
      subst w_9157
      exact absurd c_9155 c_97
    · skip
      subst w_9177
      subst w_9178
      exact absurd c_99 c_9176
    · skip
      subst w_9198
      subst w_9199
      obtain ⟨hP, hD⟩ := va_join (wr := [(h0, .inr (10, [.ref x0, .int 0, .ref x1, .ref x2, .ref x3, .ref x4, .ref x5, .ref x6, .ref x7, .ref x8, .int 0, .int 3000])), (o0, .inl (kA 1, 1, .inr (.inl (vp_updL (fun _ => 0) 0 (n_cut (xs 2) (n_combine (xs 1) 1 (n_cut (xs 2) ((((xs 4).toInt64) <<< ((32 : Int32).toInt64 &&& 63)) ||| (((xs 5).toInt64) &&& 4294967295))) (n_cut (xs 3) ((((xs 6).toInt64) <<< ((32 : Int32).toInt64 &&& 63)) ||| (((xs 7).toInt64) &&& 4294967295)))))))))]) (w1 := [(m0, .inr (11, y0.set 9 (.int 0)))]) hP hD [0] [1, 2] rfl rfl (by decide) (by decide) hk1 hFc hP1 hD1
      generalize H1 = H at hP hS ⊢
      have hP : va_P D vwCl [(h0, .inr (10, [.ref x0, .int 0, .ref x1, .ref x2, .ref x3, .ref x4, .ref x5, .ref x6, .ref x7, .ref x8, .int 0, .int 3000])), (o0, .inl (kA 1, 1, .inr (.inl (vp_updL (fun _ => 0) 0 (n_cut (xs 2) (n_combine (xs 1) 1 (n_cut (xs 2) ((((xs 4).toInt64) <<< ((32 : Int32).toInt64 &&& 63)) ||| (((xs 5).toInt64) &&& 4294967295))) (n_cut (xs 3) ((((xs 6).toInt64) <<< ((32 : Int32).toInt64 &&& 63)) ||| (((xs 7).toInt64) &&& 4294967295))))))))), (m0, .inr (11, y0.set 9 (.int 0)))] H := hP
      have hD : va_D A [(h0, .inr (10, [.ref x0, .int 0, .ref x1, .ref x2, .ref x3, .ref x4, .ref x5, .ref x6, .ref x7, .ref x8, .int 0, .int 3000])), (o0, .inl (kA 1, 1, .inr (.inl (vp_updL (fun _ => 0) 0 (n_cut (xs 2) (n_combine (xs 1) 1 (n_cut (xs 2) ((((xs 4).toInt64) <<< ((32 : Int32).toInt64 &&& 63)) ||| (((xs 5).toInt64) &&& 4294967295))) (n_cut (xs 3) ((((xs 6).toInt64) <<< ((32 : Int32).toInt64 &&& 63)) ||| (((xs 7).toInt64) &&& 4294967295))))))))), (m0, .inr (11, y0.set 9 (.int 0)))] := hD
      refine lv_lstore (lv' := [(6, .long (n_cut (xs 2) (r_two 236 1 (n_cut (xs 2) ((((xs 4).toInt64) <<< ((32 : Int32).toInt64 &&& 63)) ||| (((xs 5).toInt64) &&& 4294967295))) (n_cut (xs 3) ((((xs 6).toInt64) <<< ((32 : Int32).toInt64 &&& 63)) ||| (((xs 7).toInt64) &&& 4294967295)))))), (5, .int 0), (0, .ref b), (1, .ref h0), (2, .ref m0), (3, .ref o0), (4, .int 0)]) hx hb dL_law_1601 hl (by decide) rfl (fun ls hl => ?_)
      refine lv_aload_n hx hb dL_law_1603 rfl (lv_at hl 4 rfl) ?_
      have hPc := hP.sub (ws' := [(m0, .inr (11, y0.set 9 (.int 0)))]) [2] rfl
      have hDc := hD.sub (ws' := [(m0, .inr (11, y0.set 9 (.int 0)))]) [2] (by decide) rfl
      have hFc := va_free (wc := [(m0, .inr (11, y0.set 9 (.int 0)))]) hD hS hA [2] rfl
      refine va_calli (va_runV (As := []) (rest := []) ⟨hx, hb, hml, hown, hts⟩ (a94_X12_thrown l  D kA V H.size m0 (y0.set 9 (.int 0)) (fun k hk => (by rw [List.length_set]; exact (hq k hk))) (List.getElem?_set_self (hq 9 (by decide)))) (cwV 0 hts (gw_V gw_1879 gw_1880 gw_1881 gw_16 gw_1882) rfl rfl rfl (by decide +kernel) ⟨(Nat.le_of_ble_eq_true rfl), (Nat.le_of_ble_eq_true rfl)⟩) ⟨aP.blind, va_recv hK hP (ci := 11) (q0 := 2) rfl rfl, aP.pre hE hS hPc hK hDc hFc⟩ rfl rfl hl.1 rfl (lv_room (Nat.le_of_ble_eq_true rfl)) dL_law_1604 ⟨(Nat.le_of_ble_eq_true rfl), (Nat.le_of_ble_eq_true rfl)⟩) hS (fun q _ h => hFc q h) hFc (fun r_9655 u t H1 locs ht hvm hw hB hz1 hk1 hS => ?_)
      obtain ⟨hP1, hD1⟩ := hB
      rw [ht] at hP1
      try dsimp only at hw hP1 hD1
      have w_9656 := hw
      subst w_9656
      obtain ⟨hP, hD⟩ := va_join (wr := [(h0, .inr (10, [.ref x0, .int 0, .ref x1, .ref x2, .ref x3, .ref x4, .ref x5, .ref x6, .ref x7, .ref x8, .int 0, .int 3000])), (o0, .inl (kA 1, 1, .inr (.inl (vp_updL (fun _ => 0) 0 (n_cut (xs 2) (n_combine (xs 1) 1 (n_cut (xs 2) ((((xs 4).toInt64) <<< ((32 : Int32).toInt64 &&& 63)) ||| (((xs 5).toInt64) &&& 4294967295))) (n_cut (xs 3) ((((xs 6).toInt64) <<< ((32 : Int32).toInt64 &&& 63)) ||| (((xs 7).toInt64) &&& 4294967295)))))))))]) (w1 := [(m0, .inr (11, (y0.set 9 (.int 0))))]) hP hD [2] [0, 1] rfl rfl (by decide) (by decide) hk1 hFc hP1 hD1
      generalize H1 = H at hP hS ⊢
      have hP : va_P D vwCl [(h0, .inr (10, [.ref x0, .int 0, .ref x1, .ref x2, .ref x3, .ref x4, .ref x5, .ref x6, .ref x7, .ref x8, .int 0, .int 3000])), (o0, .inl (kA 1, 1, .inr (.inl (vp_updL (fun _ => 0) 0 (n_cut (xs 2) (n_combine (xs 1) 1 (n_cut (xs 2) ((((xs 4).toInt64) <<< ((32 : Int32).toInt64 &&& 63)) ||| (((xs 5).toInt64) &&& 4294967295))) (n_cut (xs 3) ((((xs 6).toInt64) <<< ((32 : Int32).toInt64 &&& 63)) ||| (((xs 7).toInt64) &&& 4294967295))))))))), (m0, .inr (11, (y0.set 9 (.int 0))))] H := hP
      have hD : va_D A [(h0, .inr (10, [.ref x0, .int 0, .ref x1, .ref x2, .ref x3, .ref x4, .ref x5, .ref x6, .ref x7, .ref x8, .int 0, .int 3000])), (o0, .inl (kA 1, 1, .inr (.inl (vp_updL (fun _ => 0) 0 (n_cut (xs 2) (n_combine (xs 1) 1 (n_cut (xs 2) ((((xs 4).toInt64) <<< ((32 : Int32).toInt64 &&& 63)) ||| (((xs 5).toInt64) &&& 4294967295))) (n_cut (xs 3) ((((xs 6).toInt64) <<< ((32 : Int32).toInt64 &&& 63)) ||| (((xs 7).toInt64) &&& 4294967295))))))))), (m0, .inr (11, (y0.set 9 (.int 0))))] := hD
      refine lv_iload hx hb dL_law_1607 (lv_at hl 1 rfl) ?_
      refine lv_icmp_eq (tgt := 1614) hx hb dL_law_1609 (by decide) (fun c_9657 => ?_) (fun c_9657 => ?_)
      · skip
        refine lv_iload hx hb dL_law_1614 (lv_at hl 1 rfl) ?_
        refine lv_if_ne (tgt := 1630) hx hb dL_law_1616 (by decide) (fun c_9658 => ?_) (fun c_9658 => ?_)
        · exact absurd (by decide) c_9658
        · skip
          refine lv_aload_n hx hb dL_law_1619 rfl (lv_at hl 5 rfl) ?_
          refine lv_iconst (v := 0) hx hb dL_law_1620 (by decide) ?_
          refine va_lald hx hb hK hP 1 1 rfl rfl (show vp_in 0 1 by unfold vp_in; decide) dL_law_1621 ?_
          refine W.eq (g2 := F0 m 1622 ls [.long (n_cut (xs 2) (n_combine (xs 1) 1 (n_cut (xs 2) ((((xs 4).toInt64) <<< ((32 : Int32).toInt64 &&& 63)) ||| (((xs 5).toInt64) &&& 4294967295))) (n_cut (xs 3) ((((xs 6).toInt64) <<< ((32 : Int32).toInt64 &&& 63)) ||| (((xs 7).toInt64) &&& 4294967295)))))]) rfl ?_
          refine lv_lload hx hb dL_law_1622 (lv_at hl 0 rfl) ?_
          refine W.lcmp hx hb dL_law_1624 ?_
          refine lv_if_eq (tgt := 1630) hx hb dL_law_1625 (by decide) (fun c_9659 => ?_) (fun c_9659 => ?_)
          · skip
            refine lv_goto (tgt := 1804) hx hb dL_law_1630 (by decide) ?_
            exact lk_tail hC hA2 (lv_sub hl [2, 6] rfl) hS (Nat.le_of_ble_eq_true rfl) (Nat.le_of_ble_eq_true rfl)
          · exact absurd ((lg_cmp_eq _ _).mpr (qx_w1 c_94 c_9180 (fun q => c_96 q.2) (by rw [c_9192]; decide))) c_9659
      · exact absurd (by decide) c_9657
    · skip
      subst w_9216
      subst w_9217
      exact absurd c_9215 c_97
    · skip
      subst w_9236
      subst w_9237
      exact absurd c_99 c_9235
    · skip
      subst w_9256
      subst w_9257
      obtain ⟨hP, hD⟩ := va_join (wr := [(h0, .inr (10, [.ref x0, .int 0, .ref x1, .ref x2, .ref x3, .ref x4, .ref x5, .ref x6, .ref x7, .ref x8, .int 0, .int 3000])), (o0, .inl (kA 1, 1, .inr (.inl (vp_updL (fun _ => 0) 0 (n_cut (xs 2) (n_combine (xs 1) 1 (n_cut (xs 2) ((((xs 4).toInt64) <<< ((32 : Int32).toInt64 &&& 63)) ||| (((xs 5).toInt64) &&& 4294967295))) (n_cut (xs 3) ((((xs 6).toInt64) <<< ((32 : Int32).toInt64 &&& 63)) ||| (((xs 7).toInt64) &&& 4294967295)))))))))]) (w1 := [(m0, .inr (11, y0.set 9 (.int 0)))]) hP hD [0] [1, 2] rfl rfl (by decide) (by decide) hk1 hFc hP1 hD1
      generalize H1 = H at hP hS ⊢
      have hP : va_P D vwCl [(h0, .inr (10, [.ref x0, .int 0, .ref x1, .ref x2, .ref x3, .ref x4, .ref x5, .ref x6, .ref x7, .ref x8, .int 0, .int 3000])), (o0, .inl (kA 1, 1, .inr (.inl (vp_updL (fun _ => 0) 0 (n_cut (xs 2) (n_combine (xs 1) 1 (n_cut (xs 2) ((((xs 4).toInt64) <<< ((32 : Int32).toInt64 &&& 63)) ||| (((xs 5).toInt64) &&& 4294967295))) (n_cut (xs 3) ((((xs 6).toInt64) <<< ((32 : Int32).toInt64 &&& 63)) ||| (((xs 7).toInt64) &&& 4294967295))))))))), (m0, .inr (11, y0.set 9 (.int 0)))] H := hP
      have hD : va_D A [(h0, .inr (10, [.ref x0, .int 0, .ref x1, .ref x2, .ref x3, .ref x4, .ref x5, .ref x6, .ref x7, .ref x8, .int 0, .int 3000])), (o0, .inl (kA 1, 1, .inr (.inl (vp_updL (fun _ => 0) 0 (n_cut (xs 2) (n_combine (xs 1) 1 (n_cut (xs 2) ((((xs 4).toInt64) <<< ((32 : Int32).toInt64 &&& 63)) ||| (((xs 5).toInt64) &&& 4294967295))) (n_cut (xs 3) ((((xs 6).toInt64) <<< ((32 : Int32).toInt64 &&& 63)) ||| (((xs 7).toInt64) &&& 4294967295))))))))), (m0, .inr (11, y0.set 9 (.int 0)))] := hD
      refine lv_lstore (lv' := [(6, .long (n_cut (xs 2) (r_two 235 1 (n_cut (xs 2) ((((xs 4).toInt64) <<< ((32 : Int32).toInt64 &&& 63)) ||| (((xs 5).toInt64) &&& 4294967295))) (n_cut (xs 3) ((((xs 6).toInt64) <<< ((32 : Int32).toInt64 &&& 63)) ||| (((xs 7).toInt64) &&& 4294967295)))))), (5, .int 0), (0, .ref b), (1, .ref h0), (2, .ref m0), (3, .ref o0), (4, .int 0)]) hx hb dL_law_1601 hl (by decide) rfl (fun ls hl => ?_)
      refine lv_aload_n hx hb dL_law_1603 rfl (lv_at hl 4 rfl) ?_
      have hPc := hP.sub (ws' := [(m0, .inr (11, y0.set 9 (.int 0)))]) [2] rfl
      have hDc := hD.sub (ws' := [(m0, .inr (11, y0.set 9 (.int 0)))]) [2] (by decide) rfl
      have hFc := va_free (wc := [(m0, .inr (11, y0.set 9 (.int 0)))]) hD hS hA [2] rfl
      refine va_calli (va_runV (As := []) (rest := []) ⟨hx, hb, hml, hown, hts⟩ (a94_X12_thrown l  D kA V H.size m0 (y0.set 9 (.int 0)) (fun k hk => (by rw [List.length_set]; exact (hq k hk))) (List.getElem?_set_self (hq 9 (by decide)))) (cwV 0 hts (gw_V gw_1879 gw_1880 gw_1881 gw_16 gw_1882) rfl rfl rfl (by decide +kernel) ⟨(Nat.le_of_ble_eq_true rfl), (Nat.le_of_ble_eq_true rfl)⟩) ⟨aP.blind, va_recv hK hP (ci := 11) (q0 := 2) rfl rfl, aP.pre hE hS hPc hK hDc hFc⟩ rfl rfl hl.1 rfl (lv_room (Nat.le_of_ble_eq_true rfl)) dL_law_1604 ⟨(Nat.le_of_ble_eq_true rfl), (Nat.le_of_ble_eq_true rfl)⟩) hS (fun q _ h => hFc q h) hFc (fun r_9660 u t H1 locs ht hvm hw hB hz1 hk1 hS => ?_)
      obtain ⟨hP1, hD1⟩ := hB
      rw [ht] at hP1
      try dsimp only at hw hP1 hD1
      have w_9661 := hw
      subst w_9661
      obtain ⟨hP, hD⟩ := va_join (wr := [(h0, .inr (10, [.ref x0, .int 0, .ref x1, .ref x2, .ref x3, .ref x4, .ref x5, .ref x6, .ref x7, .ref x8, .int 0, .int 3000])), (o0, .inl (kA 1, 1, .inr (.inl (vp_updL (fun _ => 0) 0 (n_cut (xs 2) (n_combine (xs 1) 1 (n_cut (xs 2) ((((xs 4).toInt64) <<< ((32 : Int32).toInt64 &&& 63)) ||| (((xs 5).toInt64) &&& 4294967295))) (n_cut (xs 3) ((((xs 6).toInt64) <<< ((32 : Int32).toInt64 &&& 63)) ||| (((xs 7).toInt64) &&& 4294967295)))))))))]) (w1 := [(m0, .inr (11, (y0.set 9 (.int 0))))]) hP hD [2] [0, 1] rfl rfl (by decide) (by decide) hk1 hFc hP1 hD1
      generalize H1 = H at hP hS ⊢
      have hP : va_P D vwCl [(h0, .inr (10, [.ref x0, .int 0, .ref x1, .ref x2, .ref x3, .ref x4, .ref x5, .ref x6, .ref x7, .ref x8, .int 0, .int 3000])), (o0, .inl (kA 1, 1, .inr (.inl (vp_updL (fun _ => 0) 0 (n_cut (xs 2) (n_combine (xs 1) 1 (n_cut (xs 2) ((((xs 4).toInt64) <<< ((32 : Int32).toInt64 &&& 63)) ||| (((xs 5).toInt64) &&& 4294967295))) (n_cut (xs 3) ((((xs 6).toInt64) <<< ((32 : Int32).toInt64 &&& 63)) ||| (((xs 7).toInt64) &&& 4294967295))))))))), (m0, .inr (11, (y0.set 9 (.int 0))))] H := hP
      have hD : va_D A [(h0, .inr (10, [.ref x0, .int 0, .ref x1, .ref x2, .ref x3, .ref x4, .ref x5, .ref x6, .ref x7, .ref x8, .int 0, .int 3000])), (o0, .inl (kA 1, 1, .inr (.inl (vp_updL (fun _ => 0) 0 (n_cut (xs 2) (n_combine (xs 1) 1 (n_cut (xs 2) ((((xs 4).toInt64) <<< ((32 : Int32).toInt64 &&& 63)) ||| (((xs 5).toInt64) &&& 4294967295))) (n_cut (xs 3) ((((xs 6).toInt64) <<< ((32 : Int32).toInt64 &&& 63)) ||| (((xs 7).toInt64) &&& 4294967295))))))))), (m0, .inr (11, (y0.set 9 (.int 0))))] := hD
      refine lv_iload hx hb dL_law_1607 (lv_at hl 1 rfl) ?_
      refine lv_icmp_eq (tgt := 1614) hx hb dL_law_1609 (by decide) (fun c_9662 => ?_) (fun c_9662 => ?_)
      · skip
        refine lv_iload hx hb dL_law_1614 (lv_at hl 1 rfl) ?_
        refine lv_if_ne (tgt := 1630) hx hb dL_law_1616 (by decide) (fun c_9663 => ?_) (fun c_9663 => ?_)
        · exact absurd (by decide) c_9663
        · skip
          refine lv_aload_n hx hb dL_law_1619 rfl (lv_at hl 5 rfl) ?_
          refine lv_iconst (v := 0) hx hb dL_law_1620 (by decide) ?_
          refine va_lald hx hb hK hP 1 1 rfl rfl (show vp_in 0 1 by unfold vp_in; decide) dL_law_1621 ?_
          refine W.eq (g2 := F0 m 1622 ls [.long (n_cut (xs 2) (n_combine (xs 1) 1 (n_cut (xs 2) ((((xs 4).toInt64) <<< ((32 : Int32).toInt64 &&& 63)) ||| (((xs 5).toInt64) &&& 4294967295))) (n_cut (xs 3) ((((xs 6).toInt64) <<< ((32 : Int32).toInt64 &&& 63)) ||| (((xs 7).toInt64) &&& 4294967295)))))]) rfl ?_
          refine lv_lload hx hb dL_law_1622 (lv_at hl 0 rfl) ?_
          refine W.lcmp hx hb dL_law_1624 ?_
          refine lv_if_eq (tgt := 1630) hx hb dL_law_1625 (by decide) (fun c_9664 => ?_) (fun c_9664 => ?_)
          · skip
            refine lv_goto (tgt := 1804) hx hb dL_law_1630 (by decide) ?_
            exact lk_tail hC hA2 (lv_sub hl [2, 6] rfl) hS (Nat.le_of_ble_eq_true rfl) (Nat.le_of_ble_eq_true rfl)
          · exact absurd ((lg_cmp_eq _ _).mpr (qx_w1 c_94 c_9239 (fun q => c_96 q.2) (by rw [c_9250]; decide))) c_9664
      · exact absurd (by decide) c_9662
    · skip
      subst w_9273
      subst w_9274
      exact absurd c_9272 c_97
    · skip
      subst w_9292
      subst w_9293
      exact absurd c_99 c_9291
    · skip
      subst w_9311
      subst w_9312
      obtain ⟨hP, hD⟩ := va_join (wr := [(h0, .inr (10, [.ref x0, .int 0, .ref x1, .ref x2, .ref x3, .ref x4, .ref x5, .ref x6, .ref x7, .ref x8, .int 0, .int 3000])), (o0, .inl (kA 1, 1, .inr (.inl (vp_updL (fun _ => 0) 0 (n_cut (xs 2) (n_combine (xs 1) 1 (n_cut (xs 2) ((((xs 4).toInt64) <<< ((32 : Int32).toInt64 &&& 63)) ||| (((xs 5).toInt64) &&& 4294967295))) (n_cut (xs 3) ((((xs 6).toInt64) <<< ((32 : Int32).toInt64 &&& 63)) ||| (((xs 7).toInt64) &&& 4294967295)))))))))]) (w1 := [(m0, .inr (11, y0.set 9 (.int 0)))]) hP hD [0] [1, 2] rfl rfl (by decide) (by decide) hk1 hFc hP1 hD1
      generalize H1 = H at hP hS ⊢
      have hP : va_P D vwCl [(h0, .inr (10, [.ref x0, .int 0, .ref x1, .ref x2, .ref x3, .ref x4, .ref x5, .ref x6, .ref x7, .ref x8, .int 0, .int 3000])), (o0, .inl (kA 1, 1, .inr (.inl (vp_updL (fun _ => 0) 0 (n_cut (xs 2) (n_combine (xs 1) 1 (n_cut (xs 2) ((((xs 4).toInt64) <<< ((32 : Int32).toInt64 &&& 63)) ||| (((xs 5).toInt64) &&& 4294967295))) (n_cut (xs 3) ((((xs 6).toInt64) <<< ((32 : Int32).toInt64 &&& 63)) ||| (((xs 7).toInt64) &&& 4294967295))))))))), (m0, .inr (11, y0.set 9 (.int 0)))] H := hP
      have hD : va_D A [(h0, .inr (10, [.ref x0, .int 0, .ref x1, .ref x2, .ref x3, .ref x4, .ref x5, .ref x6, .ref x7, .ref x8, .int 0, .int 3000])), (o0, .inl (kA 1, 1, .inr (.inl (vp_updL (fun _ => 0) 0 (n_cut (xs 2) (n_combine (xs 1) 1 (n_cut (xs 2) ((((xs 4).toInt64) <<< ((32 : Int32).toInt64 &&& 63)) ||| (((xs 5).toInt64) &&& 4294967295))) (n_cut (xs 3) ((((xs 6).toInt64) <<< ((32 : Int32).toInt64 &&& 63)) ||| (((xs 7).toInt64) &&& 4294967295))))))))), (m0, .inr (11, y0.set 9 (.int 0)))] := hD
      refine lv_lstore (lv' := [(6, .long (n_cut (xs 2) (r_two 237 1 (n_cut (xs 2) ((((xs 4).toInt64) <<< ((32 : Int32).toInt64 &&& 63)) ||| (((xs 5).toInt64) &&& 4294967295))) (n_cut (xs 3) ((((xs 6).toInt64) <<< ((32 : Int32).toInt64 &&& 63)) ||| (((xs 7).toInt64) &&& 4294967295)))))), (5, .int 0), (0, .ref b), (1, .ref h0), (2, .ref m0), (3, .ref o0), (4, .int 0)]) hx hb dL_law_1601 hl (by decide) rfl (fun ls hl => ?_)
      refine lv_aload_n hx hb dL_law_1603 rfl (lv_at hl 4 rfl) ?_
      have hPc := hP.sub (ws' := [(m0, .inr (11, y0.set 9 (.int 0)))]) [2] rfl
      have hDc := hD.sub (ws' := [(m0, .inr (11, y0.set 9 (.int 0)))]) [2] (by decide) rfl
      have hFc := va_free (wc := [(m0, .inr (11, y0.set 9 (.int 0)))]) hD hS hA [2] rfl
      refine va_calli (va_runV (As := []) (rest := []) ⟨hx, hb, hml, hown, hts⟩ (a94_X12_thrown l  D kA V H.size m0 (y0.set 9 (.int 0)) (fun k hk => (by rw [List.length_set]; exact (hq k hk))) (List.getElem?_set_self (hq 9 (by decide)))) (cwV 0 hts (gw_V gw_1879 gw_1880 gw_1881 gw_16 gw_1882) rfl rfl rfl (by decide +kernel) ⟨(Nat.le_of_ble_eq_true rfl), (Nat.le_of_ble_eq_true rfl)⟩) ⟨aP.blind, va_recv hK hP (ci := 11) (q0 := 2) rfl rfl, aP.pre hE hS hPc hK hDc hFc⟩ rfl rfl hl.1 rfl (lv_room (Nat.le_of_ble_eq_true rfl)) dL_law_1604 ⟨(Nat.le_of_ble_eq_true rfl), (Nat.le_of_ble_eq_true rfl)⟩) hS (fun q _ h => hFc q h) hFc (fun r_9665 u t H1 locs ht hvm hw hB hz1 hk1 hS => ?_)
      obtain ⟨hP1, hD1⟩ := hB
      rw [ht] at hP1
      try dsimp only at hw hP1 hD1
      have w_9666 := hw
      subst w_9666
      obtain ⟨hP, hD⟩ := va_join (wr := [(h0, .inr (10, [.ref x0, .int 0, .ref x1, .ref x2, .ref x3, .ref x4, .ref x5, .ref x6, .ref x7, .ref x8, .int 0, .int 3000])), (o0, .inl (kA 1, 1, .inr (.inl (vp_updL (fun _ => 0) 0 (n_cut (xs 2) (n_combine (xs 1) 1 (n_cut (xs 2) ((((xs 4).toInt64) <<< ((32 : Int32).toInt64 &&& 63)) ||| (((xs 5).toInt64) &&& 4294967295))) (n_cut (xs 3) ((((xs 6).toInt64) <<< ((32 : Int32).toInt64 &&& 63)) ||| (((xs 7).toInt64) &&& 4294967295)))))))))]) (w1 := [(m0, .inr (11, (y0.set 9 (.int 0))))]) hP hD [2] [0, 1] rfl rfl (by decide) (by decide) hk1 hFc hP1 hD1
      generalize H1 = H at hP hS ⊢
      have hP : va_P D vwCl [(h0, .inr (10, [.ref x0, .int 0, .ref x1, .ref x2, .ref x3, .ref x4, .ref x5, .ref x6, .ref x7, .ref x8, .int 0, .int 3000])), (o0, .inl (kA 1, 1, .inr (.inl (vp_updL (fun _ => 0) 0 (n_cut (xs 2) (n_combine (xs 1) 1 (n_cut (xs 2) ((((xs 4).toInt64) <<< ((32 : Int32).toInt64 &&& 63)) ||| (((xs 5).toInt64) &&& 4294967295))) (n_cut (xs 3) ((((xs 6).toInt64) <<< ((32 : Int32).toInt64 &&& 63)) ||| (((xs 7).toInt64) &&& 4294967295))))))))), (m0, .inr (11, (y0.set 9 (.int 0))))] H := hP
      have hD : va_D A [(h0, .inr (10, [.ref x0, .int 0, .ref x1, .ref x2, .ref x3, .ref x4, .ref x5, .ref x6, .ref x7, .ref x8, .int 0, .int 3000])), (o0, .inl (kA 1, 1, .inr (.inl (vp_updL (fun _ => 0) 0 (n_cut (xs 2) (n_combine (xs 1) 1 (n_cut (xs 2) ((((xs 4).toInt64) <<< ((32 : Int32).toInt64 &&& 63)) ||| (((xs 5).toInt64) &&& 4294967295))) (n_cut (xs 3) ((((xs 6).toInt64) <<< ((32 : Int32).toInt64 &&& 63)) ||| (((xs 7).toInt64) &&& 4294967295))))))))), (m0, .inr (11, (y0.set 9 (.int 0))))] := hD
      refine lv_iload hx hb dL_law_1607 (lv_at hl 1 rfl) ?_
      refine lv_icmp_eq (tgt := 1614) hx hb dL_law_1609 (by decide) (fun c_9667 => ?_) (fun c_9667 => ?_)
      · skip
        refine lv_iload hx hb dL_law_1614 (lv_at hl 1 rfl) ?_
        refine lv_if_ne (tgt := 1630) hx hb dL_law_1616 (by decide) (fun c_9668 => ?_) (fun c_9668 => ?_)
        · exact absurd (by decide) c_9668
        · skip
          refine lv_aload_n hx hb dL_law_1619 rfl (lv_at hl 5 rfl) ?_
          refine lv_iconst (v := 0) hx hb dL_law_1620 (by decide) ?_
          refine va_lald hx hb hK hP 1 1 rfl rfl (show vp_in 0 1 by unfold vp_in; decide) dL_law_1621 ?_
          refine W.eq (g2 := F0 m 1622 ls [.long (n_cut (xs 2) (n_combine (xs 1) 1 (n_cut (xs 2) ((((xs 4).toInt64) <<< ((32 : Int32).toInt64 &&& 63)) ||| (((xs 5).toInt64) &&& 4294967295))) (n_cut (xs 3) ((((xs 6).toInt64) <<< ((32 : Int32).toInt64 &&& 63)) ||| (((xs 7).toInt64) &&& 4294967295)))))]) rfl ?_
          refine lv_lload hx hb dL_law_1622 (lv_at hl 0 rfl) ?_
          refine W.lcmp hx hb dL_law_1624 ?_
          refine lv_if_eq (tgt := 1630) hx hb dL_law_1625 (by decide) (fun c_9669 => ?_) (fun c_9669 => ?_)
          · skip
            refine lv_goto (tgt := 1804) hx hb dL_law_1630 (by decide) ?_
            exact lk_tail hC hA2 (lv_sub hl [2, 6] rfl) hS (Nat.le_of_ble_eq_true rfl) (Nat.le_of_ble_eq_true rfl)
          · exact absurd ((lg_cmp_eq _ _).mpr (qx_w1 c_94 c_9295 (fun q => c_96 q.2) (by rw [c_9305]; decide))) c_9669
      · exact absurd (by decide) c_9667
    · skip
      subst w_9328
      subst w_9329
      exact absurd c_9327 c_97
    · skip
      subst w_9347
      subst w_9348
      exact absurd c_99 c_9346
    · skip
      subst w_9366
      subst w_9367
      obtain ⟨hP, hD⟩ := va_join (wr := [(h0, .inr (10, [.ref x0, .int 0, .ref x1, .ref x2, .ref x3, .ref x4, .ref x5, .ref x6, .ref x7, .ref x8, .int 0, .int 3000])), (o0, .inl (kA 1, 1, .inr (.inl (vp_updL (fun _ => 0) 0 (n_cut (xs 2) (n_combine (xs 1) 1 (n_cut (xs 2) ((((xs 4).toInt64) <<< ((32 : Int32).toInt64 &&& 63)) ||| (((xs 5).toInt64) &&& 4294967295))) (n_cut (xs 3) ((((xs 6).toInt64) <<< ((32 : Int32).toInt64 &&& 63)) ||| (((xs 7).toInt64) &&& 4294967295)))))))))]) (w1 := [(m0, .inr (11, y0.set 9 (.int 0)))]) hP hD [0] [1, 2] rfl rfl (by decide) (by decide) hk1 hFc hP1 hD1
      generalize H1 = H at hP hS ⊢
      have hP : va_P D vwCl [(h0, .inr (10, [.ref x0, .int 0, .ref x1, .ref x2, .ref x3, .ref x4, .ref x5, .ref x6, .ref x7, .ref x8, .int 0, .int 3000])), (o0, .inl (kA 1, 1, .inr (.inl (vp_updL (fun _ => 0) 0 (n_cut (xs 2) (n_combine (xs 1) 1 (n_cut (xs 2) ((((xs 4).toInt64) <<< ((32 : Int32).toInt64 &&& 63)) ||| (((xs 5).toInt64) &&& 4294967295))) (n_cut (xs 3) ((((xs 6).toInt64) <<< ((32 : Int32).toInt64 &&& 63)) ||| (((xs 7).toInt64) &&& 4294967295))))))))), (m0, .inr (11, y0.set 9 (.int 0)))] H := hP
      have hD : va_D A [(h0, .inr (10, [.ref x0, .int 0, .ref x1, .ref x2, .ref x3, .ref x4, .ref x5, .ref x6, .ref x7, .ref x8, .int 0, .int 3000])), (o0, .inl (kA 1, 1, .inr (.inl (vp_updL (fun _ => 0) 0 (n_cut (xs 2) (n_combine (xs 1) 1 (n_cut (xs 2) ((((xs 4).toInt64) <<< ((32 : Int32).toInt64 &&& 63)) ||| (((xs 5).toInt64) &&& 4294967295))) (n_cut (xs 3) ((((xs 6).toInt64) <<< ((32 : Int32).toInt64 &&& 63)) ||| (((xs 7).toInt64) &&& 4294967295))))))))), (m0, .inr (11, y0.set 9 (.int 0)))] := hD
      refine lv_lstore (lv' := [(6, .long (n_cut (xs 2) (r_two 244 1 (n_cut (xs 2) ((((xs 4).toInt64) <<< ((32 : Int32).toInt64 &&& 63)) ||| (((xs 5).toInt64) &&& 4294967295))) (n_cut (xs 3) ((((xs 6).toInt64) <<< ((32 : Int32).toInt64 &&& 63)) ||| (((xs 7).toInt64) &&& 4294967295)))))), (5, .int 0), (0, .ref b), (1, .ref h0), (2, .ref m0), (3, .ref o0), (4, .int 0)]) hx hb dL_law_1601 hl (by decide) rfl (fun ls hl => ?_)
      refine lv_aload_n hx hb dL_law_1603 rfl (lv_at hl 4 rfl) ?_
      have hPc := hP.sub (ws' := [(m0, .inr (11, y0.set 9 (.int 0)))]) [2] rfl
      have hDc := hD.sub (ws' := [(m0, .inr (11, y0.set 9 (.int 0)))]) [2] (by decide) rfl
      have hFc := va_free (wc := [(m0, .inr (11, y0.set 9 (.int 0)))]) hD hS hA [2] rfl
      refine va_calli (va_runV (As := []) (rest := []) ⟨hx, hb, hml, hown, hts⟩ (a94_X12_thrown l  D kA V H.size m0 (y0.set 9 (.int 0)) (fun k hk => (by rw [List.length_set]; exact (hq k hk))) (List.getElem?_set_self (hq 9 (by decide)))) (cwV 0 hts (gw_V gw_1879 gw_1880 gw_1881 gw_16 gw_1882) rfl rfl rfl (by decide +kernel) ⟨(Nat.le_of_ble_eq_true rfl), (Nat.le_of_ble_eq_true rfl)⟩) ⟨aP.blind, va_recv hK hP (ci := 11) (q0 := 2) rfl rfl, aP.pre hE hS hPc hK hDc hFc⟩ rfl rfl hl.1 rfl (lv_room (Nat.le_of_ble_eq_true rfl)) dL_law_1604 ⟨(Nat.le_of_ble_eq_true rfl), (Nat.le_of_ble_eq_true rfl)⟩) hS (fun q _ h => hFc q h) hFc (fun r_9670 u t H1 locs ht hvm hw hB hz1 hk1 hS => ?_)
      obtain ⟨hP1, hD1⟩ := hB
      rw [ht] at hP1
      try dsimp only at hw hP1 hD1
      have w_9671 := hw
      subst w_9671
      obtain ⟨hP, hD⟩ := va_join (wr := [(h0, .inr (10, [.ref x0, .int 0, .ref x1, .ref x2, .ref x3, .ref x4, .ref x5, .ref x6, .ref x7, .ref x8, .int 0, .int 3000])), (o0, .inl (kA 1, 1, .inr (.inl (vp_updL (fun _ => 0) 0 (n_cut (xs 2) (n_combine (xs 1) 1 (n_cut (xs 2) ((((xs 4).toInt64) <<< ((32 : Int32).toInt64 &&& 63)) ||| (((xs 5).toInt64) &&& 4294967295))) (n_cut (xs 3) ((((xs 6).toInt64) <<< ((32 : Int32).toInt64 &&& 63)) ||| (((xs 7).toInt64) &&& 4294967295)))))))))]) (w1 := [(m0, .inr (11, (y0.set 9 (.int 0))))]) hP hD [2] [0, 1] rfl rfl (by decide) (by decide) hk1 hFc hP1 hD1
      generalize H1 = H at hP hS ⊢
      have hP : va_P D vwCl [(h0, .inr (10, [.ref x0, .int 0, .ref x1, .ref x2, .ref x3, .ref x4, .ref x5, .ref x6, .ref x7, .ref x8, .int 0, .int 3000])), (o0, .inl (kA 1, 1, .inr (.inl (vp_updL (fun _ => 0) 0 (n_cut (xs 2) (n_combine (xs 1) 1 (n_cut (xs 2) ((((xs 4).toInt64) <<< ((32 : Int32).toInt64 &&& 63)) ||| (((xs 5).toInt64) &&& 4294967295))) (n_cut (xs 3) ((((xs 6).toInt64) <<< ((32 : Int32).toInt64 &&& 63)) ||| (((xs 7).toInt64) &&& 4294967295))))))))), (m0, .inr (11, (y0.set 9 (.int 0))))] H := hP
      have hD : va_D A [(h0, .inr (10, [.ref x0, .int 0, .ref x1, .ref x2, .ref x3, .ref x4, .ref x5, .ref x6, .ref x7, .ref x8, .int 0, .int 3000])), (o0, .inl (kA 1, 1, .inr (.inl (vp_updL (fun _ => 0) 0 (n_cut (xs 2) (n_combine (xs 1) 1 (n_cut (xs 2) ((((xs 4).toInt64) <<< ((32 : Int32).toInt64 &&& 63)) ||| (((xs 5).toInt64) &&& 4294967295))) (n_cut (xs 3) ((((xs 6).toInt64) <<< ((32 : Int32).toInt64 &&& 63)) ||| (((xs 7).toInt64) &&& 4294967295))))))))), (m0, .inr (11, (y0.set 9 (.int 0))))] := hD
      refine lv_iload hx hb dL_law_1607 (lv_at hl 1 rfl) ?_
      refine lv_icmp_eq (tgt := 1614) hx hb dL_law_1609 (by decide) (fun c_9672 => ?_) (fun c_9672 => ?_)
      · skip
        refine lv_iload hx hb dL_law_1614 (lv_at hl 1 rfl) ?_
        refine lv_if_ne (tgt := 1630) hx hb dL_law_1616 (by decide) (fun c_9673 => ?_) (fun c_9673 => ?_)
        · exact absurd (by decide) c_9673
        · skip
          refine lv_aload_n hx hb dL_law_1619 rfl (lv_at hl 5 rfl) ?_
          refine lv_iconst (v := 0) hx hb dL_law_1620 (by decide) ?_
          refine va_lald hx hb hK hP 1 1 rfl rfl (show vp_in 0 1 by unfold vp_in; decide) dL_law_1621 ?_
          refine W.eq (g2 := F0 m 1622 ls [.long (n_cut (xs 2) (n_combine (xs 1) 1 (n_cut (xs 2) ((((xs 4).toInt64) <<< ((32 : Int32).toInt64 &&& 63)) ||| (((xs 5).toInt64) &&& 4294967295))) (n_cut (xs 3) ((((xs 6).toInt64) <<< ((32 : Int32).toInt64 &&& 63)) ||| (((xs 7).toInt64) &&& 4294967295)))))]) rfl ?_
          refine lv_lload hx hb dL_law_1622 (lv_at hl 0 rfl) ?_
          refine W.lcmp hx hb dL_law_1624 ?_
          refine lv_if_eq (tgt := 1630) hx hb dL_law_1625 (by decide) (fun c_9674 => ?_) (fun c_9674 => ?_)
          · skip
            refine lv_goto (tgt := 1804) hx hb dL_law_1630 (by decide) ?_
            exact lk_tail hC hA2 (lv_sub hl [2, 6] rfl) hS (Nat.le_of_ble_eq_true rfl) (Nat.le_of_ble_eq_true rfl)
          · exact absurd ((lg_cmp_eq _ _).mpr (qx_w1 c_94 c_9350 (fun q => c_96 q.2) (by rw [c_9359]; decide))) c_9674
      · exact absurd (by decide) c_9672
    · skip
      subst w_9383
      subst w_9384
      exact absurd c_9381 c_96
    · skip
      subst w_9402
      subst w_9403
      exact absurd c_9398 c_96
    · skip
      subst w_9421
      subst w_9422
      exact absurd c_9417 c_96
    · skip
      subst w_9436
      subst w_9437
      exact absurd c_9435 c_97
    · skip
      subst w_9453
      subst w_9454
      exact absurd c_99 c_9452
    · skip
      subst w_9470
      subst w_9471
      obtain ⟨hP, hD⟩ := va_join (wr := [(h0, .inr (10, [.ref x0, .int 0, .ref x1, .ref x2, .ref x3, .ref x4, .ref x5, .ref x6, .ref x7, .ref x8, .int 0, .int 3000])), (o0, .inl (kA 1, 1, .inr (.inl (vp_updL (fun _ => 0) 0 (n_cut (xs 2) (n_combine (xs 1) 1 (n_cut (xs 2) ((((xs 4).toInt64) <<< ((32 : Int32).toInt64 &&& 63)) ||| (((xs 5).toInt64) &&& 4294967295))) (n_cut (xs 3) ((((xs 6).toInt64) <<< ((32 : Int32).toInt64 &&& 63)) ||| (((xs 7).toInt64) &&& 4294967295)))))))))]) (w1 := [(m0, .inr (11, y0.set 9 (.int 0)))]) hP hD [0] [1, 2] rfl rfl (by decide) (by decide) hk1 hFc hP1 hD1
      generalize H1 = H at hP hS ⊢
      have hP : va_P D vwCl [(h0, .inr (10, [.ref x0, .int 0, .ref x1, .ref x2, .ref x3, .ref x4, .ref x5, .ref x6, .ref x7, .ref x8, .int 0, .int 3000])), (o0, .inl (kA 1, 1, .inr (.inl (vp_updL (fun _ => 0) 0 (n_cut (xs 2) (n_combine (xs 1) 1 (n_cut (xs 2) ((((xs 4).toInt64) <<< ((32 : Int32).toInt64 &&& 63)) ||| (((xs 5).toInt64) &&& 4294967295))) (n_cut (xs 3) ((((xs 6).toInt64) <<< ((32 : Int32).toInt64 &&& 63)) ||| (((xs 7).toInt64) &&& 4294967295))))))))), (m0, .inr (11, y0.set 9 (.int 0)))] H := hP
      have hD : va_D A [(h0, .inr (10, [.ref x0, .int 0, .ref x1, .ref x2, .ref x3, .ref x4, .ref x5, .ref x6, .ref x7, .ref x8, .int 0, .int 3000])), (o0, .inl (kA 1, 1, .inr (.inl (vp_updL (fun _ => 0) 0 (n_cut (xs 2) (n_combine (xs 1) 1 (n_cut (xs 2) ((((xs 4).toInt64) <<< ((32 : Int32).toInt64 &&& 63)) ||| (((xs 5).toInt64) &&& 4294967295))) (n_cut (xs 3) ((((xs 6).toInt64) <<< ((32 : Int32).toInt64 &&& 63)) ||| (((xs 7).toInt64) &&& 4294967295))))))))), (m0, .inr (11, y0.set 9 (.int 0)))] := hD
      refine lv_lstore (lv' := [(6, .long (n_cut (xs 2) (r_two 243 1 (n_cut (xs 2) ((((xs 4).toInt64) <<< ((32 : Int32).toInt64 &&& 63)) ||| (((xs 5).toInt64) &&& 4294967295))) (n_cut (xs 3) ((((xs 6).toInt64) <<< ((32 : Int32).toInt64 &&& 63)) ||| (((xs 7).toInt64) &&& 4294967295)))))), (5, .int 0), (0, .ref b), (1, .ref h0), (2, .ref m0), (3, .ref o0), (4, .int 0)]) hx hb dL_law_1601 hl (by decide) rfl (fun ls hl => ?_)
      refine lv_aload_n hx hb dL_law_1603 rfl (lv_at hl 4 rfl) ?_
      have hPc := hP.sub (ws' := [(m0, .inr (11, y0.set 9 (.int 0)))]) [2] rfl
      have hDc := hD.sub (ws' := [(m0, .inr (11, y0.set 9 (.int 0)))]) [2] (by decide) rfl
      have hFc := va_free (wc := [(m0, .inr (11, y0.set 9 (.int 0)))]) hD hS hA [2] rfl
      refine va_calli (va_runV (As := []) (rest := []) ⟨hx, hb, hml, hown, hts⟩ (a94_X12_thrown l  D kA V H.size m0 (y0.set 9 (.int 0)) (fun k hk => (by rw [List.length_set]; exact (hq k hk))) (List.getElem?_set_self (hq 9 (by decide)))) (cwV 0 hts (gw_V gw_1879 gw_1880 gw_1881 gw_16 gw_1882) rfl rfl rfl (by decide +kernel) ⟨(Nat.le_of_ble_eq_true rfl), (Nat.le_of_ble_eq_true rfl)⟩) ⟨aP.blind, va_recv hK hP (ci := 11) (q0 := 2) rfl rfl, aP.pre hE hS hPc hK hDc hFc⟩ rfl rfl hl.1 rfl (lv_room (Nat.le_of_ble_eq_true rfl)) dL_law_1604 ⟨(Nat.le_of_ble_eq_true rfl), (Nat.le_of_ble_eq_true rfl)⟩) hS (fun q _ h => hFc q h) hFc (fun r_9675 u t H1 locs ht hvm hw hB hz1 hk1 hS => ?_)
      obtain ⟨hP1, hD1⟩ := hB
      rw [ht] at hP1
      try dsimp only at hw hP1 hD1
      have w_9676 := hw
      subst w_9676
      obtain ⟨hP, hD⟩ := va_join (wr := [(h0, .inr (10, [.ref x0, .int 0, .ref x1, .ref x2, .ref x3, .ref x4, .ref x5, .ref x6, .ref x7, .ref x8, .int 0, .int 3000])), (o0, .inl (kA 1, 1, .inr (.inl (vp_updL (fun _ => 0) 0 (n_cut (xs 2) (n_combine (xs 1) 1 (n_cut (xs 2) ((((xs 4).toInt64) <<< ((32 : Int32).toInt64 &&& 63)) ||| (((xs 5).toInt64) &&& 4294967295))) (n_cut (xs 3) ((((xs 6).toInt64) <<< ((32 : Int32).toInt64 &&& 63)) ||| (((xs 7).toInt64) &&& 4294967295)))))))))]) (w1 := [(m0, .inr (11, (y0.set 9 (.int 0))))]) hP hD [2] [0, 1] rfl rfl (by decide) (by decide) hk1 hFc hP1 hD1
      generalize H1 = H at hP hS ⊢
      have hP : va_P D vwCl [(h0, .inr (10, [.ref x0, .int 0, .ref x1, .ref x2, .ref x3, .ref x4, .ref x5, .ref x6, .ref x7, .ref x8, .int 0, .int 3000])), (o0, .inl (kA 1, 1, .inr (.inl (vp_updL (fun _ => 0) 0 (n_cut (xs 2) (n_combine (xs 1) 1 (n_cut (xs 2) ((((xs 4).toInt64) <<< ((32 : Int32).toInt64 &&& 63)) ||| (((xs 5).toInt64) &&& 4294967295))) (n_cut (xs 3) ((((xs 6).toInt64) <<< ((32 : Int32).toInt64 &&& 63)) ||| (((xs 7).toInt64) &&& 4294967295))))))))), (m0, .inr (11, (y0.set 9 (.int 0))))] H := hP
      have hD : va_D A [(h0, .inr (10, [.ref x0, .int 0, .ref x1, .ref x2, .ref x3, .ref x4, .ref x5, .ref x6, .ref x7, .ref x8, .int 0, .int 3000])), (o0, .inl (kA 1, 1, .inr (.inl (vp_updL (fun _ => 0) 0 (n_cut (xs 2) (n_combine (xs 1) 1 (n_cut (xs 2) ((((xs 4).toInt64) <<< ((32 : Int32).toInt64 &&& 63)) ||| (((xs 5).toInt64) &&& 4294967295))) (n_cut (xs 3) ((((xs 6).toInt64) <<< ((32 : Int32).toInt64 &&& 63)) ||| (((xs 7).toInt64) &&& 4294967295))))))))), (m0, .inr (11, (y0.set 9 (.int 0))))] := hD
      refine lv_iload hx hb dL_law_1607 (lv_at hl 1 rfl) ?_
      refine lv_icmp_eq (tgt := 1614) hx hb dL_law_1609 (by decide) (fun c_9677 => ?_) (fun c_9677 => ?_)
      · skip
        refine lv_iload hx hb dL_law_1614 (lv_at hl 1 rfl) ?_
        refine lv_if_ne (tgt := 1630) hx hb dL_law_1616 (by decide) (fun c_9678 => ?_) (fun c_9678 => ?_)
        · exact absurd (by decide) c_9678
        · skip
          refine lv_aload_n hx hb dL_law_1619 rfl (lv_at hl 5 rfl) ?_
          refine lv_iconst (v := 0) hx hb dL_law_1620 (by decide) ?_
          refine va_lald hx hb hK hP 1 1 rfl rfl (show vp_in 0 1 by unfold vp_in; decide) dL_law_1621 ?_
          refine W.eq (g2 := F0 m 1622 ls [.long (n_cut (xs 2) (n_combine (xs 1) 1 (n_cut (xs 2) ((((xs 4).toInt64) <<< ((32 : Int32).toInt64 &&& 63)) ||| (((xs 5).toInt64) &&& 4294967295))) (n_cut (xs 3) ((((xs 6).toInt64) <<< ((32 : Int32).toInt64 &&& 63)) ||| (((xs 7).toInt64) &&& 4294967295)))))]) rfl ?_
          refine lv_lload hx hb dL_law_1622 (lv_at hl 0 rfl) ?_
          refine W.lcmp hx hb dL_law_1624 ?_
          refine lv_if_eq (tgt := 1630) hx hb dL_law_1625 (by decide) (fun c_9679 => ?_) (fun c_9679 => ?_)
          · skip
            refine lv_goto (tgt := 1804) hx hb dL_law_1630 (by decide) ?_
            exact lk_tail hC hA2 (lv_sub hl [2, 6] rfl) hS (Nat.le_of_ble_eq_true rfl) (Nat.le_of_ble_eq_true rfl)
          · exact absurd ((lg_cmp_eq _ _).mpr (qx_w1 c_94 c_9456 (fun q => c_96 q.2) (by rw [c_9464]; decide))) c_9679
      · exact absurd (by decide) c_9677
    · skip
      subst w_9485
      subst w_9486
      exact absurd c_9483 c_96
    · skip
      subst w_9502
      subst w_9503
      exact absurd c_9498 c_96
    · skip
      subst w_9519
      subst w_9520
      exact absurd c_9515 c_96
    · skip
      subst w_9533
      subst w_9534
      exact absurd c_9532 c_97
    · skip
      subst w_9549
      subst w_9550
      exact absurd c_99 c_9548
    · skip
      subst w_9565
      subst w_9566
      obtain ⟨hP, hD⟩ := va_join (wr := [(h0, .inr (10, [.ref x0, .int 0, .ref x1, .ref x2, .ref x3, .ref x4, .ref x5, .ref x6, .ref x7, .ref x8, .int 0, .int 3000])), (o0, .inl (kA 1, 1, .inr (.inl (vp_updL (fun _ => 0) 0 (n_cut (xs 2) (n_combine (xs 1) 1 (n_cut (xs 2) ((((xs 4).toInt64) <<< ((32 : Int32).toInt64 &&& 63)) ||| (((xs 5).toInt64) &&& 4294967295))) (n_cut (xs 3) ((((xs 6).toInt64) <<< ((32 : Int32).toInt64 &&& 63)) ||| (((xs 7).toInt64) &&& 4294967295)))))))))]) (w1 := [(m0, .inr (11, y0.set 9 (.int 0)))]) hP hD [0] [1, 2] rfl rfl (by decide) (by decide) hk1 hFc hP1 hD1
      generalize H1 = H at hP hS ⊢
      have hP : va_P D vwCl [(h0, .inr (10, [.ref x0, .int 0, .ref x1, .ref x2, .ref x3, .ref x4, .ref x5, .ref x6, .ref x7, .ref x8, .int 0, .int 3000])), (o0, .inl (kA 1, 1, .inr (.inl (vp_updL (fun _ => 0) 0 (n_cut (xs 2) (n_combine (xs 1) 1 (n_cut (xs 2) ((((xs 4).toInt64) <<< ((32 : Int32).toInt64 &&& 63)) ||| (((xs 5).toInt64) &&& 4294967295))) (n_cut (xs 3) ((((xs 6).toInt64) <<< ((32 : Int32).toInt64 &&& 63)) ||| (((xs 7).toInt64) &&& 4294967295))))))))), (m0, .inr (11, y0.set 9 (.int 0)))] H := hP
      have hD : va_D A [(h0, .inr (10, [.ref x0, .int 0, .ref x1, .ref x2, .ref x3, .ref x4, .ref x5, .ref x6, .ref x7, .ref x8, .int 0, .int 3000])), (o0, .inl (kA 1, 1, .inr (.inl (vp_updL (fun _ => 0) 0 (n_cut (xs 2) (n_combine (xs 1) 1 (n_cut (xs 2) ((((xs 4).toInt64) <<< ((32 : Int32).toInt64 &&& 63)) ||| (((xs 5).toInt64) &&& 4294967295))) (n_cut (xs 3) ((((xs 6).toInt64) <<< ((32 : Int32).toInt64 &&& 63)) ||| (((xs 7).toInt64) &&& 4294967295))))))))), (m0, .inr (11, y0.set 9 (.int 0)))] := hD
      refine lv_lstore (lv' := [(6, .long (n_cut (xs 2) (r_two 242 1 (n_cut (xs 2) ((((xs 4).toInt64) <<< ((32 : Int32).toInt64 &&& 63)) ||| (((xs 5).toInt64) &&& 4294967295))) (n_cut (xs 3) ((((xs 6).toInt64) <<< ((32 : Int32).toInt64 &&& 63)) ||| (((xs 7).toInt64) &&& 4294967295)))))), (5, .int 0), (0, .ref b), (1, .ref h0), (2, .ref m0), (3, .ref o0), (4, .int 0)]) hx hb dL_law_1601 hl (by decide) rfl (fun ls hl => ?_)
      refine lv_aload_n hx hb dL_law_1603 rfl (lv_at hl 4 rfl) ?_
      have hPc := hP.sub (ws' := [(m0, .inr (11, y0.set 9 (.int 0)))]) [2] rfl
      have hDc := hD.sub (ws' := [(m0, .inr (11, y0.set 9 (.int 0)))]) [2] (by decide) rfl
      have hFc := va_free (wc := [(m0, .inr (11, y0.set 9 (.int 0)))]) hD hS hA [2] rfl
      refine va_calli (va_runV (As := []) (rest := []) ⟨hx, hb, hml, hown, hts⟩ (a94_X12_thrown l  D kA V H.size m0 (y0.set 9 (.int 0)) (fun k hk => (by rw [List.length_set]; exact (hq k hk))) (List.getElem?_set_self (hq 9 (by decide)))) (cwV 0 hts (gw_V gw_1879 gw_1880 gw_1881 gw_16 gw_1882) rfl rfl rfl (by decide +kernel) ⟨(Nat.le_of_ble_eq_true rfl), (Nat.le_of_ble_eq_true rfl)⟩) ⟨aP.blind, va_recv hK hP (ci := 11) (q0 := 2) rfl rfl, aP.pre hE hS hPc hK hDc hFc⟩ rfl rfl hl.1 rfl (lv_room (Nat.le_of_ble_eq_true rfl)) dL_law_1604 ⟨(Nat.le_of_ble_eq_true rfl), (Nat.le_of_ble_eq_true rfl)⟩) hS (fun q _ h => hFc q h) hFc (fun r_9680 u t H1 locs ht hvm hw hB hz1 hk1 hS => ?_)
      obtain ⟨hP1, hD1⟩ := hB
      rw [ht] at hP1
      try dsimp only at hw hP1 hD1
      have w_9681 := hw
      subst w_9681
      obtain ⟨hP, hD⟩ := va_join (wr := [(h0, .inr (10, [.ref x0, .int 0, .ref x1, .ref x2, .ref x3, .ref x4, .ref x5, .ref x6, .ref x7, .ref x8, .int 0, .int 3000])), (o0, .inl (kA 1, 1, .inr (.inl (vp_updL (fun _ => 0) 0 (n_cut (xs 2) (n_combine (xs 1) 1 (n_cut (xs 2) ((((xs 4).toInt64) <<< ((32 : Int32).toInt64 &&& 63)) ||| (((xs 5).toInt64) &&& 4294967295))) (n_cut (xs 3) ((((xs 6).toInt64) <<< ((32 : Int32).toInt64 &&& 63)) ||| (((xs 7).toInt64) &&& 4294967295)))))))))]) (w1 := [(m0, .inr (11, (y0.set 9 (.int 0))))]) hP hD [2] [0, 1] rfl rfl (by decide) (by decide) hk1 hFc hP1 hD1
      generalize H1 = H at hP hS ⊢
      have hP : va_P D vwCl [(h0, .inr (10, [.ref x0, .int 0, .ref x1, .ref x2, .ref x3, .ref x4, .ref x5, .ref x6, .ref x7, .ref x8, .int 0, .int 3000])), (o0, .inl (kA 1, 1, .inr (.inl (vp_updL (fun _ => 0) 0 (n_cut (xs 2) (n_combine (xs 1) 1 (n_cut (xs 2) ((((xs 4).toInt64) <<< ((32 : Int32).toInt64 &&& 63)) ||| (((xs 5).toInt64) &&& 4294967295))) (n_cut (xs 3) ((((xs 6).toInt64) <<< ((32 : Int32).toInt64 &&& 63)) ||| (((xs 7).toInt64) &&& 4294967295))))))))), (m0, .inr (11, (y0.set 9 (.int 0))))] H := hP
      have hD : va_D A [(h0, .inr (10, [.ref x0, .int 0, .ref x1, .ref x2, .ref x3, .ref x4, .ref x5, .ref x6, .ref x7, .ref x8, .int 0, .int 3000])), (o0, .inl (kA 1, 1, .inr (.inl (vp_updL (fun _ => 0) 0 (n_cut (xs 2) (n_combine (xs 1) 1 (n_cut (xs 2) ((((xs 4).toInt64) <<< ((32 : Int32).toInt64 &&& 63)) ||| (((xs 5).toInt64) &&& 4294967295))) (n_cut (xs 3) ((((xs 6).toInt64) <<< ((32 : Int32).toInt64 &&& 63)) ||| (((xs 7).toInt64) &&& 4294967295))))))))), (m0, .inr (11, (y0.set 9 (.int 0))))] := hD
      refine lv_iload hx hb dL_law_1607 (lv_at hl 1 rfl) ?_
      refine lv_icmp_eq (tgt := 1614) hx hb dL_law_1609 (by decide) (fun c_9682 => ?_) (fun c_9682 => ?_)
      · skip
        refine lv_iload hx hb dL_law_1614 (lv_at hl 1 rfl) ?_
        refine lv_if_ne (tgt := 1630) hx hb dL_law_1616 (by decide) (fun c_9683 => ?_) (fun c_9683 => ?_)
        · exact absurd (by decide) c_9683
        · skip
          refine lv_aload_n hx hb dL_law_1619 rfl (lv_at hl 5 rfl) ?_
          refine lv_iconst (v := 0) hx hb dL_law_1620 (by decide) ?_
          refine va_lald hx hb hK hP 1 1 rfl rfl (show vp_in 0 1 by unfold vp_in; decide) dL_law_1621 ?_
          refine W.eq (g2 := F0 m 1622 ls [.long (n_cut (xs 2) (n_combine (xs 1) 1 (n_cut (xs 2) ((((xs 4).toInt64) <<< ((32 : Int32).toInt64 &&& 63)) ||| (((xs 5).toInt64) &&& 4294967295))) (n_cut (xs 3) ((((xs 6).toInt64) <<< ((32 : Int32).toInt64 &&& 63)) ||| (((xs 7).toInt64) &&& 4294967295)))))]) rfl ?_
          refine lv_lload hx hb dL_law_1622 (lv_at hl 0 rfl) ?_
          refine W.lcmp hx hb dL_law_1624 ?_
          refine lv_if_eq (tgt := 1630) hx hb dL_law_1625 (by decide) (fun c_9684 => ?_) (fun c_9684 => ?_)
          · skip
            refine lv_goto (tgt := 1804) hx hb dL_law_1630 (by decide) ?_
            exact lk_tail hC hA2 (lv_sub hl [2, 6] rfl) hS (Nat.le_of_ble_eq_true rfl) (Nat.le_of_ble_eq_true rfl)
          · exact absurd ((lg_cmp_eq _ _).mpr (qx_w1 c_94 c_9552 (fun q => c_96 q.2) (by rw [c_9559]; decide))) c_9684
      · exact absurd (by decide) c_9682
    · skip
      subst w_9578
      subst w_9579
      exact absurd c_9577 c_97
    · skip
      subst w_9593
      subst w_9594
      exact absurd c_99 c_9592
    · skip
      subst w_9608
      subst w_9609
      obtain ⟨hP, hD⟩ := va_join (wr := [(h0, .inr (10, [.ref x0, .int 0, .ref x1, .ref x2, .ref x3, .ref x4, .ref x5, .ref x6, .ref x7, .ref x8, .int 0, .int 3000])), (o0, .inl (kA 1, 1, .inr (.inl (vp_updL (fun _ => 0) 0 (n_cut (xs 2) (n_combine (xs 1) 1 (n_cut (xs 2) ((((xs 4).toInt64) <<< ((32 : Int32).toInt64 &&& 63)) ||| (((xs 5).toInt64) &&& 4294967295))) (n_cut (xs 3) ((((xs 6).toInt64) <<< ((32 : Int32).toInt64 &&& 63)) ||| (((xs 7).toInt64) &&& 4294967295)))))))))]) (w1 := [(m0, .inr (11, y0.set 9 (.int 0)))]) hP hD [0] [1, 2] rfl rfl (by decide) (by decide) hk1 hFc hP1 hD1
      generalize H1 = H at hP hS ⊢
      have hP : va_P D vwCl [(h0, .inr (10, [.ref x0, .int 0, .ref x1, .ref x2, .ref x3, .ref x4, .ref x5, .ref x6, .ref x7, .ref x8, .int 0, .int 3000])), (o0, .inl (kA 1, 1, .inr (.inl (vp_updL (fun _ => 0) 0 (n_cut (xs 2) (n_combine (xs 1) 1 (n_cut (xs 2) ((((xs 4).toInt64) <<< ((32 : Int32).toInt64 &&& 63)) ||| (((xs 5).toInt64) &&& 4294967295))) (n_cut (xs 3) ((((xs 6).toInt64) <<< ((32 : Int32).toInt64 &&& 63)) ||| (((xs 7).toInt64) &&& 4294967295))))))))), (m0, .inr (11, y0.set 9 (.int 0)))] H := hP
      have hD : va_D A [(h0, .inr (10, [.ref x0, .int 0, .ref x1, .ref x2, .ref x3, .ref x4, .ref x5, .ref x6, .ref x7, .ref x8, .int 0, .int 3000])), (o0, .inl (kA 1, 1, .inr (.inl (vp_updL (fun _ => 0) 0 (n_cut (xs 2) (n_combine (xs 1) 1 (n_cut (xs 2) ((((xs 4).toInt64) <<< ((32 : Int32).toInt64 &&& 63)) ||| (((xs 5).toInt64) &&& 4294967295))) (n_cut (xs 3) ((((xs 6).toInt64) <<< ((32 : Int32).toInt64 &&& 63)) ||| (((xs 7).toInt64) &&& 4294967295))))))))), (m0, .inr (11, y0.set 9 (.int 0)))] := hD
      refine lv_lstore (lv' := [(6, .long (n_cut (xs 2) (r_two 241 1 (n_cut (xs 2) ((((xs 4).toInt64) <<< ((32 : Int32).toInt64 &&& 63)) ||| (((xs 5).toInt64) &&& 4294967295))) (n_cut (xs 3) ((((xs 6).toInt64) <<< ((32 : Int32).toInt64 &&& 63)) ||| (((xs 7).toInt64) &&& 4294967295)))))), (5, .int 0), (0, .ref b), (1, .ref h0), (2, .ref m0), (3, .ref o0), (4, .int 0)]) hx hb dL_law_1601 hl (by decide) rfl (fun ls hl => ?_)
      refine lv_aload_n hx hb dL_law_1603 rfl (lv_at hl 4 rfl) ?_
      have hPc := hP.sub (ws' := [(m0, .inr (11, y0.set 9 (.int 0)))]) [2] rfl
      have hDc := hD.sub (ws' := [(m0, .inr (11, y0.set 9 (.int 0)))]) [2] (by decide) rfl
      have hFc := va_free (wc := [(m0, .inr (11, y0.set 9 (.int 0)))]) hD hS hA [2] rfl
      refine va_calli (va_runV (As := []) (rest := []) ⟨hx, hb, hml, hown, hts⟩ (a94_X12_thrown l  D kA V H.size m0 (y0.set 9 (.int 0)) (fun k hk => (by rw [List.length_set]; exact (hq k hk))) (List.getElem?_set_self (hq 9 (by decide)))) (cwV 0 hts (gw_V gw_1879 gw_1880 gw_1881 gw_16 gw_1882) rfl rfl rfl (by decide +kernel) ⟨(Nat.le_of_ble_eq_true rfl), (Nat.le_of_ble_eq_true rfl)⟩) ⟨aP.blind, va_recv hK hP (ci := 11) (q0 := 2) rfl rfl, aP.pre hE hS hPc hK hDc hFc⟩ rfl rfl hl.1 rfl (lv_room (Nat.le_of_ble_eq_true rfl)) dL_law_1604 ⟨(Nat.le_of_ble_eq_true rfl), (Nat.le_of_ble_eq_true rfl)⟩) hS (fun q _ h => hFc q h) hFc (fun r_9685 u t H1 locs ht hvm hw hB hz1 hk1 hS => ?_)
      obtain ⟨hP1, hD1⟩ := hB
      rw [ht] at hP1
      try dsimp only at hw hP1 hD1
      have w_9686 := hw
      subst w_9686
      obtain ⟨hP, hD⟩ := va_join (wr := [(h0, .inr (10, [.ref x0, .int 0, .ref x1, .ref x2, .ref x3, .ref x4, .ref x5, .ref x6, .ref x7, .ref x8, .int 0, .int 3000])), (o0, .inl (kA 1, 1, .inr (.inl (vp_updL (fun _ => 0) 0 (n_cut (xs 2) (n_combine (xs 1) 1 (n_cut (xs 2) ((((xs 4).toInt64) <<< ((32 : Int32).toInt64 &&& 63)) ||| (((xs 5).toInt64) &&& 4294967295))) (n_cut (xs 3) ((((xs 6).toInt64) <<< ((32 : Int32).toInt64 &&& 63)) ||| (((xs 7).toInt64) &&& 4294967295)))))))))]) (w1 := [(m0, .inr (11, (y0.set 9 (.int 0))))]) hP hD [2] [0, 1] rfl rfl (by decide) (by decide) hk1 hFc hP1 hD1
      generalize H1 = H at hP hS ⊢
      have hP : va_P D vwCl [(h0, .inr (10, [.ref x0, .int 0, .ref x1, .ref x2, .ref x3, .ref x4, .ref x5, .ref x6, .ref x7, .ref x8, .int 0, .int 3000])), (o0, .inl (kA 1, 1, .inr (.inl (vp_updL (fun _ => 0) 0 (n_cut (xs 2) (n_combine (xs 1) 1 (n_cut (xs 2) ((((xs 4).toInt64) <<< ((32 : Int32).toInt64 &&& 63)) ||| (((xs 5).toInt64) &&& 4294967295))) (n_cut (xs 3) ((((xs 6).toInt64) <<< ((32 : Int32).toInt64 &&& 63)) ||| (((xs 7).toInt64) &&& 4294967295))))))))), (m0, .inr (11, (y0.set 9 (.int 0))))] H := hP
      have hD : va_D A [(h0, .inr (10, [.ref x0, .int 0, .ref x1, .ref x2, .ref x3, .ref x4, .ref x5, .ref x6, .ref x7, .ref x8, .int 0, .int 3000])), (o0, .inl (kA 1, 1, .inr (.inl (vp_updL (fun _ => 0) 0 (n_cut (xs 2) (n_combine (xs 1) 1 (n_cut (xs 2) ((((xs 4).toInt64) <<< ((32 : Int32).toInt64 &&& 63)) ||| (((xs 5).toInt64) &&& 4294967295))) (n_cut (xs 3) ((((xs 6).toInt64) <<< ((32 : Int32).toInt64 &&& 63)) ||| (((xs 7).toInt64) &&& 4294967295))))))))), (m0, .inr (11, (y0.set 9 (.int 0))))] := hD
      refine lv_iload hx hb dL_law_1607 (lv_at hl 1 rfl) ?_
      refine lv_icmp_eq (tgt := 1614) hx hb dL_law_1609 (by decide) (fun c_9687 => ?_) (fun c_9687 => ?_)
      · skip
        refine lv_iload hx hb dL_law_1614 (lv_at hl 1 rfl) ?_
        refine lv_if_ne (tgt := 1630) hx hb dL_law_1616 (by decide) (fun c_9688 => ?_) (fun c_9688 => ?_)
        · exact absurd (by decide) c_9688
        · skip
          refine lv_aload_n hx hb dL_law_1619 rfl (lv_at hl 5 rfl) ?_
          refine lv_iconst (v := 0) hx hb dL_law_1620 (by decide) ?_
          refine va_lald hx hb hK hP 1 1 rfl rfl (show vp_in 0 1 by unfold vp_in; decide) dL_law_1621 ?_
          refine W.eq (g2 := F0 m 1622 ls [.long (n_cut (xs 2) (n_combine (xs 1) 1 (n_cut (xs 2) ((((xs 4).toInt64) <<< ((32 : Int32).toInt64 &&& 63)) ||| (((xs 5).toInt64) &&& 4294967295))) (n_cut (xs 3) ((((xs 6).toInt64) <<< ((32 : Int32).toInt64 &&& 63)) ||| (((xs 7).toInt64) &&& 4294967295)))))]) rfl ?_
          refine lv_lload hx hb dL_law_1622 (lv_at hl 0 rfl) ?_
          refine W.lcmp hx hb dL_law_1624 ?_
          refine lv_if_eq (tgt := 1630) hx hb dL_law_1625 (by decide) (fun c_9689 => ?_) (fun c_9689 => ?_)
          · skip
            refine lv_goto (tgt := 1804) hx hb dL_law_1630 (by decide) ?_
            exact lk_tail hC hA2 (lv_sub hl [2, 6] rfl) hS (Nat.le_of_ble_eq_true rfl) (Nat.le_of_ble_eq_true rfl)
          · exact absurd ((lg_cmp_eq _ _).mpr (qx_w1 c_94 c_9596 (fun q => c_96 q.2) (by rw [c_9602]; decide))) c_9689
      · exact absurd (by decide) c_9687
    · skip
      subst w_9620
      subst w_9621
      exact absurd c_9619 c_97
    · skip
      subst w_9634
      subst w_9635
      exact absurd c_99 c_9633
    · skip
      subst w_9648
      subst w_9649
      obtain ⟨hP, hD⟩ := va_join (wr := [(h0, .inr (10, [.ref x0, .int 0, .ref x1, .ref x2, .ref x3, .ref x4, .ref x5, .ref x6, .ref x7, .ref x8, .int 0, .int 3000])), (o0, .inl (kA 1, 1, .inr (.inl (vp_updL (fun _ => 0) 0 (n_cut (xs 2) (n_combine (xs 1) 1 (n_cut (xs 2) ((((xs 4).toInt64) <<< ((32 : Int32).toInt64 &&& 63)) ||| (((xs 5).toInt64) &&& 4294967295))) (n_cut (xs 3) ((((xs 6).toInt64) <<< ((32 : Int32).toInt64 &&& 63)) ||| (((xs 7).toInt64) &&& 4294967295)))))))))]) (w1 := [(m0, .inr (11, y0.set 9 (.int 0)))]) hP hD [0] [1, 2] rfl rfl (by decide) (by decide) hk1 hFc hP1 hD1
      generalize H1 = H at hP hS ⊢
      have hP : va_P D vwCl [(h0, .inr (10, [.ref x0, .int 0, .ref x1, .ref x2, .ref x3, .ref x4, .ref x5, .ref x6, .ref x7, .ref x8, .int 0, .int 3000])), (o0, .inl (kA 1, 1, .inr (.inl (vp_updL (fun _ => 0) 0 (n_cut (xs 2) (n_combine (xs 1) 1 (n_cut (xs 2) ((((xs 4).toInt64) <<< ((32 : Int32).toInt64 &&& 63)) ||| (((xs 5).toInt64) &&& 4294967295))) (n_cut (xs 3) ((((xs 6).toInt64) <<< ((32 : Int32).toInt64 &&& 63)) ||| (((xs 7).toInt64) &&& 4294967295))))))))), (m0, .inr (11, y0.set 9 (.int 0)))] H := hP
      have hD : va_D A [(h0, .inr (10, [.ref x0, .int 0, .ref x1, .ref x2, .ref x3, .ref x4, .ref x5, .ref x6, .ref x7, .ref x8, .int 0, .int 3000])), (o0, .inl (kA 1, 1, .inr (.inl (vp_updL (fun _ => 0) 0 (n_cut (xs 2) (n_combine (xs 1) 1 (n_cut (xs 2) ((((xs 4).toInt64) <<< ((32 : Int32).toInt64 &&& 63)) ||| (((xs 5).toInt64) &&& 4294967295))) (n_cut (xs 3) ((((xs 6).toInt64) <<< ((32 : Int32).toInt64 &&& 63)) ||| (((xs 7).toInt64) &&& 4294967295))))))))), (m0, .inr (11, y0.set 9 (.int 0)))] := hD
      refine lv_lstore (lv' := [(6, .long (n_cut (xs 2) (r_two 240 1 (n_cut (xs 2) ((((xs 4).toInt64) <<< ((32 : Int32).toInt64 &&& 63)) ||| (((xs 5).toInt64) &&& 4294967295))) (n_cut (xs 3) ((((xs 6).toInt64) <<< ((32 : Int32).toInt64 &&& 63)) ||| (((xs 7).toInt64) &&& 4294967295)))))), (5, .int 0), (0, .ref b), (1, .ref h0), (2, .ref m0), (3, .ref o0), (4, .int 0)]) hx hb dL_law_1601 hl (by decide) rfl (fun ls hl => ?_)
      refine lv_aload_n hx hb dL_law_1603 rfl (lv_at hl 4 rfl) ?_
      have hPc := hP.sub (ws' := [(m0, .inr (11, y0.set 9 (.int 0)))]) [2] rfl
      have hDc := hD.sub (ws' := [(m0, .inr (11, y0.set 9 (.int 0)))]) [2] (by decide) rfl
      have hFc := va_free (wc := [(m0, .inr (11, y0.set 9 (.int 0)))]) hD hS hA [2] rfl
      refine va_calli (va_runV (As := []) (rest := []) ⟨hx, hb, hml, hown, hts⟩ (a94_X12_thrown l  D kA V H.size m0 (y0.set 9 (.int 0)) (fun k hk => (by rw [List.length_set]; exact (hq k hk))) (List.getElem?_set_self (hq 9 (by decide)))) (cwV 0 hts (gw_V gw_1879 gw_1880 gw_1881 gw_16 gw_1882) rfl rfl rfl (by decide +kernel) ⟨(Nat.le_of_ble_eq_true rfl), (Nat.le_of_ble_eq_true rfl)⟩) ⟨aP.blind, va_recv hK hP (ci := 11) (q0 := 2) rfl rfl, aP.pre hE hS hPc hK hDc hFc⟩ rfl rfl hl.1 rfl (lv_room (Nat.le_of_ble_eq_true rfl)) dL_law_1604 ⟨(Nat.le_of_ble_eq_true rfl), (Nat.le_of_ble_eq_true rfl)⟩) hS (fun q _ h => hFc q h) hFc (fun r_9690 u t H1 locs ht hvm hw hB hz1 hk1 hS => ?_)
      obtain ⟨hP1, hD1⟩ := hB
      rw [ht] at hP1
      try dsimp only at hw hP1 hD1
      have w_9691 := hw
      subst w_9691
      obtain ⟨hP, hD⟩ := va_join (wr := [(h0, .inr (10, [.ref x0, .int 0, .ref x1, .ref x2, .ref x3, .ref x4, .ref x5, .ref x6, .ref x7, .ref x8, .int 0, .int 3000])), (o0, .inl (kA 1, 1, .inr (.inl (vp_updL (fun _ => 0) 0 (n_cut (xs 2) (n_combine (xs 1) 1 (n_cut (xs 2) ((((xs 4).toInt64) <<< ((32 : Int32).toInt64 &&& 63)) ||| (((xs 5).toInt64) &&& 4294967295))) (n_cut (xs 3) ((((xs 6).toInt64) <<< ((32 : Int32).toInt64 &&& 63)) ||| (((xs 7).toInt64) &&& 4294967295)))))))))]) (w1 := [(m0, .inr (11, (y0.set 9 (.int 0))))]) hP hD [2] [0, 1] rfl rfl (by decide) (by decide) hk1 hFc hP1 hD1
      generalize H1 = H at hP hS ⊢
      have hP : va_P D vwCl [(h0, .inr (10, [.ref x0, .int 0, .ref x1, .ref x2, .ref x3, .ref x4, .ref x5, .ref x6, .ref x7, .ref x8, .int 0, .int 3000])), (o0, .inl (kA 1, 1, .inr (.inl (vp_updL (fun _ => 0) 0 (n_cut (xs 2) (n_combine (xs 1) 1 (n_cut (xs 2) ((((xs 4).toInt64) <<< ((32 : Int32).toInt64 &&& 63)) ||| (((xs 5).toInt64) &&& 4294967295))) (n_cut (xs 3) ((((xs 6).toInt64) <<< ((32 : Int32).toInt64 &&& 63)) ||| (((xs 7).toInt64) &&& 4294967295))))))))), (m0, .inr (11, (y0.set 9 (.int 0))))] H := hP
      have hD : va_D A [(h0, .inr (10, [.ref x0, .int 0, .ref x1, .ref x2, .ref x3, .ref x4, .ref x5, .ref x6, .ref x7, .ref x8, .int 0, .int 3000])), (o0, .inl (kA 1, 1, .inr (.inl (vp_updL (fun _ => 0) 0 (n_cut (xs 2) (n_combine (xs 1) 1 (n_cut (xs 2) ((((xs 4).toInt64) <<< ((32 : Int32).toInt64 &&& 63)) ||| (((xs 5).toInt64) &&& 4294967295))) (n_cut (xs 3) ((((xs 6).toInt64) <<< ((32 : Int32).toInt64 &&& 63)) ||| (((xs 7).toInt64) &&& 4294967295))))))))), (m0, .inr (11, (y0.set 9 (.int 0))))] := hD
      refine lv_iload hx hb dL_law_1607 (lv_at hl 1 rfl) ?_
      refine lv_icmp_eq (tgt := 1614) hx hb dL_law_1609 (by decide) (fun c_9692 => ?_) (fun c_9692 => ?_)
      · skip
        refine lv_iload hx hb dL_law_1614 (lv_at hl 1 rfl) ?_
        refine lv_if_ne (tgt := 1630) hx hb dL_law_1616 (by decide) (fun c_9693 => ?_) (fun c_9693 => ?_)
        · exact absurd (by decide) c_9693
        · skip
          refine lv_aload_n hx hb dL_law_1619 rfl (lv_at hl 5 rfl) ?_
          refine lv_iconst (v := 0) hx hb dL_law_1620 (by decide) ?_
          refine va_lald hx hb hK hP 1 1 rfl rfl (show vp_in 0 1 by unfold vp_in; decide) dL_law_1621 ?_
          refine W.eq (g2 := F0 m 1622 ls [.long (n_cut (xs 2) (n_combine (xs 1) 1 (n_cut (xs 2) ((((xs 4).toInt64) <<< ((32 : Int32).toInt64 &&& 63)) ||| (((xs 5).toInt64) &&& 4294967295))) (n_cut (xs 3) ((((xs 6).toInt64) <<< ((32 : Int32).toInt64 &&& 63)) ||| (((xs 7).toInt64) &&& 4294967295)))))]) rfl ?_
          refine lv_lload hx hb dL_law_1622 (lv_at hl 0 rfl) ?_
          refine W.lcmp hx hb dL_law_1624 ?_
          refine lv_if_eq (tgt := 1630) hx hb dL_law_1625 (by decide) (fun c_9694 => ?_) (fun c_9694 => ?_)
          · skip
            refine lv_goto (tgt := 1804) hx hb dL_law_1630 (by decide) ?_
            exact lk_tail hC hA2 (lv_sub hl [2, 6] rfl) hS (Nat.le_of_ble_eq_true rfl) (Nat.le_of_ble_eq_true rfl)
          · exact absurd ((lg_cmp_eq _ _).mpr (qx_w1 c_94 c_9637 (fun q => c_96 q.2) (by rw [c_9642]; decide))) c_9694
      · exact absurd (by decide) c_9692
  · skip
    subst w_112
    subst w_113
    obtain ⟨hP, hD⟩ := va_join (wr := [(m0, .inr (11, y0))]) (w1 := [(h0, .inr (10, [.ref x0, .int 0, .ref x1, .ref x2, .ref x3, .ref x4, .ref x5, .ref x6, .ref x7, .ref x8, .int 0, .int 3000])), (o0, .inl (kA 1, 1, .inr (.inl (vp_updL (fun _ => 0) 0 (n_cut (xs 2) (n_combine (xs 1) 1 (n_cut (xs 2) ((((xs 4).toInt64) <<< ((32 : Int32).toInt64 &&& 63)) ||| (((xs 5).toInt64) &&& 4294967295))) (n_cut (xs 3) ((((xs 6).toInt64) <<< ((32 : Int32).toInt64 &&& 63)) ||| (((xs 7).toInt64) &&& 4294967295)))))))))]) hP hD [0, 2] [1] rfl rfl (by decide) (by decide) hk1 hFc hP1 hD1
    generalize H1 = H at hP hS ⊢
    have hP : va_P D vwCl [(m0, .inr (11, y0)), (h0, .inr (10, [.ref x0, .int 0, .ref x1, .ref x2, .ref x3, .ref x4, .ref x5, .ref x6, .ref x7, .ref x8, .int 0, .int 3000])), (o0, .inl (kA 1, 1, .inr (.inl (vp_updL (fun _ => 0) 0 (n_cut (xs 2) (n_combine (xs 1) 1 (n_cut (xs 2) ((((xs 4).toInt64) <<< ((32 : Int32).toInt64 &&& 63)) ||| (((xs 5).toInt64) &&& 4294967295))) (n_cut (xs 3) ((((xs 6).toInt64) <<< ((32 : Int32).toInt64 &&& 63)) ||| (((xs 7).toInt64) &&& 4294967295)))))))))] H := hP
    have hD : va_D A [(m0, .inr (11, y0)), (h0, .inr (10, [.ref x0, .int 0, .ref x1, .ref x2, .ref x3, .ref x4, .ref x5, .ref x6, .ref x7, .ref x8, .int 0, .int 3000])), (o0, .inl (kA 1, 1, .inr (.inl (vp_updL (fun _ => 0) 0 (n_cut (xs 2) (n_combine (xs 1) 1 (n_cut (xs 2) ((((xs 4).toInt64) <<< ((32 : Int32).toInt64 &&& 63)) ||| (((xs 5).toInt64) &&& 4294967295))) (n_cut (xs 3) ((((xs 6).toInt64) <<< ((32 : Int32).toInt64 &&& 63)) ||| (((xs 7).toInt64) &&& 4294967295)))))))))] := hD
    refine lv_istore (lv' := [(5, .int 0), (0, .ref b), (1, .ref h0), (2, .ref m0), (3, .ref o0), (4, .int 0)]) hx hb dL_law_1531 hl (by decide) rfl (fun ls hl => ?_)
    refine lv_aload_n hx hb dL_law_1533 rfl (lv_at hl 3 rfl) ?_
    refine lv_aload_n hx hb dL_law_1534 rfl (lv_at hl 1 rfl) ?_
    refine lv_iload hx hb dL_law_1535 (lv_at hl 5 rfl) ?_
    refine lv_iconst (v := 1) hx hb dL_law_1537 (by decide) ?_
    refine lv_iadd hx hb dL_law_1538 ?_
    refine W.eq (g2 := F0 m 1539 ls [.int 1, .ref b, .ref m0]) rfl ?_
    refine va_sld hx hb hX hbl hbA hS (show vp_in 1 8 by unfold vp_in; decide) dL_law_1539 ?_
    refine W.eq (g2 := F0 m 1540 ls [.int (xs 1), .ref m0]) rfl ?_
    refine lv_aload_n hx hb dL_law_1540 rfl (lv_at hl 1 rfl) ?_
    refine lv_iload hx hb dL_law_1541 (lv_at hl 5 rfl) ?_
    refine lv_iconst (v := 2) hx hb dL_law_1543 (by decide) ?_
    refine lv_iadd hx hb dL_law_1544 ?_
    refine W.eq (g2 := F0 m 1545 ls [.int 2, .ref b, .int (xs 1), .ref m0]) rfl ?_
    refine va_sld hx hb hX hbl hbA hS (show vp_in 2 8 by unfold vp_in; decide) dL_law_1545 ?_
    refine W.eq (g2 := F0 m 1546 ls [.int (xs 2), .int (xs 1), .ref m0]) rfl ?_
    refine lv_aload_n hx hb dL_law_1546 rfl (lv_at hl 1 rfl) ?_
    refine lv_iload hx hb dL_law_1547 (lv_at hl 5 rfl) ?_
    refine lv_iconst (v := 3) hx hb dL_law_1549 (by decide) ?_
    refine lv_iadd hx hb dL_law_1550 ?_
    refine W.eq (g2 := F0 m 1551 ls [.int 3, .ref b, .int (xs 2), .int (xs 1), .ref m0]) rfl ?_
    refine va_sld hx hb hX hbl hbA hS (show vp_in 3 8 by unfold vp_in; decide) dL_law_1551 ?_
    refine W.eq (g2 := F0 m 1552 ls [.int (xs 3), .int (xs 2), .int (xs 1), .ref m0]) rfl ?_
    refine lv_aload_n hx hb dL_law_1552 rfl (lv_at hl 1 rfl) ?_
    refine lv_iload hx hb dL_law_1553 (lv_at hl 5 rfl) ?_
    refine lv_iconst (v := 4) hx hb dL_law_1555 (by decide) ?_
    refine lv_iadd hx hb dL_law_1556 ?_
    refine W.eq (g2 := F0 m 1557 ls [.int 4, .ref b, .int (xs 3), .int (xs 2), .int (xs 1), .ref m0]) rfl ?_
    refine va_sld hx hb hX hbl hbA hS (show vp_in 4 8 by unfold vp_in; decide) dL_law_1557 ?_
    refine W.eq (g2 := F0 m 1558 ls [.int (xs 4), .int (xs 3), .int (xs 2), .int (xs 1), .ref m0]) rfl ?_
    refine lv_i2l (v := (xs 4).toInt64) hx hb dL_law_1558 rfl ?_
    refine lv_bipush (v := 32) hx hb dL_law_1559 (by decide) ?_
    refine lv_lshl (v := ((xs 4).toInt64) <<< ((32 : Int32).toInt64 &&& 63)) hx hb dL_law_1561 rfl ?_
    refine lv_aload_n hx hb dL_law_1562 rfl (lv_at hl 1 rfl) ?_
    refine lv_iload hx hb dL_law_1563 (lv_at hl 5 rfl) ?_
    refine lv_iconst (v := 5) hx hb dL_law_1565 (by decide) ?_
    refine lv_iadd hx hb dL_law_1566 ?_
    refine W.eq (g2 := F0 m 1567 ls [.int 5, .ref b, .long (((xs 4).toInt64) <<< ((32 : Int32).toInt64 &&& 63)), .int (xs 3), .int (xs 2), .int (xs 1), .ref m0]) rfl ?_
    refine va_sld hx hb hX hbl hbA hS (show vp_in 5 8 by unfold vp_in; decide) dL_law_1567 ?_
    refine W.eq (g2 := F0 m 1568 ls [.int (xs 5), .long (((xs 4).toInt64) <<< ((32 : Int32).toInt64 &&& 63)), .int (xs 3), .int (xs 2), .int (xs 1), .ref m0]) rfl ?_
    refine lv_i2l (v := (xs 5).toInt64) hx hb dL_law_1568 rfl ?_
    refine lv_ldc2 (v := 4294967295) hx hb hown (hG _ gw_2764) dL_law_1569 ?_
    refine lv_land hx hb dL_law_1572 ?_
    refine lv_lor hx hb dL_law_1573 ?_
    refine lv_aload_n hx hb dL_law_1574 rfl (lv_at hl 1 rfl) ?_
    refine lv_iload hx hb dL_law_1575 (lv_at hl 5 rfl) ?_
    refine lv_bipush (v := 6) hx hb dL_law_1577 (by decide) ?_
    refine lv_iadd hx hb dL_law_1579 ?_
    refine W.eq (g2 := F0 m 1580 ls [.int 6, .ref b, .long ((((xs 4).toInt64) <<< ((32 : Int32).toInt64 &&& 63)) ||| (((xs 5).toInt64) &&& 4294967295)), .int (xs 3), .int (xs 2), .int (xs 1), .ref m0]) rfl ?_
    refine va_sld hx hb hX hbl hbA hS (show vp_in 6 8 by unfold vp_in; decide) dL_law_1580 ?_
    refine W.eq (g2 := F0 m 1581 ls [.int (xs 6), .long ((((xs 4).toInt64) <<< ((32 : Int32).toInt64 &&& 63)) ||| (((xs 5).toInt64) &&& 4294967295)), .int (xs 3), .int (xs 2), .int (xs 1), .ref m0]) rfl ?_
    refine lv_i2l (v := (xs 6).toInt64) hx hb dL_law_1581 rfl ?_
    refine lv_bipush (v := 32) hx hb dL_law_1582 (by decide) ?_
    refine lv_lshl (v := ((xs 6).toInt64) <<< ((32 : Int32).toInt64 &&& 63)) hx hb dL_law_1584 rfl ?_
    refine lv_aload_n hx hb dL_law_1585 rfl (lv_at hl 1 rfl) ?_
    refine lv_iload hx hb dL_law_1586 (lv_at hl 5 rfl) ?_
    refine lv_bipush (v := 7) hx hb dL_law_1588 (by decide) ?_
    refine lv_iadd hx hb dL_law_1590 ?_
    refine W.eq (g2 := F0 m 1591 ls [.int 7, .ref b, .long (((xs 6).toInt64) <<< ((32 : Int32).toInt64 &&& 63)), .long ((((xs 4).toInt64) <<< ((32 : Int32).toInt64 &&& 63)) ||| (((xs 5).toInt64) &&& 4294967295)), .int (xs 3), .int (xs 2), .int (xs 1), .ref m0]) rfl ?_
    refine va_sld hx hb hX hbl hbA hS (show vp_in 7 8 by unfold vp_in; decide) dL_law_1591 ?_
    refine W.eq (g2 := F0 m 1592 ls [.int (xs 7), .long (((xs 6).toInt64) <<< ((32 : Int32).toInt64 &&& 63)), .long ((((xs 4).toInt64) <<< ((32 : Int32).toInt64 &&& 63)) ||| (((xs 5).toInt64) &&& 4294967295)), .int (xs 3), .int (xs 2), .int (xs 1), .ref m0]) rfl ?_
    refine lv_i2l (v := (xs 7).toInt64) hx hb dL_law_1592 rfl ?_
    refine lv_ldc2 (v := 4294967295) hx hb hown (hG _ gw_2764) dL_law_1593 ?_
    refine lv_land hx hb dL_law_1596 ?_
    refine lv_lor hx hb dL_law_1597 ?_
    have hPc := hP.sub (ws' := [(m0, .inr (11, y0))]) [0] rfl
    have hDc := hD.sub (ws' := [(m0, .inr (11, y0))]) [0] (by decide) rfl
    have hFc := va_free (wc := [(m0, .inr (11, y0))]) hD hS hA [0] rfl
    refine va_calll (va_runV (As := [.int (xs 1), .int (xs 2), .int (xs 3), .long ((((xs 4).toInt64) <<< ((32 : Int32).toInt64 &&& 63)) ||| (((xs 5).toInt64) &&& 4294967295)), .long ((((xs 6).toInt64) <<< ((32 : Int32).toInt64 &&& 63)) ||| (((xs 7).toInt64) &&& 4294967295))]) (rest := []) ⟨hx, hb, hml, hown, hts⟩ (a153_X12_work l  D kA V H.size m0 (xs 1) (xs 2) (xs 3) ((((xs 4).toInt64) <<< ((32 : Int32).toInt64 &&& 63)) ||| (((xs 5).toInt64) &&& 4294967295)) ((((xs 6).toInt64) <<< ((32 : Int32).toInt64 &&& 63)) ||| (((xs 7).toInt64) &&& 4294967295)) y0 (fun k hk => (hq k hk)) hq9) (cwV 5 hts (gw_V gw_2756 gw_2757 gw_2758 gw_16 gw_2759) rfl rfl rfl (by decide +kernel) ⟨(Nat.le_of_ble_eq_true rfl), (Nat.le_of_ble_eq_true rfl)⟩) ⟨aP.blind, va_recv hK hP (ci := 11) (q0 := 0) rfl rfl, aP.pre hE hS hPc hK hDc hFc⟩ rfl rfl hl.1 rfl (lv_room (Nat.le_of_ble_eq_true rfl)) dL_law_1598 ⟨(Nat.le_of_ble_eq_true rfl), (Nat.le_of_ble_eq_true rfl)⟩) hS (fun q _ h => hFc q h) hFc (fun r_9695 u t H1 locs ht hvm hw hB hz1 hk1 hS => ?_)
    obtain ⟨u_9696, rfl⟩ : ∃ z, z = u := ⟨u, rfl⟩
    obtain ⟨hP1, hD1⟩ := hB
    rw [ht] at hP1
    try dsimp only at hw hP1 hD1
    rcases hw with ⟨c_9697, c_9698, w_9699, w_9700⟩ | ⟨c_9701, c_9702, c_9703, w_9704, w_9705⟩ | ⟨c_9706, c_9707, c_9708, c_9709, w_9710, w_9711⟩ | ⟨c_9712, c_9713, c_9714, c_9715, c_9716, w_9717, w_9718⟩ | ⟨c_9719, c_9720, c_9721, c_9722, c_9723, w_9724, w_9725⟩ | ⟨c_9726, c_9727, c_9728, w_9729, w_9730⟩ | ⟨c_9731, c_9732, c_9733, c_9734, w_9735, w_9736⟩ | ⟨c_9737, c_9738, c_9739, c_9740, c_9741, w_9742, w_9743⟩ | ⟨c_9744, c_9745, c_9746, c_9747, c_9748, c_9749, w_9750, w_9751⟩ | ⟨c_9752, c_9753, c_9754, c_9755, c_9756, c_9757, w_9758, w_9759⟩ | ⟨c_9760, c_9761, c_9762, w_9763, w_9764⟩ | ⟨c_9765, c_9766, c_9767, c_9768, w_9769, w_9770⟩ | ⟨c_9771, c_9772, c_9773, c_9774, c_9775, w_9776, w_9777⟩ | ⟨c_9778, c_9779, c_9780, c_9781, c_9782, c_9783, w_9784, w_9785⟩ | ⟨c_9786, c_9787, c_9788, c_9789, c_9790, c_9791, c_9792, c_9793, c_9794, c_9795, c_9796, c_9797, c_9798, c_9799, c_9800, c_9801, c_9802, c_9803, c_9804, w_9805, w_9806⟩ | ⟨c_9807, c_9808, c_9809, c_9810, c_9811, c_9812, c_9813, c_9814, c_9815, c_9816, c_9817, c_9818, c_9819, c_9820, c_9821, c_9822, c_9823, c_9824, c_9825, c_9826, w_9827, w_9828⟩ | ⟨c_9829, c_9830, c_9831, c_9832, c_9833, c_9834, c_9835, c_9836, c_9837, c_9838, c_9839, c_9840, c_9841, c_9842, c_9843, c_9844, c_9845, c_9846, c_9847, c_9848, c_9849, w_9850, w_9851⟩ | ⟨c_9852, c_9853, c_9854, c_9855, c_9856, c_9857, c_9858, c_9859, c_9860, c_9861, c_9862, c_9863, c_9864, c_9865, c_9866, c_9867, c_9868, c_9869, c_9870, c_9871, c_9872, w_9873, w_9874⟩ | ⟨c_9875, c_9876, c_9877, c_9878, c_9879, c_9880, c_9881, c_9882, c_9883, c_9884, c_9885, c_9886, c_9887, c_9888, c_9889, c_9890, c_9891, c_9892, c_9893, w_9894, w_9895⟩ | ⟨c_9896, c_9897, c_9898, c_9899, c_9900, c_9901, c_9902, c_9903, c_9904, c_9905, c_9906, c_9907, c_9908, c_9909, c_9910, c_9911, c_9912, c_9913, c_9914, c_9915, w_9916, w_9917⟩ | ⟨c_9918, c_9919, c_9920, c_9921, c_9922, c_9923, c_9924, c_9925, c_9926, c_9927, c_9928, c_9929, c_9930, c_9931, c_9932, c_9933, c_9934, c_9935, w_9936, w_9937⟩ | ⟨c_9938, c_9939, c_9940, c_9941, c_9942, c_9943, c_9944, c_9945, c_9946, c_9947, c_9948, c_9949, c_9950, c_9951, c_9952, c_9953, c_9954, c_9955, c_9956, w_9957, w_9958⟩ | ⟨c_9959, c_9960, c_9961, c_9962, c_9963, c_9964, c_9965, c_9966, c_9967, c_9968, c_9969, c_9970, c_9971, c_9972, c_9973, c_9974, c_9975, w_9976, w_9977⟩ | ⟨c_9978, c_9979, c_9980, c_9981, c_9982, c_9983, c_9984, c_9985, c_9986, c_9987, c_9988, c_9989, c_9990, c_9991, c_9992, c_9993, c_9994, c_9995, c_9996, w_9997, w_9998⟩ | ⟨c_9999, c_10000, c_10001, c_10002, c_10003, c_10004, c_10005, c_10006, c_10007, c_10008, c_10009, c_10010, c_10011, c_10012, c_10013, c_10014, c_10015, c_10016, c_10017, w_10018, w_10019⟩ | ⟨c_10020, c_10021, c_10022, c_10023, c_10024, c_10025, c_10026, c_10027, c_10028, c_10029, c_10030, c_10031, c_10032, c_10033, c_10034, c_10035, w_10036, w_10037⟩ | ⟨c_10038, c_10039, c_10040, c_10041, c_10042, c_10043, c_10044, c_10045, c_10046, c_10047, c_10048, c_10049, c_10050, c_10051, c_10052, c_10053, c_10054, c_10055, w_10056, w_10057⟩ | ⟨c_10058, c_10059, c_10060, c_10061, c_10062, c_10063, c_10064, c_10065, c_10066, c_10067, c_10068, c_10069, c_10070, c_10071, c_10072, c_10073, c_10074, c_10075, w_10076, w_10077⟩ | ⟨c_10078, c_10079, c_10080, c_10081, c_10082, c_10083, c_10084, c_10085, c_10086, c_10087, c_10088, c_10089, c_10090, c_10091, c_10092, w_10093, w_10094⟩ | ⟨c_10095, c_10096, c_10097, c_10098, c_10099, c_10100, c_10101, c_10102, c_10103, c_10104, c_10105, c_10106, c_10107, c_10108, c_10109, c_10110, c_10111, w_10112, w_10113⟩ | ⟨c_10114, c_10115, c_10116, c_10117, c_10118, c_10119, c_10120, c_10121, c_10122, c_10123, c_10124, c_10125, c_10126, c_10127, c_10128, c_10129, c_10130, w_10131, w_10132⟩ | ⟨c_10133, c_10134, c_10135, c_10136, c_10137, c_10138, c_10139, c_10140, c_10141, c_10142, c_10143, c_10144, c_10145, c_10146, c_10147, w_10148, w_10149⟩ | ⟨c_10150, c_10151, c_10152, c_10153, c_10154, c_10155, c_10156, c_10157, c_10158, c_10159, c_10160, c_10161, c_10162, c_10163, c_10164, c_10165, c_10166, w_10167, w_10168⟩ | ⟨c_10169, c_10170, c_10171, c_10172, c_10173, c_10174, c_10175, c_10176, c_10177, c_10178, c_10179, c_10180, c_10181, c_10182, c_10183, c_10184, c_10185, w_10186, w_10187⟩ | ⟨c_10188, c_10189, c_10190, c_10191, c_10192, c_10193, c_10194, c_10195, c_10196, c_10197, c_10198, c_10199, c_10200, c_10201, c_10202, w_10203, w_10204⟩ | ⟨c_10205, c_10206, c_10207, c_10208, c_10209, c_10210, c_10211, c_10212, c_10213, c_10214, c_10215, c_10216, c_10217, c_10218, c_10219, c_10220, c_10221, w_10222, w_10223⟩ | ⟨c_10224, c_10225, c_10226, c_10227, c_10228, c_10229, c_10230, c_10231, c_10232, c_10233, c_10234, c_10235, c_10236, c_10237, c_10238, c_10239, c_10240, w_10241, w_10242⟩ | ⟨c_10243, c_10244, c_10245, c_10246, c_10247, c_10248, c_10249, c_10250, c_10251, c_10252, c_10253, c_10254, c_10255, w_10256, w_10257⟩ | ⟨c_10258, c_10259, c_10260, c_10261, c_10262, c_10263, c_10264, c_10265, c_10266, c_10267, c_10268, c_10269, c_10270, c_10271, c_10272, w_10273, w_10274⟩ | ⟨c_10275, c_10276, c_10277, c_10278, c_10279, c_10280, c_10281, c_10282, c_10283, c_10284, c_10285, c_10286, c_10287, c_10288, c_10289, w_10290, w_10291⟩ | ⟨c_10292, c_10293, c_10294, c_10295, c_10296, c_10297, c_10298, c_10299, c_10300, c_10301, c_10302, c_10303, c_10304, w_10305, w_10306⟩ | ⟨c_10307, c_10308, c_10309, c_10310, c_10311, c_10312, c_10313, c_10314, c_10315, c_10316, c_10317, c_10318, c_10319, c_10320, c_10321, w_10322, w_10323⟩ | ⟨c_10324, c_10325, c_10326, c_10327, c_10328, c_10329, c_10330, c_10331, c_10332, c_10333, c_10334, c_10335, c_10336, c_10337, c_10338, w_10339, w_10340⟩ | ⟨c_10341, c_10342, c_10343, c_10344, c_10345, c_10346, c_10347, c_10348, c_10349, c_10350, c_10351, c_10352, w_10353, w_10354⟩ | ⟨c_10355, c_10356, c_10357, c_10358, c_10359, c_10360, c_10361, c_10362, c_10363, c_10364, c_10365, c_10366, c_10367, c_10368, w_10369, w_10370⟩ | ⟨c_10371, c_10372, c_10373, c_10374, c_10375, c_10376, c_10377, c_10378, c_10379, c_10380, c_10381, c_10382, c_10383, c_10384, w_10385, w_10386⟩ | ⟨c_10387, c_10388, c_10389, c_10390, c_10391, c_10392, c_10393, c_10394, c_10395, c_10396, c_10397, w_10398, w_10399⟩ | ⟨c_10400, c_10401, c_10402, c_10403, c_10404, c_10405, c_10406, c_10407, c_10408, c_10409, c_10410, c_10411, c_10412, w_10413, w_10414⟩ | ⟨c_10415, c_10416, c_10417, c_10418, c_10419, c_10420, c_10421, c_10422, c_10423, c_10424, c_10425, c_10426, c_10427, w_10428, w_10429⟩ | ⟨c_10430, c_10431, c_10432, c_10433, c_10434, c_10435, c_10436, c_10437, c_10438, c_10439, w_10440, w_10441⟩ | ⟨c_10442, c_10443, c_10444, c_10445, c_10446, c_10447, c_10448, c_10449, c_10450, c_10451, c_10452, c_10453, w_10454, w_10455⟩ | ⟨c_10456, c_10457, c_10458, c_10459, c_10460, c_10461, c_10462, c_10463, c_10464, c_10465, c_10466, c_10467, w_10468, w_10469⟩
    · skip
      subst w_9699
      subst w_9700
      exact absurd c_9697 c_106
    · skip
      subst w_9704
      subst w_9705
      exact absurd c_9701 c_106
    · skip
      subst w_9710
      subst w_9711
      exact absurd c_9706 c_106
    · skip
      subst w_9717
      subst w_9718
      exact absurd c_9712 c_106
    · skip
      subst w_9724
      subst w_9725
      exact absurd c_9719 c_106
    · skip
      subst w_9729
      subst w_9730
      exact absurd c_9727 (Int32.not_lt.mpr c_107)
    · skip
      subst w_9735
      subst w_9736
      exact absurd c_9732 (Int32.not_lt.mpr c_107)
    · skip
      subst w_9742
      subst w_9743
      exact absurd c_9738 (Int32.not_lt.mpr c_107)
    · skip
      subst w_9750
      subst w_9751
      exact absurd c_9745 (Int32.not_lt.mpr c_107)
    · skip
      subst w_9758
      subst w_9759
      exact absurd c_9753 (Int32.not_lt.mpr c_107)
    · skip
      subst w_9763
      subst w_9764
      exact absurd c_9762 c_102
    · skip
      subst w_9769
      subst w_9770
      exact absurd c_9768 c_103
    · skip
      subst w_9776
      subst w_9777
      exact absurd c_9775 c_104
    · skip
      subst w_9784
      subst w_9785
      exact absurd c_9783 c_105
    · skip
      subst w_9805
      subst w_9806
      obtain ⟨hP, hD⟩ := va_join (wr := [(h0, .inr (10, [.ref x0, .int 0, .ref x1, .ref x2, .ref x3, .ref x4, .ref x5, .ref x6, .ref x7, .ref x8, .int 0, .int 3000])), (o0, .inl (kA 1, 1, .inr (.inl (vp_updL (fun _ => 0) 0 (n_cut (xs 2) (n_combine (xs 1) 1 (n_cut (xs 2) ((((xs 4).toInt64) <<< ((32 : Int32).toInt64 &&& 63)) ||| (((xs 5).toInt64) &&& 4294967295))) (n_cut (xs 3) ((((xs 6).toInt64) <<< ((32 : Int32).toInt64 &&& 63)) ||| (((xs 7).toInt64) &&& 4294967295)))))))))]) (w1 := [(m0, .inr (11, y0.set 9 (.int 0)))]) hP hD [0] [1, 2] rfl rfl (by decide) (by decide) hk1 hFc hP1 hD1
      generalize H1 = H at hP hS ⊢
      have hP : va_P D vwCl [(h0, .inr (10, [.ref x0, .int 0, .ref x1, .ref x2, .ref x3, .ref x4, .ref x5, .ref x6, .ref x7, .ref x8, .int 0, .int 3000])), (o0, .inl (kA 1, 1, .inr (.inl (vp_updL (fun _ => 0) 0 (n_cut (xs 2) (n_combine (xs 1) 1 (n_cut (xs 2) ((((xs 4).toInt64) <<< ((32 : Int32).toInt64 &&& 63)) ||| (((xs 5).toInt64) &&& 4294967295))) (n_cut (xs 3) ((((xs 6).toInt64) <<< ((32 : Int32).toInt64 &&& 63)) ||| (((xs 7).toInt64) &&& 4294967295))))))))), (m0, .inr (11, y0.set 9 (.int 0)))] H := hP
      have hD : va_D A [(h0, .inr (10, [.ref x0, .int 0, .ref x1, .ref x2, .ref x3, .ref x4, .ref x5, .ref x6, .ref x7, .ref x8, .int 0, .int 3000])), (o0, .inl (kA 1, 1, .inr (.inl (vp_updL (fun _ => 0) 0 (n_cut (xs 2) (n_combine (xs 1) 1 (n_cut (xs 2) ((((xs 4).toInt64) <<< ((32 : Int32).toInt64 &&& 63)) ||| (((xs 5).toInt64) &&& 4294967295))) (n_cut (xs 3) ((((xs 6).toInt64) <<< ((32 : Int32).toInt64 &&& 63)) ||| (((xs 7).toInt64) &&& 4294967295))))))))), (m0, .inr (11, y0.set 9 (.int 0)))] := hD
      refine lv_lstore (lv' := [(6, .long (n_cut (xs 2) (r_two 203 1 (n_cut (xs 2) ((((xs 4).toInt64) <<< ((32 : Int32).toInt64 &&& 63)) ||| (((xs 5).toInt64) &&& 4294967295))) (n_cut (xs 3) ((((xs 6).toInt64) <<< ((32 : Int32).toInt64 &&& 63)) ||| (((xs 7).toInt64) &&& 4294967295)))))), (5, .int 0), (0, .ref b), (1, .ref h0), (2, .ref m0), (3, .ref o0), (4, .int 0)]) hx hb dL_law_1601 hl (by decide) rfl (fun ls hl => ?_)
      refine lv_aload_n hx hb dL_law_1603 rfl (lv_at hl 4 rfl) ?_
      have hPc := hP.sub (ws' := [(m0, .inr (11, y0.set 9 (.int 0)))]) [2] rfl
      have hDc := hD.sub (ws' := [(m0, .inr (11, y0.set 9 (.int 0)))]) [2] (by decide) rfl
      have hFc := va_free (wc := [(m0, .inr (11, y0.set 9 (.int 0)))]) hD hS hA [2] rfl
      refine va_calli (va_runV (As := []) (rest := []) ⟨hx, hb, hml, hown, hts⟩ (a94_X12_thrown l  D kA V H.size m0 (y0.set 9 (.int 0)) (fun k hk => (by rw [List.length_set]; exact (hq k hk))) (List.getElem?_set_self (hq 9 (by decide)))) (cwV 0 hts (gw_V gw_1879 gw_1880 gw_1881 gw_16 gw_1882) rfl rfl rfl (by decide +kernel) ⟨(Nat.le_of_ble_eq_true rfl), (Nat.le_of_ble_eq_true rfl)⟩) ⟨aP.blind, va_recv hK hP (ci := 11) (q0 := 2) rfl rfl, aP.pre hE hS hPc hK hDc hFc⟩ rfl rfl hl.1 rfl (lv_room (Nat.le_of_ble_eq_true rfl)) dL_law_1604 ⟨(Nat.le_of_ble_eq_true rfl), (Nat.le_of_ble_eq_true rfl)⟩) hS (fun q _ h => hFc q h) hFc (fun r_10470 u t H1 locs ht hvm hw hB hz1 hk1 hS => ?_)
      obtain ⟨hP1, hD1⟩ := hB
      rw [ht] at hP1
      try dsimp only at hw hP1 hD1
      have w_10471 := hw
      subst w_10471
      obtain ⟨hP, hD⟩ := va_join (wr := [(h0, .inr (10, [.ref x0, .int 0, .ref x1, .ref x2, .ref x3, .ref x4, .ref x5, .ref x6, .ref x7, .ref x8, .int 0, .int 3000])), (o0, .inl (kA 1, 1, .inr (.inl (vp_updL (fun _ => 0) 0 (n_cut (xs 2) (n_combine (xs 1) 1 (n_cut (xs 2) ((((xs 4).toInt64) <<< ((32 : Int32).toInt64 &&& 63)) ||| (((xs 5).toInt64) &&& 4294967295))) (n_cut (xs 3) ((((xs 6).toInt64) <<< ((32 : Int32).toInt64 &&& 63)) ||| (((xs 7).toInt64) &&& 4294967295)))))))))]) (w1 := [(m0, .inr (11, (y0.set 9 (.int 0))))]) hP hD [2] [0, 1] rfl rfl (by decide) (by decide) hk1 hFc hP1 hD1
      generalize H1 = H at hP hS ⊢
      have hP : va_P D vwCl [(h0, .inr (10, [.ref x0, .int 0, .ref x1, .ref x2, .ref x3, .ref x4, .ref x5, .ref x6, .ref x7, .ref x8, .int 0, .int 3000])), (o0, .inl (kA 1, 1, .inr (.inl (vp_updL (fun _ => 0) 0 (n_cut (xs 2) (n_combine (xs 1) 1 (n_cut (xs 2) ((((xs 4).toInt64) <<< ((32 : Int32).toInt64 &&& 63)) ||| (((xs 5).toInt64) &&& 4294967295))) (n_cut (xs 3) ((((xs 6).toInt64) <<< ((32 : Int32).toInt64 &&& 63)) ||| (((xs 7).toInt64) &&& 4294967295))))))))), (m0, .inr (11, (y0.set 9 (.int 0))))] H := hP
      have hD : va_D A [(h0, .inr (10, [.ref x0, .int 0, .ref x1, .ref x2, .ref x3, .ref x4, .ref x5, .ref x6, .ref x7, .ref x8, .int 0, .int 3000])), (o0, .inl (kA 1, 1, .inr (.inl (vp_updL (fun _ => 0) 0 (n_cut (xs 2) (n_combine (xs 1) 1 (n_cut (xs 2) ((((xs 4).toInt64) <<< ((32 : Int32).toInt64 &&& 63)) ||| (((xs 5).toInt64) &&& 4294967295))) (n_cut (xs 3) ((((xs 6).toInt64) <<< ((32 : Int32).toInt64 &&& 63)) ||| (((xs 7).toInt64) &&& 4294967295))))))))), (m0, .inr (11, (y0.set 9 (.int 0))))] := hD
      refine lv_iload hx hb dL_law_1607 (lv_at hl 1 rfl) ?_
      refine lv_icmp_eq (tgt := 1614) hx hb dL_law_1609 (by decide) (fun c_10472 => ?_) (fun c_10472 => ?_)
      · skip
        refine lv_iload hx hb dL_law_1614 (lv_at hl 1 rfl) ?_
        refine lv_if_ne (tgt := 1630) hx hb dL_law_1616 (by decide) (fun c_10473 => ?_) (fun c_10473 => ?_)
        · exact absurd (by decide) c_10473
        · skip
          refine lv_aload_n hx hb dL_law_1619 rfl (lv_at hl 5 rfl) ?_
          refine lv_iconst (v := 0) hx hb dL_law_1620 (by decide) ?_
          refine va_lald hx hb hK hP 1 1 rfl rfl (show vp_in 0 1 by unfold vp_in; decide) dL_law_1621 ?_
          refine W.eq (g2 := F0 m 1622 ls [.long (n_cut (xs 2) (n_combine (xs 1) 1 (n_cut (xs 2) ((((xs 4).toInt64) <<< ((32 : Int32).toInt64 &&& 63)) ||| (((xs 5).toInt64) &&& 4294967295))) (n_cut (xs 3) ((((xs 6).toInt64) <<< ((32 : Int32).toInt64 &&& 63)) ||| (((xs 7).toInt64) &&& 4294967295)))))]) rfl ?_
          refine lv_lload hx hb dL_law_1622 (lv_at hl 0 rfl) ?_
          refine W.lcmp hx hb dL_law_1624 ?_
          refine lv_if_eq (tgt := 1630) hx hb dL_law_1625 (by decide) (fun c_10474 => ?_) (fun c_10474 => ?_)
          · skip
            refine lv_goto (tgt := 1804) hx hb dL_law_1630 (by decide) ?_
            exact lk_tail hC hA2 (lv_sub hl [2, 6] rfl) hS (Nat.le_of_ble_eq_true rfl) (Nat.le_of_ble_eq_true rfl)
          · exact absurd ((lg_cmp_eq _ _).mpr (qx_w1 c_106 c_9787 (fun q => q.1.elim c_109 c_110) (by unfold q_sign; rw [if_neg c_9792, if_neg c_9793, if_neg c_9794, if_neg c_109, if_neg c_110, if_neg c_9797, if_neg c_9798, if_neg c_9799, if_neg c_9800, if_neg c_9801]))) c_10474
      · exact absurd (by decide) c_10472
    · skip
      subst w_9827
      subst w_9828
      exact absurd c_111 c_9825
    · skip
      subst w_9850
      subst w_9851
      exact absurd c_111 c_9847
    · skip
      subst w_9873
      subst w_9874
      exact absurd c_111 c_9870
    · skip
      subst w_9894
      subst w_9895
      obtain ⟨hP, hD⟩ := va_join (wr := [(h0, .inr (10, [.ref x0, .int 0, .ref x1, .ref x2, .ref x3, .ref x4, .ref x5, .ref x6, .ref x7, .ref x8, .int 0, .int 3000])), (o0, .inl (kA 1, 1, .inr (.inl (vp_updL (fun _ => 0) 0 (n_cut (xs 2) (n_combine (xs 1) 1 (n_cut (xs 2) ((((xs 4).toInt64) <<< ((32 : Int32).toInt64 &&& 63)) ||| (((xs 5).toInt64) &&& 4294967295))) (n_cut (xs 3) ((((xs 6).toInt64) <<< ((32 : Int32).toInt64 &&& 63)) ||| (((xs 7).toInt64) &&& 4294967295)))))))))]) (w1 := [(m0, .inr (11, y0.set 9 (.int 0)))]) hP hD [0] [1, 2] rfl rfl (by decide) (by decide) hk1 hFc hP1 hD1
      generalize H1 = H at hP hS ⊢
      have hP : va_P D vwCl [(h0, .inr (10, [.ref x0, .int 0, .ref x1, .ref x2, .ref x3, .ref x4, .ref x5, .ref x6, .ref x7, .ref x8, .int 0, .int 3000])), (o0, .inl (kA 1, 1, .inr (.inl (vp_updL (fun _ => 0) 0 (n_cut (xs 2) (n_combine (xs 1) 1 (n_cut (xs 2) ((((xs 4).toInt64) <<< ((32 : Int32).toInt64 &&& 63)) ||| (((xs 5).toInt64) &&& 4294967295))) (n_cut (xs 3) ((((xs 6).toInt64) <<< ((32 : Int32).toInt64 &&& 63)) ||| (((xs 7).toInt64) &&& 4294967295))))))))), (m0, .inr (11, y0.set 9 (.int 0)))] H := hP
      have hD : va_D A [(h0, .inr (10, [.ref x0, .int 0, .ref x1, .ref x2, .ref x3, .ref x4, .ref x5, .ref x6, .ref x7, .ref x8, .int 0, .int 3000])), (o0, .inl (kA 1, 1, .inr (.inl (vp_updL (fun _ => 0) 0 (n_cut (xs 2) (n_combine (xs 1) 1 (n_cut (xs 2) ((((xs 4).toInt64) <<< ((32 : Int32).toInt64 &&& 63)) ||| (((xs 5).toInt64) &&& 4294967295))) (n_cut (xs 3) ((((xs 6).toInt64) <<< ((32 : Int32).toInt64 &&& 63)) ||| (((xs 7).toInt64) &&& 4294967295))))))))), (m0, .inr (11, y0.set 9 (.int 0)))] := hD
      refine lv_lstore (lv' := [(6, .long (n_cut (xs 2) (r_two 222 1 (n_cut (xs 2) ((((xs 4).toInt64) <<< ((32 : Int32).toInt64 &&& 63)) ||| (((xs 5).toInt64) &&& 4294967295))) (n_cut (xs 3) ((((xs 6).toInt64) <<< ((32 : Int32).toInt64 &&& 63)) ||| (((xs 7).toInt64) &&& 4294967295)))))), (5, .int 0), (0, .ref b), (1, .ref h0), (2, .ref m0), (3, .ref o0), (4, .int 0)]) hx hb dL_law_1601 hl (by decide) rfl (fun ls hl => ?_)
      refine lv_aload_n hx hb dL_law_1603 rfl (lv_at hl 4 rfl) ?_
      have hPc := hP.sub (ws' := [(m0, .inr (11, y0.set 9 (.int 0)))]) [2] rfl
      have hDc := hD.sub (ws' := [(m0, .inr (11, y0.set 9 (.int 0)))]) [2] (by decide) rfl
      have hFc := va_free (wc := [(m0, .inr (11, y0.set 9 (.int 0)))]) hD hS hA [2] rfl
      refine va_calli (va_runV (As := []) (rest := []) ⟨hx, hb, hml, hown, hts⟩ (a94_X12_thrown l  D kA V H.size m0 (y0.set 9 (.int 0)) (fun k hk => (by rw [List.length_set]; exact (hq k hk))) (List.getElem?_set_self (hq 9 (by decide)))) (cwV 0 hts (gw_V gw_1879 gw_1880 gw_1881 gw_16 gw_1882) rfl rfl rfl (by decide +kernel) ⟨(Nat.le_of_ble_eq_true rfl), (Nat.le_of_ble_eq_true rfl)⟩) ⟨aP.blind, va_recv hK hP (ci := 11) (q0 := 2) rfl rfl, aP.pre hE hS hPc hK hDc hFc⟩ rfl rfl hl.1 rfl (lv_room (Nat.le_of_ble_eq_true rfl)) dL_law_1604 ⟨(Nat.le_of_ble_eq_true rfl), (Nat.le_of_ble_eq_true rfl)⟩) hS (fun q _ h => hFc q h) hFc (fun r_10475 u t H1 locs ht hvm hw hB hz1 hk1 hS => ?_)
      obtain ⟨hP1, hD1⟩ := hB
      rw [ht] at hP1
      try dsimp only at hw hP1 hD1
      have w_10476 := hw
      subst w_10476
      obtain ⟨hP, hD⟩ := va_join (wr := [(h0, .inr (10, [.ref x0, .int 0, .ref x1, .ref x2, .ref x3, .ref x4, .ref x5, .ref x6, .ref x7, .ref x8, .int 0, .int 3000])), (o0, .inl (kA 1, 1, .inr (.inl (vp_updL (fun _ => 0) 0 (n_cut (xs 2) (n_combine (xs 1) 1 (n_cut (xs 2) ((((xs 4).toInt64) <<< ((32 : Int32).toInt64 &&& 63)) ||| (((xs 5).toInt64) &&& 4294967295))) (n_cut (xs 3) ((((xs 6).toInt64) <<< ((32 : Int32).toInt64 &&& 63)) ||| (((xs 7).toInt64) &&& 4294967295)))))))))]) (w1 := [(m0, .inr (11, (y0.set 9 (.int 0))))]) hP hD [2] [0, 1] rfl rfl (by decide) (by decide) hk1 hFc hP1 hD1
      generalize H1 = H at hP hS ⊢
      have hP : va_P D vwCl [(h0, .inr (10, [.ref x0, .int 0, .ref x1, .ref x2, .ref x3, .ref x4, .ref x5, .ref x6, .ref x7, .ref x8, .int 0, .int 3000])), (o0, .inl (kA 1, 1, .inr (.inl (vp_updL (fun _ => 0) 0 (n_cut (xs 2) (n_combine (xs 1) 1 (n_cut (xs 2) ((((xs 4).toInt64) <<< ((32 : Int32).toInt64 &&& 63)) ||| (((xs 5).toInt64) &&& 4294967295))) (n_cut (xs 3) ((((xs 6).toInt64) <<< ((32 : Int32).toInt64 &&& 63)) ||| (((xs 7).toInt64) &&& 4294967295))))))))), (m0, .inr (11, (y0.set 9 (.int 0))))] H := hP
      have hD : va_D A [(h0, .inr (10, [.ref x0, .int 0, .ref x1, .ref x2, .ref x3, .ref x4, .ref x5, .ref x6, .ref x7, .ref x8, .int 0, .int 3000])), (o0, .inl (kA 1, 1, .inr (.inl (vp_updL (fun _ => 0) 0 (n_cut (xs 2) (n_combine (xs 1) 1 (n_cut (xs 2) ((((xs 4).toInt64) <<< ((32 : Int32).toInt64 &&& 63)) ||| (((xs 5).toInt64) &&& 4294967295))) (n_cut (xs 3) ((((xs 6).toInt64) <<< ((32 : Int32).toInt64 &&& 63)) ||| (((xs 7).toInt64) &&& 4294967295))))))))), (m0, .inr (11, (y0.set 9 (.int 0))))] := hD
      refine lv_iload hx hb dL_law_1607 (lv_at hl 1 rfl) ?_
      refine lv_icmp_eq (tgt := 1614) hx hb dL_law_1609 (by decide) (fun c_10477 => ?_) (fun c_10477 => ?_)
      · skip
        refine lv_iload hx hb dL_law_1614 (lv_at hl 1 rfl) ?_
        refine lv_if_ne (tgt := 1630) hx hb dL_law_1616 (by decide) (fun c_10478 => ?_) (fun c_10478 => ?_)
        · exact absurd (by decide) c_10478
        · skip
          refine lv_aload_n hx hb dL_law_1619 rfl (lv_at hl 5 rfl) ?_
          refine lv_iconst (v := 0) hx hb dL_law_1620 (by decide) ?_
          refine va_lald hx hb hK hP 1 1 rfl rfl (show vp_in 0 1 by unfold vp_in; decide) dL_law_1621 ?_
          refine W.eq (g2 := F0 m 1622 ls [.long (n_cut (xs 2) (n_combine (xs 1) 1 (n_cut (xs 2) ((((xs 4).toInt64) <<< ((32 : Int32).toInt64 &&& 63)) ||| (((xs 5).toInt64) &&& 4294967295))) (n_cut (xs 3) ((((xs 6).toInt64) <<< ((32 : Int32).toInt64 &&& 63)) ||| (((xs 7).toInt64) &&& 4294967295)))))]) rfl ?_
          refine lv_lload hx hb dL_law_1622 (lv_at hl 0 rfl) ?_
          refine W.lcmp hx hb dL_law_1624 ?_
          refine lv_if_eq (tgt := 1630) hx hb dL_law_1625 (by decide) (fun c_10479 => ?_) (fun c_10479 => ?_)
          · skip
            refine lv_goto (tgt := 1804) hx hb dL_law_1630 (by decide) ?_
            exact lk_tail hC hA2 (lv_sub hl [2, 6] rfl) hS (Nat.le_of_ble_eq_true rfl) (Nat.le_of_ble_eq_true rfl)
          · exact absurd ((lg_cmp_eq _ _).mpr (qx_w1 c_106 c_9876 (fun q => q.1.elim (fun z => absurd (c_9890.symm.trans z) (by decide)) (fun z => absurd (c_9890.symm.trans z) (by decide))) (by rw [c_9890]; decide))) c_10479
      · exact absurd (by decide) c_10477
    · skip
      subst w_9916
      subst w_9917
      exact absurd c_111 c_9914
    · skip
      subst w_9936
      subst w_9937
      obtain ⟨hP, hD⟩ := va_join (wr := [(h0, .inr (10, [.ref x0, .int 0, .ref x1, .ref x2, .ref x3, .ref x4, .ref x5, .ref x6, .ref x7, .ref x8, .int 0, .int 3000])), (o0, .inl (kA 1, 1, .inr (.inl (vp_updL (fun _ => 0) 0 (n_cut (xs 2) (n_combine (xs 1) 1 (n_cut (xs 2) ((((xs 4).toInt64) <<< ((32 : Int32).toInt64 &&& 63)) ||| (((xs 5).toInt64) &&& 4294967295))) (n_cut (xs 3) ((((xs 6).toInt64) <<< ((32 : Int32).toInt64 &&& 63)) ||| (((xs 7).toInt64) &&& 4294967295)))))))))]) (w1 := [(m0, .inr (11, y0.set 9 (.int 0)))]) hP hD [0] [1, 2] rfl rfl (by decide) (by decide) hk1 hFc hP1 hD1
      generalize H1 = H at hP hS ⊢
      have hP : va_P D vwCl [(h0, .inr (10, [.ref x0, .int 0, .ref x1, .ref x2, .ref x3, .ref x4, .ref x5, .ref x6, .ref x7, .ref x8, .int 0, .int 3000])), (o0, .inl (kA 1, 1, .inr (.inl (vp_updL (fun _ => 0) 0 (n_cut (xs 2) (n_combine (xs 1) 1 (n_cut (xs 2) ((((xs 4).toInt64) <<< ((32 : Int32).toInt64 &&& 63)) ||| (((xs 5).toInt64) &&& 4294967295))) (n_cut (xs 3) ((((xs 6).toInt64) <<< ((32 : Int32).toInt64 &&& 63)) ||| (((xs 7).toInt64) &&& 4294967295))))))))), (m0, .inr (11, y0.set 9 (.int 0)))] H := hP
      have hD : va_D A [(h0, .inr (10, [.ref x0, .int 0, .ref x1, .ref x2, .ref x3, .ref x4, .ref x5, .ref x6, .ref x7, .ref x8, .int 0, .int 3000])), (o0, .inl (kA 1, 1, .inr (.inl (vp_updL (fun _ => 0) 0 (n_cut (xs 2) (n_combine (xs 1) 1 (n_cut (xs 2) ((((xs 4).toInt64) <<< ((32 : Int32).toInt64 &&& 63)) ||| (((xs 5).toInt64) &&& 4294967295))) (n_cut (xs 3) ((((xs 6).toInt64) <<< ((32 : Int32).toInt64 &&& 63)) ||| (((xs 7).toInt64) &&& 4294967295))))))))), (m0, .inr (11, y0.set 9 (.int 0)))] := hD
      refine lv_lstore (lv' := [(6, .long (n_cut (xs 2) (r_two 221 1 (n_cut (xs 2) ((((xs 4).toInt64) <<< ((32 : Int32).toInt64 &&& 63)) ||| (((xs 5).toInt64) &&& 4294967295))) (n_cut (xs 3) ((((xs 6).toInt64) <<< ((32 : Int32).toInt64 &&& 63)) ||| (((xs 7).toInt64) &&& 4294967295)))))), (5, .int 0), (0, .ref b), (1, .ref h0), (2, .ref m0), (3, .ref o0), (4, .int 0)]) hx hb dL_law_1601 hl (by decide) rfl (fun ls hl => ?_)
      refine lv_aload_n hx hb dL_law_1603 rfl (lv_at hl 4 rfl) ?_
      have hPc := hP.sub (ws' := [(m0, .inr (11, y0.set 9 (.int 0)))]) [2] rfl
      have hDc := hD.sub (ws' := [(m0, .inr (11, y0.set 9 (.int 0)))]) [2] (by decide) rfl
      have hFc := va_free (wc := [(m0, .inr (11, y0.set 9 (.int 0)))]) hD hS hA [2] rfl
      refine va_calli (va_runV (As := []) (rest := []) ⟨hx, hb, hml, hown, hts⟩ (a94_X12_thrown l  D kA V H.size m0 (y0.set 9 (.int 0)) (fun k hk => (by rw [List.length_set]; exact (hq k hk))) (List.getElem?_set_self (hq 9 (by decide)))) (cwV 0 hts (gw_V gw_1879 gw_1880 gw_1881 gw_16 gw_1882) rfl rfl rfl (by decide +kernel) ⟨(Nat.le_of_ble_eq_true rfl), (Nat.le_of_ble_eq_true rfl)⟩) ⟨aP.blind, va_recv hK hP (ci := 11) (q0 := 2) rfl rfl, aP.pre hE hS hPc hK hDc hFc⟩ rfl rfl hl.1 rfl (lv_room (Nat.le_of_ble_eq_true rfl)) dL_law_1604 ⟨(Nat.le_of_ble_eq_true rfl), (Nat.le_of_ble_eq_true rfl)⟩) hS (fun q _ h => hFc q h) hFc (fun r_10480 u t H1 locs ht hvm hw hB hz1 hk1 hS => ?_)
      obtain ⟨hP1, hD1⟩ := hB
      rw [ht] at hP1
      try dsimp only at hw hP1 hD1
      have w_10481 := hw
      subst w_10481
      obtain ⟨hP, hD⟩ := va_join (wr := [(h0, .inr (10, [.ref x0, .int 0, .ref x1, .ref x2, .ref x3, .ref x4, .ref x5, .ref x6, .ref x7, .ref x8, .int 0, .int 3000])), (o0, .inl (kA 1, 1, .inr (.inl (vp_updL (fun _ => 0) 0 (n_cut (xs 2) (n_combine (xs 1) 1 (n_cut (xs 2) ((((xs 4).toInt64) <<< ((32 : Int32).toInt64 &&& 63)) ||| (((xs 5).toInt64) &&& 4294967295))) (n_cut (xs 3) ((((xs 6).toInt64) <<< ((32 : Int32).toInt64 &&& 63)) ||| (((xs 7).toInt64) &&& 4294967295)))))))))]) (w1 := [(m0, .inr (11, (y0.set 9 (.int 0))))]) hP hD [2] [0, 1] rfl rfl (by decide) (by decide) hk1 hFc hP1 hD1
      generalize H1 = H at hP hS ⊢
      have hP : va_P D vwCl [(h0, .inr (10, [.ref x0, .int 0, .ref x1, .ref x2, .ref x3, .ref x4, .ref x5, .ref x6, .ref x7, .ref x8, .int 0, .int 3000])), (o0, .inl (kA 1, 1, .inr (.inl (vp_updL (fun _ => 0) 0 (n_cut (xs 2) (n_combine (xs 1) 1 (n_cut (xs 2) ((((xs 4).toInt64) <<< ((32 : Int32).toInt64 &&& 63)) ||| (((xs 5).toInt64) &&& 4294967295))) (n_cut (xs 3) ((((xs 6).toInt64) <<< ((32 : Int32).toInt64 &&& 63)) ||| (((xs 7).toInt64) &&& 4294967295))))))))), (m0, .inr (11, (y0.set 9 (.int 0))))] H := hP
      have hD : va_D A [(h0, .inr (10, [.ref x0, .int 0, .ref x1, .ref x2, .ref x3, .ref x4, .ref x5, .ref x6, .ref x7, .ref x8, .int 0, .int 3000])), (o0, .inl (kA 1, 1, .inr (.inl (vp_updL (fun _ => 0) 0 (n_cut (xs 2) (n_combine (xs 1) 1 (n_cut (xs 2) ((((xs 4).toInt64) <<< ((32 : Int32).toInt64 &&& 63)) ||| (((xs 5).toInt64) &&& 4294967295))) (n_cut (xs 3) ((((xs 6).toInt64) <<< ((32 : Int32).toInt64 &&& 63)) ||| (((xs 7).toInt64) &&& 4294967295))))))))), (m0, .inr (11, (y0.set 9 (.int 0))))] := hD
      refine lv_iload hx hb dL_law_1607 (lv_at hl 1 rfl) ?_
      refine lv_icmp_eq (tgt := 1614) hx hb dL_law_1609 (by decide) (fun c_10482 => ?_) (fun c_10482 => ?_)
      · skip
        refine lv_iload hx hb dL_law_1614 (lv_at hl 1 rfl) ?_
        refine lv_if_ne (tgt := 1630) hx hb dL_law_1616 (by decide) (fun c_10483 => ?_) (fun c_10483 => ?_)
        · exact absurd (by decide) c_10483
        · skip
          refine lv_aload_n hx hb dL_law_1619 rfl (lv_at hl 5 rfl) ?_
          refine lv_iconst (v := 0) hx hb dL_law_1620 (by decide) ?_
          refine va_lald hx hb hK hP 1 1 rfl rfl (show vp_in 0 1 by unfold vp_in; decide) dL_law_1621 ?_
          refine W.eq (g2 := F0 m 1622 ls [.long (n_cut (xs 2) (n_combine (xs 1) 1 (n_cut (xs 2) ((((xs 4).toInt64) <<< ((32 : Int32).toInt64 &&& 63)) ||| (((xs 5).toInt64) &&& 4294967295))) (n_cut (xs 3) ((((xs 6).toInt64) <<< ((32 : Int32).toInt64 &&& 63)) ||| (((xs 7).toInt64) &&& 4294967295)))))]) rfl ?_
          refine lv_lload hx hb dL_law_1622 (lv_at hl 0 rfl) ?_
          refine W.lcmp hx hb dL_law_1624 ?_
          refine lv_if_eq (tgt := 1630) hx hb dL_law_1625 (by decide) (fun c_10484 => ?_) (fun c_10484 => ?_)
          · skip
            refine lv_goto (tgt := 1804) hx hb dL_law_1630 (by decide) ?_
            exact lk_tail hC hA2 (lv_sub hl [2, 6] rfl) hS (Nat.le_of_ble_eq_true rfl) (Nat.le_of_ble_eq_true rfl)
          · exact absurd ((lg_cmp_eq _ _).mpr (qx_w1 c_106 c_9919 (fun q => q.1.elim (fun z => absurd (c_9932.symm.trans z) (by decide)) (fun z => absurd (c_9932.symm.trans z) (by decide))) (by rw [c_9932]; decide))) c_10484
      · exact absurd (by decide) c_10482
    · skip
      subst w_9957
      subst w_9958
      exact absurd c_111 c_9955
    · skip
      subst w_9976
      subst w_9977
      obtain ⟨hP, hD⟩ := va_join (wr := [(h0, .inr (10, [.ref x0, .int 0, .ref x1, .ref x2, .ref x3, .ref x4, .ref x5, .ref x6, .ref x7, .ref x8, .int 0, .int 3000])), (o0, .inl (kA 1, 1, .inr (.inl (vp_updL (fun _ => 0) 0 (n_cut (xs 2) (n_combine (xs 1) 1 (n_cut (xs 2) ((((xs 4).toInt64) <<< ((32 : Int32).toInt64 &&& 63)) ||| (((xs 5).toInt64) &&& 4294967295))) (n_cut (xs 3) ((((xs 6).toInt64) <<< ((32 : Int32).toInt64 &&& 63)) ||| (((xs 7).toInt64) &&& 4294967295)))))))))]) (w1 := [(m0, .inr (11, y0.set 9 (.int 0)))]) hP hD [0] [1, 2] rfl rfl (by decide) (by decide) hk1 hFc hP1 hD1
      generalize H1 = H at hP hS ⊢
      have hP : va_P D vwCl [(h0, .inr (10, [.ref x0, .int 0, .ref x1, .ref x2, .ref x3, .ref x4, .ref x5, .ref x6, .ref x7, .ref x8, .int 0, .int 3000])), (o0, .inl (kA 1, 1, .inr (.inl (vp_updL (fun _ => 0) 0 (n_cut (xs 2) (n_combine (xs 1) 1 (n_cut (xs 2) ((((xs 4).toInt64) <<< ((32 : Int32).toInt64 &&& 63)) ||| (((xs 5).toInt64) &&& 4294967295))) (n_cut (xs 3) ((((xs 6).toInt64) <<< ((32 : Int32).toInt64 &&& 63)) ||| (((xs 7).toInt64) &&& 4294967295))))))))), (m0, .inr (11, y0.set 9 (.int 0)))] H := hP
      have hD : va_D A [(h0, .inr (10, [.ref x0, .int 0, .ref x1, .ref x2, .ref x3, .ref x4, .ref x5, .ref x6, .ref x7, .ref x8, .int 0, .int 3000])), (o0, .inl (kA 1, 1, .inr (.inl (vp_updL (fun _ => 0) 0 (n_cut (xs 2) (n_combine (xs 1) 1 (n_cut (xs 2) ((((xs 4).toInt64) <<< ((32 : Int32).toInt64 &&& 63)) ||| (((xs 5).toInt64) &&& 4294967295))) (n_cut (xs 3) ((((xs 6).toInt64) <<< ((32 : Int32).toInt64 &&& 63)) ||| (((xs 7).toInt64) &&& 4294967295))))))))), (m0, .inr (11, y0.set 9 (.int 0)))] := hD
      refine lv_lstore (lv' := [(6, .long (n_cut (xs 2) (r_two 236 1 (n_cut (xs 2) ((((xs 4).toInt64) <<< ((32 : Int32).toInt64 &&& 63)) ||| (((xs 5).toInt64) &&& 4294967295))) (n_cut (xs 3) ((((xs 6).toInt64) <<< ((32 : Int32).toInt64 &&& 63)) ||| (((xs 7).toInt64) &&& 4294967295)))))), (5, .int 0), (0, .ref b), (1, .ref h0), (2, .ref m0), (3, .ref o0), (4, .int 0)]) hx hb dL_law_1601 hl (by decide) rfl (fun ls hl => ?_)
      refine lv_aload_n hx hb dL_law_1603 rfl (lv_at hl 4 rfl) ?_
      have hPc := hP.sub (ws' := [(m0, .inr (11, y0.set 9 (.int 0)))]) [2] rfl
      have hDc := hD.sub (ws' := [(m0, .inr (11, y0.set 9 (.int 0)))]) [2] (by decide) rfl
      have hFc := va_free (wc := [(m0, .inr (11, y0.set 9 (.int 0)))]) hD hS hA [2] rfl
      refine va_calli (va_runV (As := []) (rest := []) ⟨hx, hb, hml, hown, hts⟩ (a94_X12_thrown l  D kA V H.size m0 (y0.set 9 (.int 0)) (fun k hk => (by rw [List.length_set]; exact (hq k hk))) (List.getElem?_set_self (hq 9 (by decide)))) (cwV 0 hts (gw_V gw_1879 gw_1880 gw_1881 gw_16 gw_1882) rfl rfl rfl (by decide +kernel) ⟨(Nat.le_of_ble_eq_true rfl), (Nat.le_of_ble_eq_true rfl)⟩) ⟨aP.blind, va_recv hK hP (ci := 11) (q0 := 2) rfl rfl, aP.pre hE hS hPc hK hDc hFc⟩ rfl rfl hl.1 rfl (lv_room (Nat.le_of_ble_eq_true rfl)) dL_law_1604 ⟨(Nat.le_of_ble_eq_true rfl), (Nat.le_of_ble_eq_true rfl)⟩) hS (fun q _ h => hFc q h) hFc (fun r_10485 u t H1 locs ht hvm hw hB hz1 hk1 hS => ?_)
      obtain ⟨hP1, hD1⟩ := hB
      rw [ht] at hP1
      try dsimp only at hw hP1 hD1
      have w_10486 := hw
      subst w_10486
      obtain ⟨hP, hD⟩ := va_join (wr := [(h0, .inr (10, [.ref x0, .int 0, .ref x1, .ref x2, .ref x3, .ref x4, .ref x5, .ref x6, .ref x7, .ref x8, .int 0, .int 3000])), (o0, .inl (kA 1, 1, .inr (.inl (vp_updL (fun _ => 0) 0 (n_cut (xs 2) (n_combine (xs 1) 1 (n_cut (xs 2) ((((xs 4).toInt64) <<< ((32 : Int32).toInt64 &&& 63)) ||| (((xs 5).toInt64) &&& 4294967295))) (n_cut (xs 3) ((((xs 6).toInt64) <<< ((32 : Int32).toInt64 &&& 63)) ||| (((xs 7).toInt64) &&& 4294967295)))))))))]) (w1 := [(m0, .inr (11, (y0.set 9 (.int 0))))]) hP hD [2] [0, 1] rfl rfl (by decide) (by decide) hk1 hFc hP1 hD1
      generalize H1 = H at hP hS ⊢
      have hP : va_P D vwCl [(h0, .inr (10, [.ref x0, .int 0, .ref x1, .ref x2, .ref x3, .ref x4, .ref x5, .ref x6, .ref x7, .ref x8, .int 0, .int 3000])), (o0, .inl (kA 1, 1, .inr (.inl (vp_updL (fun _ => 0) 0 (n_cut (xs 2) (n_combine (xs 1) 1 (n_cut (xs 2) ((((xs 4).toInt64) <<< ((32 : Int32).toInt64 &&& 63)) ||| (((xs 5).toInt64) &&& 4294967295))) (n_cut (xs 3) ((((xs 6).toInt64) <<< ((32 : Int32).toInt64 &&& 63)) ||| (((xs 7).toInt64) &&& 4294967295))))))))), (m0, .inr (11, (y0.set 9 (.int 0))))] H := hP
      have hD : va_D A [(h0, .inr (10, [.ref x0, .int 0, .ref x1, .ref x2, .ref x3, .ref x4, .ref x5, .ref x6, .ref x7, .ref x8, .int 0, .int 3000])), (o0, .inl (kA 1, 1, .inr (.inl (vp_updL (fun _ => 0) 0 (n_cut (xs 2) (n_combine (xs 1) 1 (n_cut (xs 2) ((((xs 4).toInt64) <<< ((32 : Int32).toInt64 &&& 63)) ||| (((xs 5).toInt64) &&& 4294967295))) (n_cut (xs 3) ((((xs 6).toInt64) <<< ((32 : Int32).toInt64 &&& 63)) ||| (((xs 7).toInt64) &&& 4294967295))))))))), (m0, .inr (11, (y0.set 9 (.int 0))))] := hD
      refine lv_iload hx hb dL_law_1607 (lv_at hl 1 rfl) ?_
      refine lv_icmp_eq (tgt := 1614) hx hb dL_law_1609 (by decide) (fun c_10487 => ?_) (fun c_10487 => ?_)
      · skip
        refine lv_iload hx hb dL_law_1614 (lv_at hl 1 rfl) ?_
        refine lv_if_ne (tgt := 1630) hx hb dL_law_1616 (by decide) (fun c_10488 => ?_) (fun c_10488 => ?_)
        · exact absurd (by decide) c_10488
        · skip
          refine lv_aload_n hx hb dL_law_1619 rfl (lv_at hl 5 rfl) ?_
          refine lv_iconst (v := 0) hx hb dL_law_1620 (by decide) ?_
          refine va_lald hx hb hK hP 1 1 rfl rfl (show vp_in 0 1 by unfold vp_in; decide) dL_law_1621 ?_
          refine W.eq (g2 := F0 m 1622 ls [.long (n_cut (xs 2) (n_combine (xs 1) 1 (n_cut (xs 2) ((((xs 4).toInt64) <<< ((32 : Int32).toInt64 &&& 63)) ||| (((xs 5).toInt64) &&& 4294967295))) (n_cut (xs 3) ((((xs 6).toInt64) <<< ((32 : Int32).toInt64 &&& 63)) ||| (((xs 7).toInt64) &&& 4294967295)))))]) rfl ?_
          refine lv_lload hx hb dL_law_1622 (lv_at hl 0 rfl) ?_
          refine W.lcmp hx hb dL_law_1624 ?_
          refine lv_if_eq (tgt := 1630) hx hb dL_law_1625 (by decide) (fun c_10489 => ?_) (fun c_10489 => ?_)
          · skip
            refine lv_goto (tgt := 1804) hx hb dL_law_1630 (by decide) ?_
            exact lk_tail hC hA2 (lv_sub hl [2, 6] rfl) hS (Nat.le_of_ble_eq_true rfl) (Nat.le_of_ble_eq_true rfl)
          · exact absurd ((lg_cmp_eq _ _).mpr (qx_w1 c_106 c_9960 (fun q => q.1.elim (fun z => absurd (c_9972.symm.trans z) (by decide)) (fun z => absurd (c_9972.symm.trans z) (by decide))) (by rw [c_9972]; decide))) c_10489
      · exact absurd (by decide) c_10487
    · skip
      subst w_9997
      subst w_9998
      exact absurd c_111 c_9994
    · skip
      subst w_10018
      subst w_10019
      exact absurd c_111 c_10015
    · skip
      subst w_10036
      subst w_10037
      obtain ⟨hP, hD⟩ := va_join (wr := [(h0, .inr (10, [.ref x0, .int 0, .ref x1, .ref x2, .ref x3, .ref x4, .ref x5, .ref x6, .ref x7, .ref x8, .int 0, .int 3000])), (o0, .inl (kA 1, 1, .inr (.inl (vp_updL (fun _ => 0) 0 (n_cut (xs 2) (n_combine (xs 1) 1 (n_cut (xs 2) ((((xs 4).toInt64) <<< ((32 : Int32).toInt64 &&& 63)) ||| (((xs 5).toInt64) &&& 4294967295))) (n_cut (xs 3) ((((xs 6).toInt64) <<< ((32 : Int32).toInt64 &&& 63)) ||| (((xs 7).toInt64) &&& 4294967295)))))))))]) (w1 := [(m0, .inr (11, y0.set 9 (.int 0)))]) hP hD [0] [1, 2] rfl rfl (by decide) (by decide) hk1 hFc hP1 hD1
      generalize H1 = H at hP hS ⊢
      have hP : va_P D vwCl [(h0, .inr (10, [.ref x0, .int 0, .ref x1, .ref x2, .ref x3, .ref x4, .ref x5, .ref x6, .ref x7, .ref x8, .int 0, .int 3000])), (o0, .inl (kA 1, 1, .inr (.inl (vp_updL (fun _ => 0) 0 (n_cut (xs 2) (n_combine (xs 1) 1 (n_cut (xs 2) ((((xs 4).toInt64) <<< ((32 : Int32).toInt64 &&& 63)) ||| (((xs 5).toInt64) &&& 4294967295))) (n_cut (xs 3) ((((xs 6).toInt64) <<< ((32 : Int32).toInt64 &&& 63)) ||| (((xs 7).toInt64) &&& 4294967295))))))))), (m0, .inr (11, y0.set 9 (.int 0)))] H := hP
      have hD : va_D A [(h0, .inr (10, [.ref x0, .int 0, .ref x1, .ref x2, .ref x3, .ref x4, .ref x5, .ref x6, .ref x7, .ref x8, .int 0, .int 3000])), (o0, .inl (kA 1, 1, .inr (.inl (vp_updL (fun _ => 0) 0 (n_cut (xs 2) (n_combine (xs 1) 1 (n_cut (xs 2) ((((xs 4).toInt64) <<< ((32 : Int32).toInt64 &&& 63)) ||| (((xs 5).toInt64) &&& 4294967295))) (n_cut (xs 3) ((((xs 6).toInt64) <<< ((32 : Int32).toInt64 &&& 63)) ||| (((xs 7).toInt64) &&& 4294967295))))))))), (m0, .inr (11, y0.set 9 (.int 0)))] := hD
      refine lv_lstore (lv' := [(6, .long (n_cut (xs 2) (r_two 235 1 (n_cut (xs 2) ((((xs 4).toInt64) <<< ((32 : Int32).toInt64 &&& 63)) ||| (((xs 5).toInt64) &&& 4294967295))) (n_cut (xs 3) ((((xs 6).toInt64) <<< ((32 : Int32).toInt64 &&& 63)) ||| (((xs 7).toInt64) &&& 4294967295)))))), (5, .int 0), (0, .ref b), (1, .ref h0), (2, .ref m0), (3, .ref o0), (4, .int 0)]) hx hb dL_law_1601 hl (by decide) rfl (fun ls hl => ?_)
      refine lv_aload_n hx hb dL_law_1603 rfl (lv_at hl 4 rfl) ?_
      have hPc := hP.sub (ws' := [(m0, .inr (11, y0.set 9 (.int 0)))]) [2] rfl
      have hDc := hD.sub (ws' := [(m0, .inr (11, y0.set 9 (.int 0)))]) [2] (by decide) rfl
      have hFc := va_free (wc := [(m0, .inr (11, y0.set 9 (.int 0)))]) hD hS hA [2] rfl
      refine va_calli (va_runV (As := []) (rest := []) ⟨hx, hb, hml, hown, hts⟩ (a94_X12_thrown l  D kA V H.size m0 (y0.set 9 (.int 0)) (fun k hk => (by rw [List.length_set]; exact (hq k hk))) (List.getElem?_set_self (hq 9 (by decide)))) (cwV 0 hts (gw_V gw_1879 gw_1880 gw_1881 gw_16 gw_1882) rfl rfl rfl (by decide +kernel) ⟨(Nat.le_of_ble_eq_true rfl), (Nat.le_of_ble_eq_true rfl)⟩) ⟨aP.blind, va_recv hK hP (ci := 11) (q0 := 2) rfl rfl, aP.pre hE hS hPc hK hDc hFc⟩ rfl rfl hl.1 rfl (lv_room (Nat.le_of_ble_eq_true rfl)) dL_law_1604 ⟨(Nat.le_of_ble_eq_true rfl), (Nat.le_of_ble_eq_true rfl)⟩) hS (fun q _ h => hFc q h) hFc (fun r_10490 u t H1 locs ht hvm hw hB hz1 hk1 hS => ?_)
      obtain ⟨hP1, hD1⟩ := hB
      rw [ht] at hP1
      try dsimp only at hw hP1 hD1
      have w_10491 := hw
      subst w_10491
      obtain ⟨hP, hD⟩ := va_join (wr := [(h0, .inr (10, [.ref x0, .int 0, .ref x1, .ref x2, .ref x3, .ref x4, .ref x5, .ref x6, .ref x7, .ref x8, .int 0, .int 3000])), (o0, .inl (kA 1, 1, .inr (.inl (vp_updL (fun _ => 0) 0 (n_cut (xs 2) (n_combine (xs 1) 1 (n_cut (xs 2) ((((xs 4).toInt64) <<< ((32 : Int32).toInt64 &&& 63)) ||| (((xs 5).toInt64) &&& 4294967295))) (n_cut (xs 3) ((((xs 6).toInt64) <<< ((32 : Int32).toInt64 &&& 63)) ||| (((xs 7).toInt64) &&& 4294967295)))))))))]) (w1 := [(m0, .inr (11, (y0.set 9 (.int 0))))]) hP hD [2] [0, 1] rfl rfl (by decide) (by decide) hk1 hFc hP1 hD1
      generalize H1 = H at hP hS ⊢
      have hP : va_P D vwCl [(h0, .inr (10, [.ref x0, .int 0, .ref x1, .ref x2, .ref x3, .ref x4, .ref x5, .ref x6, .ref x7, .ref x8, .int 0, .int 3000])), (o0, .inl (kA 1, 1, .inr (.inl (vp_updL (fun _ => 0) 0 (n_cut (xs 2) (n_combine (xs 1) 1 (n_cut (xs 2) ((((xs 4).toInt64) <<< ((32 : Int32).toInt64 &&& 63)) ||| (((xs 5).toInt64) &&& 4294967295))) (n_cut (xs 3) ((((xs 6).toInt64) <<< ((32 : Int32).toInt64 &&& 63)) ||| (((xs 7).toInt64) &&& 4294967295))))))))), (m0, .inr (11, (y0.set 9 (.int 0))))] H := hP
      have hD : va_D A [(h0, .inr (10, [.ref x0, .int 0, .ref x1, .ref x2, .ref x3, .ref x4, .ref x5, .ref x6, .ref x7, .ref x8, .int 0, .int 3000])), (o0, .inl (kA 1, 1, .inr (.inl (vp_updL (fun _ => 0) 0 (n_cut (xs 2) (n_combine (xs 1) 1 (n_cut (xs 2) ((((xs 4).toInt64) <<< ((32 : Int32).toInt64 &&& 63)) ||| (((xs 5).toInt64) &&& 4294967295))) (n_cut (xs 3) ((((xs 6).toInt64) <<< ((32 : Int32).toInt64 &&& 63)) ||| (((xs 7).toInt64) &&& 4294967295))))))))), (m0, .inr (11, (y0.set 9 (.int 0))))] := hD
      refine lv_iload hx hb dL_law_1607 (lv_at hl 1 rfl) ?_
      refine lv_icmp_eq (tgt := 1614) hx hb dL_law_1609 (by decide) (fun c_10492 => ?_) (fun c_10492 => ?_)
      · skip
        refine lv_iload hx hb dL_law_1614 (lv_at hl 1 rfl) ?_
        refine lv_if_ne (tgt := 1630) hx hb dL_law_1616 (by decide) (fun c_10493 => ?_) (fun c_10493 => ?_)
        · exact absurd (by decide) c_10493
        · skip
          refine lv_aload_n hx hb dL_law_1619 rfl (lv_at hl 5 rfl) ?_
          refine lv_iconst (v := 0) hx hb dL_law_1620 (by decide) ?_
          refine va_lald hx hb hK hP 1 1 rfl rfl (show vp_in 0 1 by unfold vp_in; decide) dL_law_1621 ?_
          refine W.eq (g2 := F0 m 1622 ls [.long (n_cut (xs 2) (n_combine (xs 1) 1 (n_cut (xs 2) ((((xs 4).toInt64) <<< ((32 : Int32).toInt64 &&& 63)) ||| (((xs 5).toInt64) &&& 4294967295))) (n_cut (xs 3) ((((xs 6).toInt64) <<< ((32 : Int32).toInt64 &&& 63)) ||| (((xs 7).toInt64) &&& 4294967295)))))]) rfl ?_
          refine lv_lload hx hb dL_law_1622 (lv_at hl 0 rfl) ?_
          refine W.lcmp hx hb dL_law_1624 ?_
          refine lv_if_eq (tgt := 1630) hx hb dL_law_1625 (by decide) (fun c_10494 => ?_) (fun c_10494 => ?_)
          · skip
            refine lv_goto (tgt := 1804) hx hb dL_law_1630 (by decide) ?_
            exact lk_tail hC hA2 (lv_sub hl [2, 6] rfl) hS (Nat.le_of_ble_eq_true rfl) (Nat.le_of_ble_eq_true rfl)
          · exact absurd ((lg_cmp_eq _ _).mpr (qx_w1 c_106 c_10021 (fun q => q.1.elim (fun z => absurd (c_10032.symm.trans z) (by decide)) (fun z => absurd (c_10032.symm.trans z) (by decide))) (by rw [c_10032]; decide))) c_10494
      · exact absurd (by decide) c_10492
    · skip
      subst w_10056
      subst w_10057
      exact absurd c_111 c_10053
    · skip
      subst w_10076
      subst w_10077
      exact absurd c_111 c_10073
    · skip
      subst w_10093
      subst w_10094
      obtain ⟨hP, hD⟩ := va_join (wr := [(h0, .inr (10, [.ref x0, .int 0, .ref x1, .ref x2, .ref x3, .ref x4, .ref x5, .ref x6, .ref x7, .ref x8, .int 0, .int 3000])), (o0, .inl (kA 1, 1, .inr (.inl (vp_updL (fun _ => 0) 0 (n_cut (xs 2) (n_combine (xs 1) 1 (n_cut (xs 2) ((((xs 4).toInt64) <<< ((32 : Int32).toInt64 &&& 63)) ||| (((xs 5).toInt64) &&& 4294967295))) (n_cut (xs 3) ((((xs 6).toInt64) <<< ((32 : Int32).toInt64 &&& 63)) ||| (((xs 7).toInt64) &&& 4294967295)))))))))]) (w1 := [(m0, .inr (11, y0.set 9 (.int 0)))]) hP hD [0] [1, 2] rfl rfl (by decide) (by decide) hk1 hFc hP1 hD1
      generalize H1 = H at hP hS ⊢
      have hP : va_P D vwCl [(h0, .inr (10, [.ref x0, .int 0, .ref x1, .ref x2, .ref x3, .ref x4, .ref x5, .ref x6, .ref x7, .ref x8, .int 0, .int 3000])), (o0, .inl (kA 1, 1, .inr (.inl (vp_updL (fun _ => 0) 0 (n_cut (xs 2) (n_combine (xs 1) 1 (n_cut (xs 2) ((((xs 4).toInt64) <<< ((32 : Int32).toInt64 &&& 63)) ||| (((xs 5).toInt64) &&& 4294967295))) (n_cut (xs 3) ((((xs 6).toInt64) <<< ((32 : Int32).toInt64 &&& 63)) ||| (((xs 7).toInt64) &&& 4294967295))))))))), (m0, .inr (11, y0.set 9 (.int 0)))] H := hP
      have hD : va_D A [(h0, .inr (10, [.ref x0, .int 0, .ref x1, .ref x2, .ref x3, .ref x4, .ref x5, .ref x6, .ref x7, .ref x8, .int 0, .int 3000])), (o0, .inl (kA 1, 1, .inr (.inl (vp_updL (fun _ => 0) 0 (n_cut (xs 2) (n_combine (xs 1) 1 (n_cut (xs 2) ((((xs 4).toInt64) <<< ((32 : Int32).toInt64 &&& 63)) ||| (((xs 5).toInt64) &&& 4294967295))) (n_cut (xs 3) ((((xs 6).toInt64) <<< ((32 : Int32).toInt64 &&& 63)) ||| (((xs 7).toInt64) &&& 4294967295))))))))), (m0, .inr (11, y0.set 9 (.int 0)))] := hD
      refine lv_lstore (lv' := [(6, .long (n_cut (xs 2) (r_two 237 1 (n_cut (xs 2) ((((xs 4).toInt64) <<< ((32 : Int32).toInt64 &&& 63)) ||| (((xs 5).toInt64) &&& 4294967295))) (n_cut (xs 3) ((((xs 6).toInt64) <<< ((32 : Int32).toInt64 &&& 63)) ||| (((xs 7).toInt64) &&& 4294967295)))))), (5, .int 0), (0, .ref b), (1, .ref h0), (2, .ref m0), (3, .ref o0), (4, .int 0)]) hx hb dL_law_1601 hl (by decide) rfl (fun ls hl => ?_)
      refine lv_aload_n hx hb dL_law_1603 rfl (lv_at hl 4 rfl) ?_
      have hPc := hP.sub (ws' := [(m0, .inr (11, y0.set 9 (.int 0)))]) [2] rfl
      have hDc := hD.sub (ws' := [(m0, .inr (11, y0.set 9 (.int 0)))]) [2] (by decide) rfl
      have hFc := va_free (wc := [(m0, .inr (11, y0.set 9 (.int 0)))]) hD hS hA [2] rfl
      refine va_calli (va_runV (As := []) (rest := []) ⟨hx, hb, hml, hown, hts⟩ (a94_X12_thrown l  D kA V H.size m0 (y0.set 9 (.int 0)) (fun k hk => (by rw [List.length_set]; exact (hq k hk))) (List.getElem?_set_self (hq 9 (by decide)))) (cwV 0 hts (gw_V gw_1879 gw_1880 gw_1881 gw_16 gw_1882) rfl rfl rfl (by decide +kernel) ⟨(Nat.le_of_ble_eq_true rfl), (Nat.le_of_ble_eq_true rfl)⟩) ⟨aP.blind, va_recv hK hP (ci := 11) (q0 := 2) rfl rfl, aP.pre hE hS hPc hK hDc hFc⟩ rfl rfl hl.1 rfl (lv_room (Nat.le_of_ble_eq_true rfl)) dL_law_1604 ⟨(Nat.le_of_ble_eq_true rfl), (Nat.le_of_ble_eq_true rfl)⟩) hS (fun q _ h => hFc q h) hFc (fun r_10495 u t H1 locs ht hvm hw hB hz1 hk1 hS => ?_)
      obtain ⟨hP1, hD1⟩ := hB
      rw [ht] at hP1
      try dsimp only at hw hP1 hD1
      have w_10496 := hw
      subst w_10496
      obtain ⟨hP, hD⟩ := va_join (wr := [(h0, .inr (10, [.ref x0, .int 0, .ref x1, .ref x2, .ref x3, .ref x4, .ref x5, .ref x6, .ref x7, .ref x8, .int 0, .int 3000])), (o0, .inl (kA 1, 1, .inr (.inl (vp_updL (fun _ => 0) 0 (n_cut (xs 2) (n_combine (xs 1) 1 (n_cut (xs 2) ((((xs 4).toInt64) <<< ((32 : Int32).toInt64 &&& 63)) ||| (((xs 5).toInt64) &&& 4294967295))) (n_cut (xs 3) ((((xs 6).toInt64) <<< ((32 : Int32).toInt64 &&& 63)) ||| (((xs 7).toInt64) &&& 4294967295)))))))))]) (w1 := [(m0, .inr (11, (y0.set 9 (.int 0))))]) hP hD [2] [0, 1] rfl rfl (by decide) (by decide) hk1 hFc hP1 hD1
      generalize H1 = H at hP hS ⊢
      have hP : va_P D vwCl [(h0, .inr (10, [.ref x0, .int 0, .ref x1, .ref x2, .ref x3, .ref x4, .ref x5, .ref x6, .ref x7, .ref x8, .int 0, .int 3000])), (o0, .inl (kA 1, 1, .inr (.inl (vp_updL (fun _ => 0) 0 (n_cut (xs 2) (n_combine (xs 1) 1 (n_cut (xs 2) ((((xs 4).toInt64) <<< ((32 : Int32).toInt64 &&& 63)) ||| (((xs 5).toInt64) &&& 4294967295))) (n_cut (xs 3) ((((xs 6).toInt64) <<< ((32 : Int32).toInt64 &&& 63)) ||| (((xs 7).toInt64) &&& 4294967295))))))))), (m0, .inr (11, (y0.set 9 (.int 0))))] H := hP
      have hD : va_D A [(h0, .inr (10, [.ref x0, .int 0, .ref x1, .ref x2, .ref x3, .ref x4, .ref x5, .ref x6, .ref x7, .ref x8, .int 0, .int 3000])), (o0, .inl (kA 1, 1, .inr (.inl (vp_updL (fun _ => 0) 0 (n_cut (xs 2) (n_combine (xs 1) 1 (n_cut (xs 2) ((((xs 4).toInt64) <<< ((32 : Int32).toInt64 &&& 63)) ||| (((xs 5).toInt64) &&& 4294967295))) (n_cut (xs 3) ((((xs 6).toInt64) <<< ((32 : Int32).toInt64 &&& 63)) ||| (((xs 7).toInt64) &&& 4294967295))))))))), (m0, .inr (11, (y0.set 9 (.int 0))))] := hD
      refine lv_iload hx hb dL_law_1607 (lv_at hl 1 rfl) ?_
      refine lv_icmp_eq (tgt := 1614) hx hb dL_law_1609 (by decide) (fun c_10497 => ?_) (fun c_10497 => ?_)
      · skip
        refine lv_iload hx hb dL_law_1614 (lv_at hl 1 rfl) ?_
        refine lv_if_ne (tgt := 1630) hx hb dL_law_1616 (by decide) (fun c_10498 => ?_) (fun c_10498 => ?_)
        · exact absurd (by decide) c_10498
        · skip
          refine lv_aload_n hx hb dL_law_1619 rfl (lv_at hl 5 rfl) ?_
          refine lv_iconst (v := 0) hx hb dL_law_1620 (by decide) ?_
          refine va_lald hx hb hK hP 1 1 rfl rfl (show vp_in 0 1 by unfold vp_in; decide) dL_law_1621 ?_
          refine W.eq (g2 := F0 m 1622 ls [.long (n_cut (xs 2) (n_combine (xs 1) 1 (n_cut (xs 2) ((((xs 4).toInt64) <<< ((32 : Int32).toInt64 &&& 63)) ||| (((xs 5).toInt64) &&& 4294967295))) (n_cut (xs 3) ((((xs 6).toInt64) <<< ((32 : Int32).toInt64 &&& 63)) ||| (((xs 7).toInt64) &&& 4294967295)))))]) rfl ?_
          refine lv_lload hx hb dL_law_1622 (lv_at hl 0 rfl) ?_
          refine W.lcmp hx hb dL_law_1624 ?_
          refine lv_if_eq (tgt := 1630) hx hb dL_law_1625 (by decide) (fun c_10499 => ?_) (fun c_10499 => ?_)
          · skip
            refine lv_goto (tgt := 1804) hx hb dL_law_1630 (by decide) ?_
            exact lk_tail hC hA2 (lv_sub hl [2, 6] rfl) hS (Nat.le_of_ble_eq_true rfl) (Nat.le_of_ble_eq_true rfl)
          · exact absurd ((lg_cmp_eq _ _).mpr (qx_w1 c_106 c_10079 (fun q => q.1.elim (fun z => absurd (c_10089.symm.trans z) (by decide)) (fun z => absurd (c_10089.symm.trans z) (by decide))) (by rw [c_10089]; decide))) c_10499
      · exact absurd (by decide) c_10497
    · skip
      subst w_10112
      subst w_10113
      exact absurd c_111 c_10109
    · skip
      subst w_10131
      subst w_10132
      exact absurd c_111 c_10128
    · skip
      subst w_10148
      subst w_10149
      exact absurd c_10143 c_110
    · skip
      subst w_10167
      subst w_10168
      exact absurd c_10160 c_110
    · skip
      subst w_10186
      subst w_10187
      exact absurd c_10179 c_110
    · skip
      subst w_10203
      subst w_10204
      exact absurd c_10198 c_110
    · skip
      subst w_10222
      subst w_10223
      exact absurd c_10215 c_110
    · skip
      subst w_10241
      subst w_10242
      exact absurd c_10234 c_110
    · skip
      subst w_10256
      subst w_10257
      exact absurd c_10252 c_109
    · skip
      subst w_10273
      subst w_10274
      exact absurd c_10267 c_109
    · skip
      subst w_10290
      subst w_10291
      exact absurd c_10284 c_109
    · skip
      subst w_10305
      subst w_10306
      exact absurd c_10301 c_109
    · skip
      subst w_10322
      subst w_10323
      exact absurd c_10316 c_109
    · skip
      subst w_10339
      subst w_10340
      exact absurd c_10333 c_109
    · skip
      subst w_10353
      subst w_10354
      obtain ⟨hP, hD⟩ := va_join (wr := [(h0, .inr (10, [.ref x0, .int 0, .ref x1, .ref x2, .ref x3, .ref x4, .ref x5, .ref x6, .ref x7, .ref x8, .int 0, .int 3000])), (o0, .inl (kA 1, 1, .inr (.inl (vp_updL (fun _ => 0) 0 (n_cut (xs 2) (n_combine (xs 1) 1 (n_cut (xs 2) ((((xs 4).toInt64) <<< ((32 : Int32).toInt64 &&& 63)) ||| (((xs 5).toInt64) &&& 4294967295))) (n_cut (xs 3) ((((xs 6).toInt64) <<< ((32 : Int32).toInt64 &&& 63)) ||| (((xs 7).toInt64) &&& 4294967295)))))))))]) (w1 := [(m0, .inr (11, y0.set 9 (.int 0)))]) hP hD [0] [1, 2] rfl rfl (by decide) (by decide) hk1 hFc hP1 hD1
      generalize H1 = H at hP hS ⊢
      have hP : va_P D vwCl [(h0, .inr (10, [.ref x0, .int 0, .ref x1, .ref x2, .ref x3, .ref x4, .ref x5, .ref x6, .ref x7, .ref x8, .int 0, .int 3000])), (o0, .inl (kA 1, 1, .inr (.inl (vp_updL (fun _ => 0) 0 (n_cut (xs 2) (n_combine (xs 1) 1 (n_cut (xs 2) ((((xs 4).toInt64) <<< ((32 : Int32).toInt64 &&& 63)) ||| (((xs 5).toInt64) &&& 4294967295))) (n_cut (xs 3) ((((xs 6).toInt64) <<< ((32 : Int32).toInt64 &&& 63)) ||| (((xs 7).toInt64) &&& 4294967295))))))))), (m0, .inr (11, y0.set 9 (.int 0)))] H := hP
      have hD : va_D A [(h0, .inr (10, [.ref x0, .int 0, .ref x1, .ref x2, .ref x3, .ref x4, .ref x5, .ref x6, .ref x7, .ref x8, .int 0, .int 3000])), (o0, .inl (kA 1, 1, .inr (.inl (vp_updL (fun _ => 0) 0 (n_cut (xs 2) (n_combine (xs 1) 1 (n_cut (xs 2) ((((xs 4).toInt64) <<< ((32 : Int32).toInt64 &&& 63)) ||| (((xs 5).toInt64) &&& 4294967295))) (n_cut (xs 3) ((((xs 6).toInt64) <<< ((32 : Int32).toInt64 &&& 63)) ||| (((xs 7).toInt64) &&& 4294967295))))))))), (m0, .inr (11, y0.set 9 (.int 0)))] := hD
      refine lv_lstore (lv' := [(6, .long (n_cut (xs 2) (r_two 242 1 (n_cut (xs 2) ((((xs 4).toInt64) <<< ((32 : Int32).toInt64 &&& 63)) ||| (((xs 5).toInt64) &&& 4294967295))) (n_cut (xs 3) ((((xs 6).toInt64) <<< ((32 : Int32).toInt64 &&& 63)) ||| (((xs 7).toInt64) &&& 4294967295)))))), (5, .int 0), (0, .ref b), (1, .ref h0), (2, .ref m0), (3, .ref o0), (4, .int 0)]) hx hb dL_law_1601 hl (by decide) rfl (fun ls hl => ?_)
      refine lv_aload_n hx hb dL_law_1603 rfl (lv_at hl 4 rfl) ?_
      have hPc := hP.sub (ws' := [(m0, .inr (11, y0.set 9 (.int 0)))]) [2] rfl
      have hDc := hD.sub (ws' := [(m0, .inr (11, y0.set 9 (.int 0)))]) [2] (by decide) rfl
      have hFc := va_free (wc := [(m0, .inr (11, y0.set 9 (.int 0)))]) hD hS hA [2] rfl
      refine va_calli (va_runV (As := []) (rest := []) ⟨hx, hb, hml, hown, hts⟩ (a94_X12_thrown l  D kA V H.size m0 (y0.set 9 (.int 0)) (fun k hk => (by rw [List.length_set]; exact (hq k hk))) (List.getElem?_set_self (hq 9 (by decide)))) (cwV 0 hts (gw_V gw_1879 gw_1880 gw_1881 gw_16 gw_1882) rfl rfl rfl (by decide +kernel) ⟨(Nat.le_of_ble_eq_true rfl), (Nat.le_of_ble_eq_true rfl)⟩) ⟨aP.blind, va_recv hK hP (ci := 11) (q0 := 2) rfl rfl, aP.pre hE hS hPc hK hDc hFc⟩ rfl rfl hl.1 rfl (lv_room (Nat.le_of_ble_eq_true rfl)) dL_law_1604 ⟨(Nat.le_of_ble_eq_true rfl), (Nat.le_of_ble_eq_true rfl)⟩) hS (fun q _ h => hFc q h) hFc (fun r_10500 u t H1 locs ht hvm hw hB hz1 hk1 hS => ?_)
      obtain ⟨hP1, hD1⟩ := hB
      rw [ht] at hP1
      try dsimp only at hw hP1 hD1
      have w_10501 := hw
      subst w_10501
      obtain ⟨hP, hD⟩ := va_join (wr := [(h0, .inr (10, [.ref x0, .int 0, .ref x1, .ref x2, .ref x3, .ref x4, .ref x5, .ref x6, .ref x7, .ref x8, .int 0, .int 3000])), (o0, .inl (kA 1, 1, .inr (.inl (vp_updL (fun _ => 0) 0 (n_cut (xs 2) (n_combine (xs 1) 1 (n_cut (xs 2) ((((xs 4).toInt64) <<< ((32 : Int32).toInt64 &&& 63)) ||| (((xs 5).toInt64) &&& 4294967295))) (n_cut (xs 3) ((((xs 6).toInt64) <<< ((32 : Int32).toInt64 &&& 63)) ||| (((xs 7).toInt64) &&& 4294967295)))))))))]) (w1 := [(m0, .inr (11, (y0.set 9 (.int 0))))]) hP hD [2] [0, 1] rfl rfl (by decide) (by decide) hk1 hFc hP1 hD1
      generalize H1 = H at hP hS ⊢
      have hP : va_P D vwCl [(h0, .inr (10, [.ref x0, .int 0, .ref x1, .ref x2, .ref x3, .ref x4, .ref x5, .ref x6, .ref x7, .ref x8, .int 0, .int 3000])), (o0, .inl (kA 1, 1, .inr (.inl (vp_updL (fun _ => 0) 0 (n_cut (xs 2) (n_combine (xs 1) 1 (n_cut (xs 2) ((((xs 4).toInt64) <<< ((32 : Int32).toInt64 &&& 63)) ||| (((xs 5).toInt64) &&& 4294967295))) (n_cut (xs 3) ((((xs 6).toInt64) <<< ((32 : Int32).toInt64 &&& 63)) ||| (((xs 7).toInt64) &&& 4294967295))))))))), (m0, .inr (11, (y0.set 9 (.int 0))))] H := hP
      have hD : va_D A [(h0, .inr (10, [.ref x0, .int 0, .ref x1, .ref x2, .ref x3, .ref x4, .ref x5, .ref x6, .ref x7, .ref x8, .int 0, .int 3000])), (o0, .inl (kA 1, 1, .inr (.inl (vp_updL (fun _ => 0) 0 (n_cut (xs 2) (n_combine (xs 1) 1 (n_cut (xs 2) ((((xs 4).toInt64) <<< ((32 : Int32).toInt64 &&& 63)) ||| (((xs 5).toInt64) &&& 4294967295))) (n_cut (xs 3) ((((xs 6).toInt64) <<< ((32 : Int32).toInt64 &&& 63)) ||| (((xs 7).toInt64) &&& 4294967295))))))))), (m0, .inr (11, (y0.set 9 (.int 0))))] := hD
      refine lv_iload hx hb dL_law_1607 (lv_at hl 1 rfl) ?_
      refine lv_icmp_eq (tgt := 1614) hx hb dL_law_1609 (by decide) (fun c_10502 => ?_) (fun c_10502 => ?_)
      · skip
        refine lv_iload hx hb dL_law_1614 (lv_at hl 1 rfl) ?_
        refine lv_if_ne (tgt := 1630) hx hb dL_law_1616 (by decide) (fun c_10503 => ?_) (fun c_10503 => ?_)
        · exact absurd (by decide) c_10503
        · skip
          refine lv_aload_n hx hb dL_law_1619 rfl (lv_at hl 5 rfl) ?_
          refine lv_iconst (v := 0) hx hb dL_law_1620 (by decide) ?_
          refine va_lald hx hb hK hP 1 1 rfl rfl (show vp_in 0 1 by unfold vp_in; decide) dL_law_1621 ?_
          refine W.eq (g2 := F0 m 1622 ls [.long (n_cut (xs 2) (n_combine (xs 1) 1 (n_cut (xs 2) ((((xs 4).toInt64) <<< ((32 : Int32).toInt64 &&& 63)) ||| (((xs 5).toInt64) &&& 4294967295))) (n_cut (xs 3) ((((xs 6).toInt64) <<< ((32 : Int32).toInt64 &&& 63)) ||| (((xs 7).toInt64) &&& 4294967295)))))]) rfl ?_
          refine lv_lload hx hb dL_law_1622 (lv_at hl 0 rfl) ?_
          refine W.lcmp hx hb dL_law_1624 ?_
          refine lv_if_eq (tgt := 1630) hx hb dL_law_1625 (by decide) (fun c_10504 => ?_) (fun c_10504 => ?_)
          · skip
            refine lv_goto (tgt := 1804) hx hb dL_law_1630 (by decide) ?_
            exact lk_tail hC hA2 (lv_sub hl [2, 6] rfl) hS (Nat.le_of_ble_eq_true rfl) (Nat.le_of_ble_eq_true rfl)
          · exact absurd ((lg_cmp_eq _ _).mpr (qx_w1 c_106 c_10342 (fun q => q.1.elim (fun z => absurd (c_10349.symm.trans z) (by decide)) (fun z => absurd (c_10349.symm.trans z) (by decide))) (by rw [c_10349]; decide))) c_10504
      · exact absurd (by decide) c_10502
    · skip
      subst w_10369
      subst w_10370
      exact absurd c_111 c_10366
    · skip
      subst w_10385
      subst w_10386
      exact absurd c_111 c_10382
    · skip
      subst w_10398
      subst w_10399
      obtain ⟨hP, hD⟩ := va_join (wr := [(h0, .inr (10, [.ref x0, .int 0, .ref x1, .ref x2, .ref x3, .ref x4, .ref x5, .ref x6, .ref x7, .ref x8, .int 0, .int 3000])), (o0, .inl (kA 1, 1, .inr (.inl (vp_updL (fun _ => 0) 0 (n_cut (xs 2) (n_combine (xs 1) 1 (n_cut (xs 2) ((((xs 4).toInt64) <<< ((32 : Int32).toInt64 &&& 63)) ||| (((xs 5).toInt64) &&& 4294967295))) (n_cut (xs 3) ((((xs 6).toInt64) <<< ((32 : Int32).toInt64 &&& 63)) ||| (((xs 7).toInt64) &&& 4294967295)))))))))]) (w1 := [(m0, .inr (11, y0.set 9 (.int 0)))]) hP hD [0] [1, 2] rfl rfl (by decide) (by decide) hk1 hFc hP1 hD1
      generalize H1 = H at hP hS ⊢
      have hP : va_P D vwCl [(h0, .inr (10, [.ref x0, .int 0, .ref x1, .ref x2, .ref x3, .ref x4, .ref x5, .ref x6, .ref x7, .ref x8, .int 0, .int 3000])), (o0, .inl (kA 1, 1, .inr (.inl (vp_updL (fun _ => 0) 0 (n_cut (xs 2) (n_combine (xs 1) 1 (n_cut (xs 2) ((((xs 4).toInt64) <<< ((32 : Int32).toInt64 &&& 63)) ||| (((xs 5).toInt64) &&& 4294967295))) (n_cut (xs 3) ((((xs 6).toInt64) <<< ((32 : Int32).toInt64 &&& 63)) ||| (((xs 7).toInt64) &&& 4294967295))))))))), (m0, .inr (11, y0.set 9 (.int 0)))] H := hP
      have hD : va_D A [(h0, .inr (10, [.ref x0, .int 0, .ref x1, .ref x2, .ref x3, .ref x4, .ref x5, .ref x6, .ref x7, .ref x8, .int 0, .int 3000])), (o0, .inl (kA 1, 1, .inr (.inl (vp_updL (fun _ => 0) 0 (n_cut (xs 2) (n_combine (xs 1) 1 (n_cut (xs 2) ((((xs 4).toInt64) <<< ((32 : Int32).toInt64 &&& 63)) ||| (((xs 5).toInt64) &&& 4294967295))) (n_cut (xs 3) ((((xs 6).toInt64) <<< ((32 : Int32).toInt64 &&& 63)) ||| (((xs 7).toInt64) &&& 4294967295))))))))), (m0, .inr (11, y0.set 9 (.int 0)))] := hD
      refine lv_lstore (lv' := [(6, .long (n_cut (xs 2) (r_two 241 1 (n_cut (xs 2) ((((xs 4).toInt64) <<< ((32 : Int32).toInt64 &&& 63)) ||| (((xs 5).toInt64) &&& 4294967295))) (n_cut (xs 3) ((((xs 6).toInt64) <<< ((32 : Int32).toInt64 &&& 63)) ||| (((xs 7).toInt64) &&& 4294967295)))))), (5, .int 0), (0, .ref b), (1, .ref h0), (2, .ref m0), (3, .ref o0), (4, .int 0)]) hx hb dL_law_1601 hl (by decide) rfl (fun ls hl => ?_)
      refine lv_aload_n hx hb dL_law_1603 rfl (lv_at hl 4 rfl) ?_
      have hPc := hP.sub (ws' := [(m0, .inr (11, y0.set 9 (.int 0)))]) [2] rfl
      have hDc := hD.sub (ws' := [(m0, .inr (11, y0.set 9 (.int 0)))]) [2] (by decide) rfl
      have hFc := va_free (wc := [(m0, .inr (11, y0.set 9 (.int 0)))]) hD hS hA [2] rfl
      refine va_calli (va_runV (As := []) (rest := []) ⟨hx, hb, hml, hown, hts⟩ (a94_X12_thrown l  D kA V H.size m0 (y0.set 9 (.int 0)) (fun k hk => (by rw [List.length_set]; exact (hq k hk))) (List.getElem?_set_self (hq 9 (by decide)))) (cwV 0 hts (gw_V gw_1879 gw_1880 gw_1881 gw_16 gw_1882) rfl rfl rfl (by decide +kernel) ⟨(Nat.le_of_ble_eq_true rfl), (Nat.le_of_ble_eq_true rfl)⟩) ⟨aP.blind, va_recv hK hP (ci := 11) (q0 := 2) rfl rfl, aP.pre hE hS hPc hK hDc hFc⟩ rfl rfl hl.1 rfl (lv_room (Nat.le_of_ble_eq_true rfl)) dL_law_1604 ⟨(Nat.le_of_ble_eq_true rfl), (Nat.le_of_ble_eq_true rfl)⟩) hS (fun q _ h => hFc q h) hFc (fun r_10505 u t H1 locs ht hvm hw hB hz1 hk1 hS => ?_)
      obtain ⟨hP1, hD1⟩ := hB
      rw [ht] at hP1
      try dsimp only at hw hP1 hD1
      have w_10506 := hw
      subst w_10506
      obtain ⟨hP, hD⟩ := va_join (wr := [(h0, .inr (10, [.ref x0, .int 0, .ref x1, .ref x2, .ref x3, .ref x4, .ref x5, .ref x6, .ref x7, .ref x8, .int 0, .int 3000])), (o0, .inl (kA 1, 1, .inr (.inl (vp_updL (fun _ => 0) 0 (n_cut (xs 2) (n_combine (xs 1) 1 (n_cut (xs 2) ((((xs 4).toInt64) <<< ((32 : Int32).toInt64 &&& 63)) ||| (((xs 5).toInt64) &&& 4294967295))) (n_cut (xs 3) ((((xs 6).toInt64) <<< ((32 : Int32).toInt64 &&& 63)) ||| (((xs 7).toInt64) &&& 4294967295)))))))))]) (w1 := [(m0, .inr (11, (y0.set 9 (.int 0))))]) hP hD [2] [0, 1] rfl rfl (by decide) (by decide) hk1 hFc hP1 hD1
      generalize H1 = H at hP hS ⊢
      have hP : va_P D vwCl [(h0, .inr (10, [.ref x0, .int 0, .ref x1, .ref x2, .ref x3, .ref x4, .ref x5, .ref x6, .ref x7, .ref x8, .int 0, .int 3000])), (o0, .inl (kA 1, 1, .inr (.inl (vp_updL (fun _ => 0) 0 (n_cut (xs 2) (n_combine (xs 1) 1 (n_cut (xs 2) ((((xs 4).toInt64) <<< ((32 : Int32).toInt64 &&& 63)) ||| (((xs 5).toInt64) &&& 4294967295))) (n_cut (xs 3) ((((xs 6).toInt64) <<< ((32 : Int32).toInt64 &&& 63)) ||| (((xs 7).toInt64) &&& 4294967295))))))))), (m0, .inr (11, (y0.set 9 (.int 0))))] H := hP
      have hD : va_D A [(h0, .inr (10, [.ref x0, .int 0, .ref x1, .ref x2, .ref x3, .ref x4, .ref x5, .ref x6, .ref x7, .ref x8, .int 0, .int 3000])), (o0, .inl (kA 1, 1, .inr (.inl (vp_updL (fun _ => 0) 0 (n_cut (xs 2) (n_combine (xs 1) 1 (n_cut (xs 2) ((((xs 4).toInt64) <<< ((32 : Int32).toInt64 &&& 63)) ||| (((xs 5).toInt64) &&& 4294967295))) (n_cut (xs 3) ((((xs 6).toInt64) <<< ((32 : Int32).toInt64 &&& 63)) ||| (((xs 7).toInt64) &&& 4294967295))))))))), (m0, .inr (11, (y0.set 9 (.int 0))))] := hD
      refine lv_iload hx hb dL_law_1607 (lv_at hl 1 rfl) ?_
      refine lv_icmp_eq (tgt := 1614) hx hb dL_law_1609 (by decide) (fun c_10507 => ?_) (fun c_10507 => ?_)
      · skip
        refine lv_iload hx hb dL_law_1614 (lv_at hl 1 rfl) ?_
        refine lv_if_ne (tgt := 1630) hx hb dL_law_1616 (by decide) (fun c_10508 => ?_) (fun c_10508 => ?_)
        · exact absurd (by decide) c_10508
        · skip
          refine lv_aload_n hx hb dL_law_1619 rfl (lv_at hl 5 rfl) ?_
          refine lv_iconst (v := 0) hx hb dL_law_1620 (by decide) ?_
          refine va_lald hx hb hK hP 1 1 rfl rfl (show vp_in 0 1 by unfold vp_in; decide) dL_law_1621 ?_
          refine W.eq (g2 := F0 m 1622 ls [.long (n_cut (xs 2) (n_combine (xs 1) 1 (n_cut (xs 2) ((((xs 4).toInt64) <<< ((32 : Int32).toInt64 &&& 63)) ||| (((xs 5).toInt64) &&& 4294967295))) (n_cut (xs 3) ((((xs 6).toInt64) <<< ((32 : Int32).toInt64 &&& 63)) ||| (((xs 7).toInt64) &&& 4294967295)))))]) rfl ?_
          refine lv_lload hx hb dL_law_1622 (lv_at hl 0 rfl) ?_
          refine W.lcmp hx hb dL_law_1624 ?_
          refine lv_if_eq (tgt := 1630) hx hb dL_law_1625 (by decide) (fun c_10509 => ?_) (fun c_10509 => ?_)
          · skip
            refine lv_goto (tgt := 1804) hx hb dL_law_1630 (by decide) ?_
            exact lk_tail hC hA2 (lv_sub hl [2, 6] rfl) hS (Nat.le_of_ble_eq_true rfl) (Nat.le_of_ble_eq_true rfl)
          · exact absurd ((lg_cmp_eq _ _).mpr (qx_w1 c_106 c_10388 (fun q => q.1.elim (fun z => absurd (c_10394.symm.trans z) (by decide)) (fun z => absurd (c_10394.symm.trans z) (by decide))) (by rw [c_10394]; decide))) c_10509
      · exact absurd (by decide) c_10507
    · skip
      subst w_10413
      subst w_10414
      exact absurd c_111 c_10410
    · skip
      subst w_10428
      subst w_10429
      exact absurd c_111 c_10425
    · skip
      subst w_10440
      subst w_10441
      obtain ⟨hP, hD⟩ := va_join (wr := [(h0, .inr (10, [.ref x0, .int 0, .ref x1, .ref x2, .ref x3, .ref x4, .ref x5, .ref x6, .ref x7, .ref x8, .int 0, .int 3000])), (o0, .inl (kA 1, 1, .inr (.inl (vp_updL (fun _ => 0) 0 (n_cut (xs 2) (n_combine (xs 1) 1 (n_cut (xs 2) ((((xs 4).toInt64) <<< ((32 : Int32).toInt64 &&& 63)) ||| (((xs 5).toInt64) &&& 4294967295))) (n_cut (xs 3) ((((xs 6).toInt64) <<< ((32 : Int32).toInt64 &&& 63)) ||| (((xs 7).toInt64) &&& 4294967295)))))))))]) (w1 := [(m0, .inr (11, y0.set 9 (.int 0)))]) hP hD [0] [1, 2] rfl rfl (by decide) (by decide) hk1 hFc hP1 hD1
      generalize H1 = H at hP hS ⊢
      have hP : va_P D vwCl [(h0, .inr (10, [.ref x0, .int 0, .ref x1, .ref x2, .ref x3, .ref x4, .ref x5, .ref x6, .ref x7, .ref x8, .int 0, .int 3000])), (o0, .inl (kA 1, 1, .inr (.inl (vp_updL (fun _ => 0) 0 (n_cut (xs 2) (n_combine (xs 1) 1 (n_cut (xs 2) ((((xs 4).toInt64) <<< ((32 : Int32).toInt64 &&& 63)) ||| (((xs 5).toInt64) &&& 4294967295))) (n_cut (xs 3) ((((xs 6).toInt64) <<< ((32 : Int32).toInt64 &&& 63)) ||| (((xs 7).toInt64) &&& 4294967295))))))))), (m0, .inr (11, y0.set 9 (.int 0)))] H := hP
      have hD : va_D A [(h0, .inr (10, [.ref x0, .int 0, .ref x1, .ref x2, .ref x3, .ref x4, .ref x5, .ref x6, .ref x7, .ref x8, .int 0, .int 3000])), (o0, .inl (kA 1, 1, .inr (.inl (vp_updL (fun _ => 0) 0 (n_cut (xs 2) (n_combine (xs 1) 1 (n_cut (xs 2) ((((xs 4).toInt64) <<< ((32 : Int32).toInt64 &&& 63)) ||| (((xs 5).toInt64) &&& 4294967295))) (n_cut (xs 3) ((((xs 6).toInt64) <<< ((32 : Int32).toInt64 &&& 63)) ||| (((xs 7).toInt64) &&& 4294967295))))))))), (m0, .inr (11, y0.set 9 (.int 0)))] := hD
      refine lv_lstore (lv' := [(6, .long (n_cut (xs 2) (r_two 240 1 (n_cut (xs 2) ((((xs 4).toInt64) <<< ((32 : Int32).toInt64 &&& 63)) ||| (((xs 5).toInt64) &&& 4294967295))) (n_cut (xs 3) ((((xs 6).toInt64) <<< ((32 : Int32).toInt64 &&& 63)) ||| (((xs 7).toInt64) &&& 4294967295)))))), (5, .int 0), (0, .ref b), (1, .ref h0), (2, .ref m0), (3, .ref o0), (4, .int 0)]) hx hb dL_law_1601 hl (by decide) rfl (fun ls hl => ?_)
      refine lv_aload_n hx hb dL_law_1603 rfl (lv_at hl 4 rfl) ?_
      have hPc := hP.sub (ws' := [(m0, .inr (11, y0.set 9 (.int 0)))]) [2] rfl
      have hDc := hD.sub (ws' := [(m0, .inr (11, y0.set 9 (.int 0)))]) [2] (by decide) rfl
      have hFc := va_free (wc := [(m0, .inr (11, y0.set 9 (.int 0)))]) hD hS hA [2] rfl
      refine va_calli (va_runV (As := []) (rest := []) ⟨hx, hb, hml, hown, hts⟩ (a94_X12_thrown l  D kA V H.size m0 (y0.set 9 (.int 0)) (fun k hk => (by rw [List.length_set]; exact (hq k hk))) (List.getElem?_set_self (hq 9 (by decide)))) (cwV 0 hts (gw_V gw_1879 gw_1880 gw_1881 gw_16 gw_1882) rfl rfl rfl (by decide +kernel) ⟨(Nat.le_of_ble_eq_true rfl), (Nat.le_of_ble_eq_true rfl)⟩) ⟨aP.blind, va_recv hK hP (ci := 11) (q0 := 2) rfl rfl, aP.pre hE hS hPc hK hDc hFc⟩ rfl rfl hl.1 rfl (lv_room (Nat.le_of_ble_eq_true rfl)) dL_law_1604 ⟨(Nat.le_of_ble_eq_true rfl), (Nat.le_of_ble_eq_true rfl)⟩) hS (fun q _ h => hFc q h) hFc (fun r_10510 u t H1 locs ht hvm hw hB hz1 hk1 hS => ?_)
      obtain ⟨hP1, hD1⟩ := hB
      rw [ht] at hP1
      try dsimp only at hw hP1 hD1
      have w_10511 := hw
      subst w_10511
      obtain ⟨hP, hD⟩ := va_join (wr := [(h0, .inr (10, [.ref x0, .int 0, .ref x1, .ref x2, .ref x3, .ref x4, .ref x5, .ref x6, .ref x7, .ref x8, .int 0, .int 3000])), (o0, .inl (kA 1, 1, .inr (.inl (vp_updL (fun _ => 0) 0 (n_cut (xs 2) (n_combine (xs 1) 1 (n_cut (xs 2) ((((xs 4).toInt64) <<< ((32 : Int32).toInt64 &&& 63)) ||| (((xs 5).toInt64) &&& 4294967295))) (n_cut (xs 3) ((((xs 6).toInt64) <<< ((32 : Int32).toInt64 &&& 63)) ||| (((xs 7).toInt64) &&& 4294967295)))))))))]) (w1 := [(m0, .inr (11, (y0.set 9 (.int 0))))]) hP hD [2] [0, 1] rfl rfl (by decide) (by decide) hk1 hFc hP1 hD1
      generalize H1 = H at hP hS ⊢
      have hP : va_P D vwCl [(h0, .inr (10, [.ref x0, .int 0, .ref x1, .ref x2, .ref x3, .ref x4, .ref x5, .ref x6, .ref x7, .ref x8, .int 0, .int 3000])), (o0, .inl (kA 1, 1, .inr (.inl (vp_updL (fun _ => 0) 0 (n_cut (xs 2) (n_combine (xs 1) 1 (n_cut (xs 2) ((((xs 4).toInt64) <<< ((32 : Int32).toInt64 &&& 63)) ||| (((xs 5).toInt64) &&& 4294967295))) (n_cut (xs 3) ((((xs 6).toInt64) <<< ((32 : Int32).toInt64 &&& 63)) ||| (((xs 7).toInt64) &&& 4294967295))))))))), (m0, .inr (11, (y0.set 9 (.int 0))))] H := hP
      have hD : va_D A [(h0, .inr (10, [.ref x0, .int 0, .ref x1, .ref x2, .ref x3, .ref x4, .ref x5, .ref x6, .ref x7, .ref x8, .int 0, .int 3000])), (o0, .inl (kA 1, 1, .inr (.inl (vp_updL (fun _ => 0) 0 (n_cut (xs 2) (n_combine (xs 1) 1 (n_cut (xs 2) ((((xs 4).toInt64) <<< ((32 : Int32).toInt64 &&& 63)) ||| (((xs 5).toInt64) &&& 4294967295))) (n_cut (xs 3) ((((xs 6).toInt64) <<< ((32 : Int32).toInt64 &&& 63)) ||| (((xs 7).toInt64) &&& 4294967295))))))))), (m0, .inr (11, (y0.set 9 (.int 0))))] := hD
      refine lv_iload hx hb dL_law_1607 (lv_at hl 1 rfl) ?_
      refine lv_icmp_eq (tgt := 1614) hx hb dL_law_1609 (by decide) (fun c_10512 => ?_) (fun c_10512 => ?_)
      · skip
        refine lv_iload hx hb dL_law_1614 (lv_at hl 1 rfl) ?_
        refine lv_if_ne (tgt := 1630) hx hb dL_law_1616 (by decide) (fun c_10513 => ?_) (fun c_10513 => ?_)
        · exact absurd (by decide) c_10513
        · skip
          refine lv_aload_n hx hb dL_law_1619 rfl (lv_at hl 5 rfl) ?_
          refine lv_iconst (v := 0) hx hb dL_law_1620 (by decide) ?_
          refine va_lald hx hb hK hP 1 1 rfl rfl (show vp_in 0 1 by unfold vp_in; decide) dL_law_1621 ?_
          refine W.eq (g2 := F0 m 1622 ls [.long (n_cut (xs 2) (n_combine (xs 1) 1 (n_cut (xs 2) ((((xs 4).toInt64) <<< ((32 : Int32).toInt64 &&& 63)) ||| (((xs 5).toInt64) &&& 4294967295))) (n_cut (xs 3) ((((xs 6).toInt64) <<< ((32 : Int32).toInt64 &&& 63)) ||| (((xs 7).toInt64) &&& 4294967295)))))]) rfl ?_
          refine lv_lload hx hb dL_law_1622 (lv_at hl 0 rfl) ?_
          refine W.lcmp hx hb dL_law_1624 ?_
          refine lv_if_eq (tgt := 1630) hx hb dL_law_1625 (by decide) (fun c_10514 => ?_) (fun c_10514 => ?_)
          · skip
            refine lv_goto (tgt := 1804) hx hb dL_law_1630 (by decide) ?_
            exact lk_tail hC hA2 (lv_sub hl [2, 6] rfl) hS (Nat.le_of_ble_eq_true rfl) (Nat.le_of_ble_eq_true rfl)
          · exact absurd ((lg_cmp_eq _ _).mpr (qx_w1 c_106 c_10431 (fun q => q.1.elim (fun z => absurd (c_10436.symm.trans z) (by decide)) (fun z => absurd (c_10436.symm.trans z) (by decide))) (by rw [c_10436]; decide))) c_10514
      · exact absurd (by decide) c_10512
    · skip
      subst w_10454
      subst w_10455
      exact absurd c_111 c_10451
    · skip
      subst w_10468
      subst w_10469
      exact absurd c_111 c_10465
  · skip
    subst w_125
    subst w_126
    obtain ⟨hP, hD⟩ := va_join (wr := [(m0, .inr (11, y0))]) (w1 := [(h0, .inr (10, [.ref x0, .int 0, .ref x1, .ref x2, .ref x3, .ref x4, .ref x5, .ref x6, .ref x7, .ref x8, .int 0, .int 3000])), (o0, .inl (kA 1, 1, .inr (.inl (vp_updL (fun _ => 0) 0 (n_cut (xs 2) (n_combine (xs 1) 0 (n_cut (xs 2) ((((xs 4).toInt64) <<< ((32 : Int32).toInt64 &&& 63)) ||| (((xs 5).toInt64) &&& 4294967295))) (n_cut (xs 3) ((((xs 6).toInt64) <<< ((32 : Int32).toInt64 &&& 63)) ||| (((xs 7).toInt64) &&& 4294967295)))))))))]) hP hD [0, 2] [1] rfl rfl (by decide) (by decide) hk1 hFc hP1 hD1
    generalize H1 = H at hP hS ⊢
    have hP : va_P D vwCl [(m0, .inr (11, y0)), (h0, .inr (10, [.ref x0, .int 0, .ref x1, .ref x2, .ref x3, .ref x4, .ref x5, .ref x6, .ref x7, .ref x8, .int 0, .int 3000])), (o0, .inl (kA 1, 1, .inr (.inl (vp_updL (fun _ => 0) 0 (n_cut (xs 2) (n_combine (xs 1) 0 (n_cut (xs 2) ((((xs 4).toInt64) <<< ((32 : Int32).toInt64 &&& 63)) ||| (((xs 5).toInt64) &&& 4294967295))) (n_cut (xs 3) ((((xs 6).toInt64) <<< ((32 : Int32).toInt64 &&& 63)) ||| (((xs 7).toInt64) &&& 4294967295)))))))))] H := hP
    have hD : va_D A [(m0, .inr (11, y0)), (h0, .inr (10, [.ref x0, .int 0, .ref x1, .ref x2, .ref x3, .ref x4, .ref x5, .ref x6, .ref x7, .ref x8, .int 0, .int 3000])), (o0, .inl (kA 1, 1, .inr (.inl (vp_updL (fun _ => 0) 0 (n_cut (xs 2) (n_combine (xs 1) 0 (n_cut (xs 2) ((((xs 4).toInt64) <<< ((32 : Int32).toInt64 &&& 63)) ||| (((xs 5).toInt64) &&& 4294967295))) (n_cut (xs 3) ((((xs 6).toInt64) <<< ((32 : Int32).toInt64 &&& 63)) ||| (((xs 7).toInt64) &&& 4294967295)))))))))] := hD
    refine lv_istore (lv' := [(5, .int 0), (0, .ref b), (1, .ref h0), (2, .ref m0), (3, .ref o0), (4, .int 0)]) hx hb dL_law_1531 hl (by decide) rfl (fun ls hl => ?_)
    refine lv_aload_n hx hb dL_law_1533 rfl (lv_at hl 3 rfl) ?_
    refine lv_aload_n hx hb dL_law_1534 rfl (lv_at hl 1 rfl) ?_
    refine lv_iload hx hb dL_law_1535 (lv_at hl 5 rfl) ?_
    refine lv_iconst (v := 1) hx hb dL_law_1537 (by decide) ?_
    refine lv_iadd hx hb dL_law_1538 ?_
    refine W.eq (g2 := F0 m 1539 ls [.int 1, .ref b, .ref m0]) rfl ?_
    refine va_sld hx hb hX hbl hbA hS (show vp_in 1 8 by unfold vp_in; decide) dL_law_1539 ?_
    refine W.eq (g2 := F0 m 1540 ls [.int (xs 1), .ref m0]) rfl ?_
    refine lv_aload_n hx hb dL_law_1540 rfl (lv_at hl 1 rfl) ?_
    refine lv_iload hx hb dL_law_1541 (lv_at hl 5 rfl) ?_
    refine lv_iconst (v := 2) hx hb dL_law_1543 (by decide) ?_
    refine lv_iadd hx hb dL_law_1544 ?_
    refine W.eq (g2 := F0 m 1545 ls [.int 2, .ref b, .int (xs 1), .ref m0]) rfl ?_
    refine va_sld hx hb hX hbl hbA hS (show vp_in 2 8 by unfold vp_in; decide) dL_law_1545 ?_
    refine W.eq (g2 := F0 m 1546 ls [.int (xs 2), .int (xs 1), .ref m0]) rfl ?_
    refine lv_aload_n hx hb dL_law_1546 rfl (lv_at hl 1 rfl) ?_
    refine lv_iload hx hb dL_law_1547 (lv_at hl 5 rfl) ?_
    refine lv_iconst (v := 3) hx hb dL_law_1549 (by decide) ?_
    refine lv_iadd hx hb dL_law_1550 ?_
    refine W.eq (g2 := F0 m 1551 ls [.int 3, .ref b, .int (xs 2), .int (xs 1), .ref m0]) rfl ?_
    refine va_sld hx hb hX hbl hbA hS (show vp_in 3 8 by unfold vp_in; decide) dL_law_1551 ?_
    refine W.eq (g2 := F0 m 1552 ls [.int (xs 3), .int (xs 2), .int (xs 1), .ref m0]) rfl ?_
    refine lv_aload_n hx hb dL_law_1552 rfl (lv_at hl 1 rfl) ?_
    refine lv_iload hx hb dL_law_1553 (lv_at hl 5 rfl) ?_
    refine lv_iconst (v := 4) hx hb dL_law_1555 (by decide) ?_
    refine lv_iadd hx hb dL_law_1556 ?_
    refine W.eq (g2 := F0 m 1557 ls [.int 4, .ref b, .int (xs 3), .int (xs 2), .int (xs 1), .ref m0]) rfl ?_
    refine va_sld hx hb hX hbl hbA hS (show vp_in 4 8 by unfold vp_in; decide) dL_law_1557 ?_
    refine W.eq (g2 := F0 m 1558 ls [.int (xs 4), .int (xs 3), .int (xs 2), .int (xs 1), .ref m0]) rfl ?_
    refine lv_i2l (v := (xs 4).toInt64) hx hb dL_law_1558 rfl ?_
    refine lv_bipush (v := 32) hx hb dL_law_1559 (by decide) ?_
    refine lv_lshl (v := ((xs 4).toInt64) <<< ((32 : Int32).toInt64 &&& 63)) hx hb dL_law_1561 rfl ?_
    refine lv_aload_n hx hb dL_law_1562 rfl (lv_at hl 1 rfl) ?_
    refine lv_iload hx hb dL_law_1563 (lv_at hl 5 rfl) ?_
    refine lv_iconst (v := 5) hx hb dL_law_1565 (by decide) ?_
    refine lv_iadd hx hb dL_law_1566 ?_
    refine W.eq (g2 := F0 m 1567 ls [.int 5, .ref b, .long (((xs 4).toInt64) <<< ((32 : Int32).toInt64 &&& 63)), .int (xs 3), .int (xs 2), .int (xs 1), .ref m0]) rfl ?_
    refine va_sld hx hb hX hbl hbA hS (show vp_in 5 8 by unfold vp_in; decide) dL_law_1567 ?_
    refine W.eq (g2 := F0 m 1568 ls [.int (xs 5), .long (((xs 4).toInt64) <<< ((32 : Int32).toInt64 &&& 63)), .int (xs 3), .int (xs 2), .int (xs 1), .ref m0]) rfl ?_
    refine lv_i2l (v := (xs 5).toInt64) hx hb dL_law_1568 rfl ?_
    refine lv_ldc2 (v := 4294967295) hx hb hown (hG _ gw_2764) dL_law_1569 ?_
    refine lv_land hx hb dL_law_1572 ?_
    refine lv_lor hx hb dL_law_1573 ?_
    refine lv_aload_n hx hb dL_law_1574 rfl (lv_at hl 1 rfl) ?_
    refine lv_iload hx hb dL_law_1575 (lv_at hl 5 rfl) ?_
    refine lv_bipush (v := 6) hx hb dL_law_1577 (by decide) ?_
    refine lv_iadd hx hb dL_law_1579 ?_
    refine W.eq (g2 := F0 m 1580 ls [.int 6, .ref b, .long ((((xs 4).toInt64) <<< ((32 : Int32).toInt64 &&& 63)) ||| (((xs 5).toInt64) &&& 4294967295)), .int (xs 3), .int (xs 2), .int (xs 1), .ref m0]) rfl ?_
    refine va_sld hx hb hX hbl hbA hS (show vp_in 6 8 by unfold vp_in; decide) dL_law_1580 ?_
    refine W.eq (g2 := F0 m 1581 ls [.int (xs 6), .long ((((xs 4).toInt64) <<< ((32 : Int32).toInt64 &&& 63)) ||| (((xs 5).toInt64) &&& 4294967295)), .int (xs 3), .int (xs 2), .int (xs 1), .ref m0]) rfl ?_
    refine lv_i2l (v := (xs 6).toInt64) hx hb dL_law_1581 rfl ?_
    refine lv_bipush (v := 32) hx hb dL_law_1582 (by decide) ?_
    refine lv_lshl (v := ((xs 6).toInt64) <<< ((32 : Int32).toInt64 &&& 63)) hx hb dL_law_1584 rfl ?_
    refine lv_aload_n hx hb dL_law_1585 rfl (lv_at hl 1 rfl) ?_
    refine lv_iload hx hb dL_law_1586 (lv_at hl 5 rfl) ?_
    refine lv_bipush (v := 7) hx hb dL_law_1588 (by decide) ?_
    refine lv_iadd hx hb dL_law_1590 ?_
    refine W.eq (g2 := F0 m 1591 ls [.int 7, .ref b, .long (((xs 6).toInt64) <<< ((32 : Int32).toInt64 &&& 63)), .long ((((xs 4).toInt64) <<< ((32 : Int32).toInt64 &&& 63)) ||| (((xs 5).toInt64) &&& 4294967295)), .int (xs 3), .int (xs 2), .int (xs 1), .ref m0]) rfl ?_
    refine va_sld hx hb hX hbl hbA hS (show vp_in 7 8 by unfold vp_in; decide) dL_law_1591 ?_
    refine W.eq (g2 := F0 m 1592 ls [.int (xs 7), .long (((xs 6).toInt64) <<< ((32 : Int32).toInt64 &&& 63)), .long ((((xs 4).toInt64) <<< ((32 : Int32).toInt64 &&& 63)) ||| (((xs 5).toInt64) &&& 4294967295)), .int (xs 3), .int (xs 2), .int (xs 1), .ref m0]) rfl ?_
    refine lv_i2l (v := (xs 7).toInt64) hx hb dL_law_1592 rfl ?_
    refine lv_ldc2 (v := 4294967295) hx hb hown (hG _ gw_2764) dL_law_1593 ?_
    refine lv_land hx hb dL_law_1596 ?_
    refine lv_lor hx hb dL_law_1597 ?_
    have hPc := hP.sub (ws' := [(m0, .inr (11, y0))]) [0] rfl
    have hDc := hD.sub (ws' := [(m0, .inr (11, y0))]) [0] (by decide) rfl
    have hFc := va_free (wc := [(m0, .inr (11, y0))]) hD hS hA [0] rfl
    refine va_calll (va_runV (As := [.int (xs 1), .int (xs 2), .int (xs 3), .long ((((xs 4).toInt64) <<< ((32 : Int32).toInt64 &&& 63)) ||| (((xs 5).toInt64) &&& 4294967295)), .long ((((xs 6).toInt64) <<< ((32 : Int32).toInt64 &&& 63)) ||| (((xs 7).toInt64) &&& 4294967295))]) (rest := []) ⟨hx, hb, hml, hown, hts⟩ (a153_X12_work l  D kA V H.size m0 (xs 1) (xs 2) (xs 3) ((((xs 4).toInt64) <<< ((32 : Int32).toInt64 &&& 63)) ||| (((xs 5).toInt64) &&& 4294967295)) ((((xs 6).toInt64) <<< ((32 : Int32).toInt64 &&& 63)) ||| (((xs 7).toInt64) &&& 4294967295)) y0 (fun k hk => (hq k hk)) hq9) (cwV 5 hts (gw_V gw_2756 gw_2757 gw_2758 gw_16 gw_2759) rfl rfl rfl (by decide +kernel) ⟨(Nat.le_of_ble_eq_true rfl), (Nat.le_of_ble_eq_true rfl)⟩) ⟨aP.blind, va_recv hK hP (ci := 11) (q0 := 0) rfl rfl, aP.pre hE hS hPc hK hDc hFc⟩ rfl rfl hl.1 rfl (lv_room (Nat.le_of_ble_eq_true rfl)) dL_law_1598 ⟨(Nat.le_of_ble_eq_true rfl), (Nat.le_of_ble_eq_true rfl)⟩) hS (fun q _ h => hFc q h) hFc (fun r_10515 u t H1 locs ht hvm hw hB hz1 hk1 hS => ?_)
    obtain ⟨u_10516, rfl⟩ : ∃ z, z = u := ⟨u, rfl⟩
    obtain ⟨hP1, hD1⟩ := hB
    rw [ht] at hP1
    try dsimp only at hw hP1 hD1
    rcases hw with ⟨c_10517, c_10518, w_10519, w_10520⟩ | ⟨c_10521, c_10522, c_10523, w_10524, w_10525⟩ | ⟨c_10526, c_10527, c_10528, c_10529, w_10530, w_10531⟩ | ⟨c_10532, c_10533, c_10534, c_10535, c_10536, w_10537, w_10538⟩ | ⟨c_10539, c_10540, c_10541, c_10542, c_10543, w_10544, w_10545⟩ | ⟨c_10546, c_10547, c_10548, w_10549, w_10550⟩ | ⟨c_10551, c_10552, c_10553, c_10554, w_10555, w_10556⟩ | ⟨c_10557, c_10558, c_10559, c_10560, c_10561, w_10562, w_10563⟩ | ⟨c_10564, c_10565, c_10566, c_10567, c_10568, c_10569, w_10570, w_10571⟩ | ⟨c_10572, c_10573, c_10574, c_10575, c_10576, c_10577, w_10578, w_10579⟩ | ⟨c_10580, c_10581, c_10582, w_10583, w_10584⟩ | ⟨c_10585, c_10586, c_10587, c_10588, w_10589, w_10590⟩ | ⟨c_10591, c_10592, c_10593, c_10594, c_10595, w_10596, w_10597⟩ | ⟨c_10598, c_10599, c_10600, c_10601, c_10602, c_10603, w_10604, w_10605⟩ | ⟨c_10606, c_10607, c_10608, c_10609, c_10610, c_10611, c_10612, c_10613, c_10614, c_10615, c_10616, c_10617, c_10618, c_10619, c_10620, c_10621, c_10622, c_10623, c_10624, w_10625, w_10626⟩ | ⟨c_10627, c_10628, c_10629, c_10630, c_10631, c_10632, c_10633, c_10634, c_10635, c_10636, c_10637, c_10638, c_10639, c_10640, c_10641, c_10642, c_10643, c_10644, c_10645, c_10646, w_10647, w_10648⟩ | ⟨c_10649, c_10650, c_10651, c_10652, c_10653, c_10654, c_10655, c_10656, c_10657, c_10658, c_10659, c_10660, c_10661, c_10662, c_10663, c_10664, c_10665, c_10666, c_10667, c_10668, c_10669, w_10670, w_10671⟩ | ⟨c_10672, c_10673, c_10674, c_10675, c_10676, c_10677, c_10678, c_10679, c_10680, c_10681, c_10682, c_10683, c_10684, c_10685, c_10686, c_10687, c_10688, c_10689, c_10690, c_10691, c_10692, w_10693, w_10694⟩ | ⟨c_10695, c_10696, c_10697, c_10698, c_10699, c_10700, c_10701, c_10702, c_10703, c_10704, c_10705, c_10706, c_10707, c_10708, c_10709, c_10710, c_10711, c_10712, c_10713, w_10714, w_10715⟩ | ⟨c_10716, c_10717, c_10718, c_10719, c_10720, c_10721, c_10722, c_10723, c_10724, c_10725, c_10726, c_10727, c_10728, c_10729, c_10730, c_10731, c_10732, c_10733, c_10734, c_10735, w_10736, w_10737⟩ | ⟨c_10738, c_10739, c_10740, c_10741, c_10742, c_10743, c_10744, c_10745, c_10746, c_10747, c_10748, c_10749, c_10750, c_10751, c_10752, c_10753, c_10754, c_10755, w_10756, w_10757⟩ | ⟨c_10758, c_10759, c_10760, c_10761, c_10762, c_10763, c_10764, c_10765, c_10766, c_10767, c_10768, c_10769, c_10770, c_10771, c_10772, c_10773, c_10774, c_10775, c_10776, w_10777, w_10778⟩ | ⟨c_10779, c_10780, c_10781, c_10782, c_10783, c_10784, c_10785, c_10786, c_10787, c_10788, c_10789, c_10790, c_10791, c_10792, c_10793, c_10794, c_10795, w_10796, w_10797⟩ | ⟨c_10798, c_10799, c_10800, c_10801, c_10802, c_10803, c_10804, c_10805, c_10806, c_10807, c_10808, c_10809, c_10810, c_10811, c_10812, c_10813, c_10814, c_10815, c_10816, w_10817, w_10818⟩ | ⟨c_10819, c_10820, c_10821, c_10822, c_10823, c_10824, c_10825, c_10826, c_10827, c_10828, c_10829, c_10830, c_10831, c_10832, c_10833, c_10834, c_10835, c_10836, c_10837, w_10838, w_10839⟩ | ⟨c_10840, c_10841, c_10842, c_10843, c_10844, c_10845, c_10846, c_10847, c_10848, c_10849, c_10850, c_10851, c_10852, c_10853, c_10854, c_10855, w_10856, w_10857⟩ | ⟨c_10858, c_10859, c_10860, c_10861, c_10862, c_10863, c_10864, c_10865, c_10866, c_10867, c_10868, c_10869, c_10870, c_10871, c_10872, c_10873, c_10874, c_10875, w_10876, w_10877⟩ | ⟨c_10878, c_10879, c_10880, c_10881, c_10882, c_10883, c_10884, c_10885, c_10886, c_10887, c_10888, c_10889, c_10890, c_10891, c_10892, c_10893, c_10894, c_10895, w_10896, w_10897⟩ | ⟨c_10898, c_10899, c_10900, c_10901, c_10902, c_10903, c_10904, c_10905, c_10906, c_10907, c_10908, c_10909, c_10910, c_10911, c_10912, w_10913, w_10914⟩ | ⟨c_10915, c_10916, c_10917, c_10918, c_10919, c_10920, c_10921, c_10922, c_10923, c_10924, c_10925, c_10926, c_10927, c_10928, c_10929, c_10930, c_10931, w_10932, w_10933⟩ | ⟨c_10934, c_10935, c_10936, c_10937, c_10938, c_10939, c_10940, c_10941, c_10942, c_10943, c_10944, c_10945, c_10946, c_10947, c_10948, c_10949, c_10950, w_10951, w_10952⟩ | ⟨c_10953, c_10954, c_10955, c_10956, c_10957, c_10958, c_10959, c_10960, c_10961, c_10962, c_10963, c_10964, c_10965, c_10966, c_10967, w_10968, w_10969⟩ | ⟨c_10970, c_10971, c_10972, c_10973, c_10974, c_10975, c_10976, c_10977, c_10978, c_10979, c_10980, c_10981, c_10982, c_10983, c_10984, c_10985, c_10986, w_10987, w_10988⟩ | ⟨c_10989, c_10990, c_10991, c_10992, c_10993, c_10994, c_10995, c_10996, c_10997, c_10998, c_10999, c_11000, c_11001, c_11002, c_11003, c_11004, c_11005, w_11006, w_11007⟩ | ⟨c_11008, c_11009, c_11010, c_11011, c_11012, c_11013, c_11014, c_11015, c_11016, c_11017, c_11018, c_11019, c_11020, c_11021, c_11022, w_11023, w_11024⟩ | ⟨c_11025, c_11026, c_11027, c_11028, c_11029, c_11030, c_11031, c_11032, c_11033, c_11034, c_11035, c_11036, c_11037, c_11038, c_11039, c_11040, c_11041, w_11042, w_11043⟩ | ⟨c_11044, c_11045, c_11046, c_11047, c_11048, c_11049, c_11050, c_11051, c_11052, c_11053, c_11054, c_11055, c_11056, c_11057, c_11058, c_11059, c_11060, w_11061, w_11062⟩ | ⟨c_11063, c_11064, c_11065, c_11066, c_11067, c_11068, c_11069, c_11070, c_11071, c_11072, c_11073, c_11074, c_11075, w_11076, w_11077⟩ | ⟨c_11078, c_11079, c_11080, c_11081, c_11082, c_11083, c_11084, c_11085, c_11086, c_11087, c_11088, c_11089, c_11090, c_11091, c_11092, w_11093, w_11094⟩ | ⟨c_11095, c_11096, c_11097, c_11098, c_11099, c_11100, c_11101, c_11102, c_11103, c_11104, c_11105, c_11106, c_11107, c_11108, c_11109, w_11110, w_11111⟩ | ⟨c_11112, c_11113, c_11114, c_11115, c_11116, c_11117, c_11118, c_11119, c_11120, c_11121, c_11122, c_11123, c_11124, w_11125, w_11126⟩ | ⟨c_11127, c_11128, c_11129, c_11130, c_11131, c_11132, c_11133, c_11134, c_11135, c_11136, c_11137, c_11138, c_11139, c_11140, c_11141, w_11142, w_11143⟩ | ⟨c_11144, c_11145, c_11146, c_11147, c_11148, c_11149, c_11150, c_11151, c_11152, c_11153, c_11154, c_11155, c_11156, c_11157, c_11158, w_11159, w_11160⟩ | ⟨c_11161, c_11162, c_11163, c_11164, c_11165, c_11166, c_11167, c_11168, c_11169, c_11170, c_11171, c_11172, w_11173, w_11174⟩ | ⟨c_11175, c_11176, c_11177, c_11178, c_11179, c_11180, c_11181, c_11182, c_11183, c_11184, c_11185, c_11186, c_11187, c_11188, w_11189, w_11190⟩ | ⟨c_11191, c_11192, c_11193, c_11194, c_11195, c_11196, c_11197, c_11198, c_11199, c_11200, c_11201, c_11202, c_11203, c_11204, w_11205, w_11206⟩ | ⟨c_11207, c_11208, c_11209, c_11210, c_11211, c_11212, c_11213, c_11214, c_11215, c_11216, c_11217, w_11218, w_11219⟩ | ⟨c_11220, c_11221, c_11222, c_11223, c_11224, c_11225, c_11226, c_11227, c_11228, c_11229, c_11230, c_11231, c_11232, w_11233, w_11234⟩ | ⟨c_11235, c_11236, c_11237, c_11238, c_11239, c_11240, c_11241, c_11242, c_11243, c_11244, c_11245, c_11246, c_11247, w_11248, w_11249⟩ | ⟨c_11250, c_11251, c_11252, c_11253, c_11254, c_11255, c_11256, c_11257, c_11258, c_11259, w_11260, w_11261⟩ | ⟨c_11262, c_11263, c_11264, c_11265, c_11266, c_11267, c_11268, c_11269, c_11270, c_11271, c_11272, c_11273, w_11274, w_11275⟩ | ⟨c_11276, c_11277, c_11278, c_11279, c_11280, c_11281, c_11282, c_11283, c_11284, c_11285, c_11286, c_11287, w_11288, w_11289⟩
    · skip
      subst w_10519
      subst w_10520
      exact absurd c_10517 c_118
    · skip
      subst w_10524
      subst w_10525
      exact absurd c_10521 c_118
    · skip
      subst w_10530
      subst w_10531
      exact absurd c_10526 c_118
    · skip
      subst w_10537
      subst w_10538
      exact absurd c_10532 c_118
    · skip
      subst w_10544
      subst w_10545
      exact absurd c_10539 c_118
    · skip
      subst w_10549
      subst w_10550
      exact absurd c_10547 (Int32.not_lt.mpr c_119)
    · skip
      subst w_10555
      subst w_10556
      exact absurd c_10552 (Int32.not_lt.mpr c_119)
    · skip
      subst w_10562
      subst w_10563
      exact absurd c_10558 (Int32.not_lt.mpr c_119)
    · skip
      subst w_10570
      subst w_10571
      exact absurd c_10565 (Int32.not_lt.mpr c_119)
    · skip
      subst w_10578
      subst w_10579
      exact absurd c_10573 (Int32.not_lt.mpr c_119)
    · skip
      subst w_10583
      subst w_10584
      exact absurd c_10582 c_114
    · skip
      subst w_10589
      subst w_10590
      exact absurd c_10588 c_115
    · skip
      subst w_10596
      subst w_10597
      exact absurd c_10595 c_116
    · skip
      subst w_10604
      subst w_10605
      exact absurd c_10603 c_117
    · skip
      subst w_10625
      subst w_10626
      exact absurd c_10624 c_123
    · skip
      subst w_10647
      subst w_10648
      obtain ⟨hP, hD⟩ := va_join (wr := [(h0, .inr (10, [.ref x0, .int 0, .ref x1, .ref x2, .ref x3, .ref x4, .ref x5, .ref x6, .ref x7, .ref x8, .int 0, .int 3000])), (o0, .inl (kA 1, 1, .inr (.inl (vp_updL (fun _ => 0) 0 (n_cut (xs 2) (n_combine (xs 1) 0 (n_cut (xs 2) ((((xs 4).toInt64) <<< ((32 : Int32).toInt64 &&& 63)) ||| (((xs 5).toInt64) &&& 4294967295))) (n_cut (xs 3) ((((xs 6).toInt64) <<< ((32 : Int32).toInt64 &&& 63)) ||| (((xs 7).toInt64) &&& 4294967295)))))))))]) (w1 := [(m0, .inr (11, y0.set 9 (.int 0)))]) hP hD [0] [1, 2] rfl rfl (by decide) (by decide) hk1 hFc hP1 hD1
      generalize H1 = H at hP hS ⊢
      have hP : va_P D vwCl [(h0, .inr (10, [.ref x0, .int 0, .ref x1, .ref x2, .ref x3, .ref x4, .ref x5, .ref x6, .ref x7, .ref x8, .int 0, .int 3000])), (o0, .inl (kA 1, 1, .inr (.inl (vp_updL (fun _ => 0) 0 (n_cut (xs 2) (n_combine (xs 1) 0 (n_cut (xs 2) ((((xs 4).toInt64) <<< ((32 : Int32).toInt64 &&& 63)) ||| (((xs 5).toInt64) &&& 4294967295))) (n_cut (xs 3) ((((xs 6).toInt64) <<< ((32 : Int32).toInt64 &&& 63)) ||| (((xs 7).toInt64) &&& 4294967295))))))))), (m0, .inr (11, y0.set 9 (.int 0)))] H := hP
      have hD : va_D A [(h0, .inr (10, [.ref x0, .int 0, .ref x1, .ref x2, .ref x3, .ref x4, .ref x5, .ref x6, .ref x7, .ref x8, .int 0, .int 3000])), (o0, .inl (kA 1, 1, .inr (.inl (vp_updL (fun _ => 0) 0 (n_cut (xs 2) (n_combine (xs 1) 0 (n_cut (xs 2) ((((xs 4).toInt64) <<< ((32 : Int32).toInt64 &&& 63)) ||| (((xs 5).toInt64) &&& 4294967295))) (n_cut (xs 3) ((((xs 6).toInt64) <<< ((32 : Int32).toInt64 &&& 63)) ||| (((xs 7).toInt64) &&& 4294967295))))))))), (m0, .inr (11, y0.set 9 (.int 0)))] := hD
      refine lv_lstore (lv' := [(6, .long (n_cut (xs 2) (r_two 203 0 (n_cut (xs 2) ((((xs 4).toInt64) <<< ((32 : Int32).toInt64 &&& 63)) ||| (((xs 5).toInt64) &&& 4294967295))) (n_cut (xs 3) ((((xs 6).toInt64) <<< ((32 : Int32).toInt64 &&& 63)) ||| (((xs 7).toInt64) &&& 4294967295)))))), (5, .int 0), (0, .ref b), (1, .ref h0), (2, .ref m0), (3, .ref o0), (4, .int 0)]) hx hb dL_law_1601 hl (by decide) rfl (fun ls hl => ?_)
      refine lv_aload_n hx hb dL_law_1603 rfl (lv_at hl 4 rfl) ?_
      have hPc := hP.sub (ws' := [(m0, .inr (11, y0.set 9 (.int 0)))]) [2] rfl
      have hDc := hD.sub (ws' := [(m0, .inr (11, y0.set 9 (.int 0)))]) [2] (by decide) rfl
      have hFc := va_free (wc := [(m0, .inr (11, y0.set 9 (.int 0)))]) hD hS hA [2] rfl
      refine va_calli (va_runV (As := []) (rest := []) ⟨hx, hb, hml, hown, hts⟩ (a94_X12_thrown l  D kA V H.size m0 (y0.set 9 (.int 0)) (fun k hk => (by rw [List.length_set]; exact (hq k hk))) (List.getElem?_set_self (hq 9 (by decide)))) (cwV 0 hts (gw_V gw_1879 gw_1880 gw_1881 gw_16 gw_1882) rfl rfl rfl (by decide +kernel) ⟨(Nat.le_of_ble_eq_true rfl), (Nat.le_of_ble_eq_true rfl)⟩) ⟨aP.blind, va_recv hK hP (ci := 11) (q0 := 2) rfl rfl, aP.pre hE hS hPc hK hDc hFc⟩ rfl rfl hl.1 rfl (lv_room (Nat.le_of_ble_eq_true rfl)) dL_law_1604 ⟨(Nat.le_of_ble_eq_true rfl), (Nat.le_of_ble_eq_true rfl)⟩) hS (fun q _ h => hFc q h) hFc (fun r_11290 u t H1 locs ht hvm hw hB hz1 hk1 hS => ?_)
      obtain ⟨hP1, hD1⟩ := hB
      rw [ht] at hP1
      try dsimp only at hw hP1 hD1
      have w_11291 := hw
      subst w_11291
      obtain ⟨hP, hD⟩ := va_join (wr := [(h0, .inr (10, [.ref x0, .int 0, .ref x1, .ref x2, .ref x3, .ref x4, .ref x5, .ref x6, .ref x7, .ref x8, .int 0, .int 3000])), (o0, .inl (kA 1, 1, .inr (.inl (vp_updL (fun _ => 0) 0 (n_cut (xs 2) (n_combine (xs 1) 0 (n_cut (xs 2) ((((xs 4).toInt64) <<< ((32 : Int32).toInt64 &&& 63)) ||| (((xs 5).toInt64) &&& 4294967295))) (n_cut (xs 3) ((((xs 6).toInt64) <<< ((32 : Int32).toInt64 &&& 63)) ||| (((xs 7).toInt64) &&& 4294967295)))))))))]) (w1 := [(m0, .inr (11, (y0.set 9 (.int 0))))]) hP hD [2] [0, 1] rfl rfl (by decide) (by decide) hk1 hFc hP1 hD1
      generalize H1 = H at hP hS ⊢
      have hP : va_P D vwCl [(h0, .inr (10, [.ref x0, .int 0, .ref x1, .ref x2, .ref x3, .ref x4, .ref x5, .ref x6, .ref x7, .ref x8, .int 0, .int 3000])), (o0, .inl (kA 1, 1, .inr (.inl (vp_updL (fun _ => 0) 0 (n_cut (xs 2) (n_combine (xs 1) 0 (n_cut (xs 2) ((((xs 4).toInt64) <<< ((32 : Int32).toInt64 &&& 63)) ||| (((xs 5).toInt64) &&& 4294967295))) (n_cut (xs 3) ((((xs 6).toInt64) <<< ((32 : Int32).toInt64 &&& 63)) ||| (((xs 7).toInt64) &&& 4294967295))))))))), (m0, .inr (11, (y0.set 9 (.int 0))))] H := hP
      have hD : va_D A [(h0, .inr (10, [.ref x0, .int 0, .ref x1, .ref x2, .ref x3, .ref x4, .ref x5, .ref x6, .ref x7, .ref x8, .int 0, .int 3000])), (o0, .inl (kA 1, 1, .inr (.inl (vp_updL (fun _ => 0) 0 (n_cut (xs 2) (n_combine (xs 1) 0 (n_cut (xs 2) ((((xs 4).toInt64) <<< ((32 : Int32).toInt64 &&& 63)) ||| (((xs 5).toInt64) &&& 4294967295))) (n_cut (xs 3) ((((xs 6).toInt64) <<< ((32 : Int32).toInt64 &&& 63)) ||| (((xs 7).toInt64) &&& 4294967295))))))))), (m0, .inr (11, (y0.set 9 (.int 0))))] := hD
      refine lv_iload hx hb dL_law_1607 (lv_at hl 1 rfl) ?_
      refine lv_icmp_eq (tgt := 1614) hx hb dL_law_1609 (by decide) (fun c_11292 => ?_) (fun c_11292 => ?_)
      · skip
        refine lv_iload hx hb dL_law_1614 (lv_at hl 1 rfl) ?_
        refine lv_if_ne (tgt := 1630) hx hb dL_law_1616 (by decide) (fun c_11293 => ?_) (fun c_11293 => ?_)
        · exact absurd (by decide) c_11293
        · skip
          refine lv_aload_n hx hb dL_law_1619 rfl (lv_at hl 5 rfl) ?_
          refine lv_iconst (v := 0) hx hb dL_law_1620 (by decide) ?_
          refine va_lald hx hb hK hP 1 1 rfl rfl (show vp_in 0 1 by unfold vp_in; decide) dL_law_1621 ?_
          refine W.eq (g2 := F0 m 1622 ls [.long (n_cut (xs 2) (n_combine (xs 1) 0 (n_cut (xs 2) ((((xs 4).toInt64) <<< ((32 : Int32).toInt64 &&& 63)) ||| (((xs 5).toInt64) &&& 4294967295))) (n_cut (xs 3) ((((xs 6).toInt64) <<< ((32 : Int32).toInt64 &&& 63)) ||| (((xs 7).toInt64) &&& 4294967295)))))]) rfl ?_
          refine lv_lload hx hb dL_law_1622 (lv_at hl 0 rfl) ?_
          refine W.lcmp hx hb dL_law_1624 ?_
          refine lv_if_eq (tgt := 1630) hx hb dL_law_1625 (by decide) (fun c_11294 => ?_) (fun c_11294 => ?_)
          · skip
            refine lv_goto (tgt := 1804) hx hb dL_law_1630 (by decide) ?_
            exact lk_tail hC hA2 (lv_sub hl [2, 6] rfl) hS (Nat.le_of_ble_eq_true rfl) (Nat.le_of_ble_eq_true rfl)
          · exact absurd ((lg_cmp_eq _ _).mpr (qx_w0 c_118 c_10628 c_114 c_115 c_123 c_116 c_117 (fun q => absurd q (Int32.not_lt.mpr c_124)) (fun q => q.1.elim c_121 c_122) (by unfold q_sign; rw [if_neg c_10633, if_neg c_10634, if_neg c_10635, if_neg c_121, if_neg c_122, if_neg c_10638, if_neg c_10639, if_neg c_10640, if_neg c_10641, if_neg c_10642]))) c_11294
      · exact absurd (by decide) c_11292
    · skip
      subst w_10670
      subst w_10671
      exact absurd c_124 c_10668
    · skip
      subst w_10693
      subst w_10694
      exact absurd c_124 c_10691
    · skip
      subst w_10714
      subst w_10715
      exact absurd c_10713 c_123
    · skip
      subst w_10736
      subst w_10737
      obtain ⟨hP, hD⟩ := va_join (wr := [(h0, .inr (10, [.ref x0, .int 0, .ref x1, .ref x2, .ref x3, .ref x4, .ref x5, .ref x6, .ref x7, .ref x8, .int 0, .int 3000])), (o0, .inl (kA 1, 1, .inr (.inl (vp_updL (fun _ => 0) 0 (n_cut (xs 2) (n_combine (xs 1) 0 (n_cut (xs 2) ((((xs 4).toInt64) <<< ((32 : Int32).toInt64 &&& 63)) ||| (((xs 5).toInt64) &&& 4294967295))) (n_cut (xs 3) ((((xs 6).toInt64) <<< ((32 : Int32).toInt64 &&& 63)) ||| (((xs 7).toInt64) &&& 4294967295)))))))))]) (w1 := [(m0, .inr (11, y0.set 9 (.int 0)))]) hP hD [0] [1, 2] rfl rfl (by decide) (by decide) hk1 hFc hP1 hD1
      generalize H1 = H at hP hS ⊢
      have hP : va_P D vwCl [(h0, .inr (10, [.ref x0, .int 0, .ref x1, .ref x2, .ref x3, .ref x4, .ref x5, .ref x6, .ref x7, .ref x8, .int 0, .int 3000])), (o0, .inl (kA 1, 1, .inr (.inl (vp_updL (fun _ => 0) 0 (n_cut (xs 2) (n_combine (xs 1) 0 (n_cut (xs 2) ((((xs 4).toInt64) <<< ((32 : Int32).toInt64 &&& 63)) ||| (((xs 5).toInt64) &&& 4294967295))) (n_cut (xs 3) ((((xs 6).toInt64) <<< ((32 : Int32).toInt64 &&& 63)) ||| (((xs 7).toInt64) &&& 4294967295))))))))), (m0, .inr (11, y0.set 9 (.int 0)))] H := hP
      have hD : va_D A [(h0, .inr (10, [.ref x0, .int 0, .ref x1, .ref x2, .ref x3, .ref x4, .ref x5, .ref x6, .ref x7, .ref x8, .int 0, .int 3000])), (o0, .inl (kA 1, 1, .inr (.inl (vp_updL (fun _ => 0) 0 (n_cut (xs 2) (n_combine (xs 1) 0 (n_cut (xs 2) ((((xs 4).toInt64) <<< ((32 : Int32).toInt64 &&& 63)) ||| (((xs 5).toInt64) &&& 4294967295))) (n_cut (xs 3) ((((xs 6).toInt64) <<< ((32 : Int32).toInt64 &&& 63)) ||| (((xs 7).toInt64) &&& 4294967295))))))))), (m0, .inr (11, y0.set 9 (.int 0)))] := hD
      refine lv_lstore (lv' := [(6, .long (n_cut (xs 2) (r_two 222 0 (n_cut (xs 2) ((((xs 4).toInt64) <<< ((32 : Int32).toInt64 &&& 63)) ||| (((xs 5).toInt64) &&& 4294967295))) (n_cut (xs 3) ((((xs 6).toInt64) <<< ((32 : Int32).toInt64 &&& 63)) ||| (((xs 7).toInt64) &&& 4294967295)))))), (5, .int 0), (0, .ref b), (1, .ref h0), (2, .ref m0), (3, .ref o0), (4, .int 0)]) hx hb dL_law_1601 hl (by decide) rfl (fun ls hl => ?_)
      refine lv_aload_n hx hb dL_law_1603 rfl (lv_at hl 4 rfl) ?_
      have hPc := hP.sub (ws' := [(m0, .inr (11, y0.set 9 (.int 0)))]) [2] rfl
      have hDc := hD.sub (ws' := [(m0, .inr (11, y0.set 9 (.int 0)))]) [2] (by decide) rfl
      have hFc := va_free (wc := [(m0, .inr (11, y0.set 9 (.int 0)))]) hD hS hA [2] rfl
      refine va_calli (va_runV (As := []) (rest := []) ⟨hx, hb, hml, hown, hts⟩ (a94_X12_thrown l  D kA V H.size m0 (y0.set 9 (.int 0)) (fun k hk => (by rw [List.length_set]; exact (hq k hk))) (List.getElem?_set_self (hq 9 (by decide)))) (cwV 0 hts (gw_V gw_1879 gw_1880 gw_1881 gw_16 gw_1882) rfl rfl rfl (by decide +kernel) ⟨(Nat.le_of_ble_eq_true rfl), (Nat.le_of_ble_eq_true rfl)⟩) ⟨aP.blind, va_recv hK hP (ci := 11) (q0 := 2) rfl rfl, aP.pre hE hS hPc hK hDc hFc⟩ rfl rfl hl.1 rfl (lv_room (Nat.le_of_ble_eq_true rfl)) dL_law_1604 ⟨(Nat.le_of_ble_eq_true rfl), (Nat.le_of_ble_eq_true rfl)⟩) hS (fun q _ h => hFc q h) hFc (fun r_11295 u t H1 locs ht hvm hw hB hz1 hk1 hS => ?_)
      obtain ⟨hP1, hD1⟩ := hB
      rw [ht] at hP1
      try dsimp only at hw hP1 hD1
      have w_11296 := hw
      subst w_11296
      obtain ⟨hP, hD⟩ := va_join (wr := [(h0, .inr (10, [.ref x0, .int 0, .ref x1, .ref x2, .ref x3, .ref x4, .ref x5, .ref x6, .ref x7, .ref x8, .int 0, .int 3000])), (o0, .inl (kA 1, 1, .inr (.inl (vp_updL (fun _ => 0) 0 (n_cut (xs 2) (n_combine (xs 1) 0 (n_cut (xs 2) ((((xs 4).toInt64) <<< ((32 : Int32).toInt64 &&& 63)) ||| (((xs 5).toInt64) &&& 4294967295))) (n_cut (xs 3) ((((xs 6).toInt64) <<< ((32 : Int32).toInt64 &&& 63)) ||| (((xs 7).toInt64) &&& 4294967295)))))))))]) (w1 := [(m0, .inr (11, (y0.set 9 (.int 0))))]) hP hD [2] [0, 1] rfl rfl (by decide) (by decide) hk1 hFc hP1 hD1
      generalize H1 = H at hP hS ⊢
      have hP : va_P D vwCl [(h0, .inr (10, [.ref x0, .int 0, .ref x1, .ref x2, .ref x3, .ref x4, .ref x5, .ref x6, .ref x7, .ref x8, .int 0, .int 3000])), (o0, .inl (kA 1, 1, .inr (.inl (vp_updL (fun _ => 0) 0 (n_cut (xs 2) (n_combine (xs 1) 0 (n_cut (xs 2) ((((xs 4).toInt64) <<< ((32 : Int32).toInt64 &&& 63)) ||| (((xs 5).toInt64) &&& 4294967295))) (n_cut (xs 3) ((((xs 6).toInt64) <<< ((32 : Int32).toInt64 &&& 63)) ||| (((xs 7).toInt64) &&& 4294967295))))))))), (m0, .inr (11, (y0.set 9 (.int 0))))] H := hP
      have hD : va_D A [(h0, .inr (10, [.ref x0, .int 0, .ref x1, .ref x2, .ref x3, .ref x4, .ref x5, .ref x6, .ref x7, .ref x8, .int 0, .int 3000])), (o0, .inl (kA 1, 1, .inr (.inl (vp_updL (fun _ => 0) 0 (n_cut (xs 2) (n_combine (xs 1) 0 (n_cut (xs 2) ((((xs 4).toInt64) <<< ((32 : Int32).toInt64 &&& 63)) ||| (((xs 5).toInt64) &&& 4294967295))) (n_cut (xs 3) ((((xs 6).toInt64) <<< ((32 : Int32).toInt64 &&& 63)) ||| (((xs 7).toInt64) &&& 4294967295))))))))), (m0, .inr (11, (y0.set 9 (.int 0))))] := hD
      refine lv_iload hx hb dL_law_1607 (lv_at hl 1 rfl) ?_
      refine lv_icmp_eq (tgt := 1614) hx hb dL_law_1609 (by decide) (fun c_11297 => ?_) (fun c_11297 => ?_)
      · skip
        refine lv_iload hx hb dL_law_1614 (lv_at hl 1 rfl) ?_
        refine lv_if_ne (tgt := 1630) hx hb dL_law_1616 (by decide) (fun c_11298 => ?_) (fun c_11298 => ?_)
        · exact absurd (by decide) c_11298
        · skip
          refine lv_aload_n hx hb dL_law_1619 rfl (lv_at hl 5 rfl) ?_
          refine lv_iconst (v := 0) hx hb dL_law_1620 (by decide) ?_
          refine va_lald hx hb hK hP 1 1 rfl rfl (show vp_in 0 1 by unfold vp_in; decide) dL_law_1621 ?_
          refine W.eq (g2 := F0 m 1622 ls [.long (n_cut (xs 2) (n_combine (xs 1) 0 (n_cut (xs 2) ((((xs 4).toInt64) <<< ((32 : Int32).toInt64 &&& 63)) ||| (((xs 5).toInt64) &&& 4294967295))) (n_cut (xs 3) ((((xs 6).toInt64) <<< ((32 : Int32).toInt64 &&& 63)) ||| (((xs 7).toInt64) &&& 4294967295)))))]) rfl ?_
          refine lv_lload hx hb dL_law_1622 (lv_at hl 0 rfl) ?_
          refine W.lcmp hx hb dL_law_1624 ?_
          refine lv_if_eq (tgt := 1630) hx hb dL_law_1625 (by decide) (fun c_11299 => ?_) (fun c_11299 => ?_)
          · skip
            refine lv_goto (tgt := 1804) hx hb dL_law_1630 (by decide) ?_
            exact lk_tail hC hA2 (lv_sub hl [2, 6] rfl) hS (Nat.le_of_ble_eq_true rfl) (Nat.le_of_ble_eq_true rfl)
          · exact absurd ((lg_cmp_eq _ _).mpr (qx_w0 c_118 c_10717 c_114 c_115 c_123 c_116 c_117 (fun q => absurd q (Int32.not_lt.mpr c_124)) (fun q => q.1.elim (fun z => absurd (c_10731.symm.trans z) (by decide)) (fun z => absurd (c_10731.symm.trans z) (by decide))) (by rw [c_10731]; decide))) c_11299
      · exact absurd (by decide) c_11297
    · skip
      subst w_10756
      subst w_10757
      exact absurd c_10755 c_123
    · skip
      subst w_10777
      subst w_10778
      obtain ⟨hP, hD⟩ := va_join (wr := [(h0, .inr (10, [.ref x0, .int 0, .ref x1, .ref x2, .ref x3, .ref x4, .ref x5, .ref x6, .ref x7, .ref x8, .int 0, .int 3000])), (o0, .inl (kA 1, 1, .inr (.inl (vp_updL (fun _ => 0) 0 (n_cut (xs 2) (n_combine (xs 1) 0 (n_cut (xs 2) ((((xs 4).toInt64) <<< ((32 : Int32).toInt64 &&& 63)) ||| (((xs 5).toInt64) &&& 4294967295))) (n_cut (xs 3) ((((xs 6).toInt64) <<< ((32 : Int32).toInt64 &&& 63)) ||| (((xs 7).toInt64) &&& 4294967295)))))))))]) (w1 := [(m0, .inr (11, y0.set 9 (.int 0)))]) hP hD [0] [1, 2] rfl rfl (by decide) (by decide) hk1 hFc hP1 hD1
      generalize H1 = H at hP hS ⊢
      have hP : va_P D vwCl [(h0, .inr (10, [.ref x0, .int 0, .ref x1, .ref x2, .ref x3, .ref x4, .ref x5, .ref x6, .ref x7, .ref x8, .int 0, .int 3000])), (o0, .inl (kA 1, 1, .inr (.inl (vp_updL (fun _ => 0) 0 (n_cut (xs 2) (n_combine (xs 1) 0 (n_cut (xs 2) ((((xs 4).toInt64) <<< ((32 : Int32).toInt64 &&& 63)) ||| (((xs 5).toInt64) &&& 4294967295))) (n_cut (xs 3) ((((xs 6).toInt64) <<< ((32 : Int32).toInt64 &&& 63)) ||| (((xs 7).toInt64) &&& 4294967295))))))))), (m0, .inr (11, y0.set 9 (.int 0)))] H := hP
      have hD : va_D A [(h0, .inr (10, [.ref x0, .int 0, .ref x1, .ref x2, .ref x3, .ref x4, .ref x5, .ref x6, .ref x7, .ref x8, .int 0, .int 3000])), (o0, .inl (kA 1, 1, .inr (.inl (vp_updL (fun _ => 0) 0 (n_cut (xs 2) (n_combine (xs 1) 0 (n_cut (xs 2) ((((xs 4).toInt64) <<< ((32 : Int32).toInt64 &&& 63)) ||| (((xs 5).toInt64) &&& 4294967295))) (n_cut (xs 3) ((((xs 6).toInt64) <<< ((32 : Int32).toInt64 &&& 63)) ||| (((xs 7).toInt64) &&& 4294967295))))))))), (m0, .inr (11, y0.set 9 (.int 0)))] := hD
      refine lv_lstore (lv' := [(6, .long (n_cut (xs 2) (r_two 221 0 (n_cut (xs 2) ((((xs 4).toInt64) <<< ((32 : Int32).toInt64 &&& 63)) ||| (((xs 5).toInt64) &&& 4294967295))) (n_cut (xs 3) ((((xs 6).toInt64) <<< ((32 : Int32).toInt64 &&& 63)) ||| (((xs 7).toInt64) &&& 4294967295)))))), (5, .int 0), (0, .ref b), (1, .ref h0), (2, .ref m0), (3, .ref o0), (4, .int 0)]) hx hb dL_law_1601 hl (by decide) rfl (fun ls hl => ?_)
      refine lv_aload_n hx hb dL_law_1603 rfl (lv_at hl 4 rfl) ?_
      have hPc := hP.sub (ws' := [(m0, .inr (11, y0.set 9 (.int 0)))]) [2] rfl
      have hDc := hD.sub (ws' := [(m0, .inr (11, y0.set 9 (.int 0)))]) [2] (by decide) rfl
      have hFc := va_free (wc := [(m0, .inr (11, y0.set 9 (.int 0)))]) hD hS hA [2] rfl
      refine va_calli (va_runV (As := []) (rest := []) ⟨hx, hb, hml, hown, hts⟩ (a94_X12_thrown l  D kA V H.size m0 (y0.set 9 (.int 0)) (fun k hk => (by rw [List.length_set]; exact (hq k hk))) (List.getElem?_set_self (hq 9 (by decide)))) (cwV 0 hts (gw_V gw_1879 gw_1880 gw_1881 gw_16 gw_1882) rfl rfl rfl (by decide +kernel) ⟨(Nat.le_of_ble_eq_true rfl), (Nat.le_of_ble_eq_true rfl)⟩) ⟨aP.blind, va_recv hK hP (ci := 11) (q0 := 2) rfl rfl, aP.pre hE hS hPc hK hDc hFc⟩ rfl rfl hl.1 rfl (lv_room (Nat.le_of_ble_eq_true rfl)) dL_law_1604 ⟨(Nat.le_of_ble_eq_true rfl), (Nat.le_of_ble_eq_true rfl)⟩) hS (fun q _ h => hFc q h) hFc (fun r_11300 u t H1 locs ht hvm hw hB hz1 hk1 hS => ?_)
      obtain ⟨hP1, hD1⟩ := hB
      rw [ht] at hP1
      try dsimp only at hw hP1 hD1
      have w_11301 := hw
      subst w_11301
      obtain ⟨hP, hD⟩ := va_join (wr := [(h0, .inr (10, [.ref x0, .int 0, .ref x1, .ref x2, .ref x3, .ref x4, .ref x5, .ref x6, .ref x7, .ref x8, .int 0, .int 3000])), (o0, .inl (kA 1, 1, .inr (.inl (vp_updL (fun _ => 0) 0 (n_cut (xs 2) (n_combine (xs 1) 0 (n_cut (xs 2) ((((xs 4).toInt64) <<< ((32 : Int32).toInt64 &&& 63)) ||| (((xs 5).toInt64) &&& 4294967295))) (n_cut (xs 3) ((((xs 6).toInt64) <<< ((32 : Int32).toInt64 &&& 63)) ||| (((xs 7).toInt64) &&& 4294967295)))))))))]) (w1 := [(m0, .inr (11, (y0.set 9 (.int 0))))]) hP hD [2] [0, 1] rfl rfl (by decide) (by decide) hk1 hFc hP1 hD1
      generalize H1 = H at hP hS ⊢
      have hP : va_P D vwCl [(h0, .inr (10, [.ref x0, .int 0, .ref x1, .ref x2, .ref x3, .ref x4, .ref x5, .ref x6, .ref x7, .ref x8, .int 0, .int 3000])), (o0, .inl (kA 1, 1, .inr (.inl (vp_updL (fun _ => 0) 0 (n_cut (xs 2) (n_combine (xs 1) 0 (n_cut (xs 2) ((((xs 4).toInt64) <<< ((32 : Int32).toInt64 &&& 63)) ||| (((xs 5).toInt64) &&& 4294967295))) (n_cut (xs 3) ((((xs 6).toInt64) <<< ((32 : Int32).toInt64 &&& 63)) ||| (((xs 7).toInt64) &&& 4294967295))))))))), (m0, .inr (11, (y0.set 9 (.int 0))))] H := hP
      have hD : va_D A [(h0, .inr (10, [.ref x0, .int 0, .ref x1, .ref x2, .ref x3, .ref x4, .ref x5, .ref x6, .ref x7, .ref x8, .int 0, .int 3000])), (o0, .inl (kA 1, 1, .inr (.inl (vp_updL (fun _ => 0) 0 (n_cut (xs 2) (n_combine (xs 1) 0 (n_cut (xs 2) ((((xs 4).toInt64) <<< ((32 : Int32).toInt64 &&& 63)) ||| (((xs 5).toInt64) &&& 4294967295))) (n_cut (xs 3) ((((xs 6).toInt64) <<< ((32 : Int32).toInt64 &&& 63)) ||| (((xs 7).toInt64) &&& 4294967295))))))))), (m0, .inr (11, (y0.set 9 (.int 0))))] := hD
      refine lv_iload hx hb dL_law_1607 (lv_at hl 1 rfl) ?_
      refine lv_icmp_eq (tgt := 1614) hx hb dL_law_1609 (by decide) (fun c_11302 => ?_) (fun c_11302 => ?_)
      · skip
        refine lv_iload hx hb dL_law_1614 (lv_at hl 1 rfl) ?_
        refine lv_if_ne (tgt := 1630) hx hb dL_law_1616 (by decide) (fun c_11303 => ?_) (fun c_11303 => ?_)
        · exact absurd (by decide) c_11303
        · skip
          refine lv_aload_n hx hb dL_law_1619 rfl (lv_at hl 5 rfl) ?_
          refine lv_iconst (v := 0) hx hb dL_law_1620 (by decide) ?_
          refine va_lald hx hb hK hP 1 1 rfl rfl (show vp_in 0 1 by unfold vp_in; decide) dL_law_1621 ?_
          refine W.eq (g2 := F0 m 1622 ls [.long (n_cut (xs 2) (n_combine (xs 1) 0 (n_cut (xs 2) ((((xs 4).toInt64) <<< ((32 : Int32).toInt64 &&& 63)) ||| (((xs 5).toInt64) &&& 4294967295))) (n_cut (xs 3) ((((xs 6).toInt64) <<< ((32 : Int32).toInt64 &&& 63)) ||| (((xs 7).toInt64) &&& 4294967295)))))]) rfl ?_
          refine lv_lload hx hb dL_law_1622 (lv_at hl 0 rfl) ?_
          refine W.lcmp hx hb dL_law_1624 ?_
          refine lv_if_eq (tgt := 1630) hx hb dL_law_1625 (by decide) (fun c_11304 => ?_) (fun c_11304 => ?_)
          · skip
            refine lv_goto (tgt := 1804) hx hb dL_law_1630 (by decide) ?_
            exact lk_tail hC hA2 (lv_sub hl [2, 6] rfl) hS (Nat.le_of_ble_eq_true rfl) (Nat.le_of_ble_eq_true rfl)
          · exact absurd ((lg_cmp_eq _ _).mpr (qx_w0 c_118 c_10759 c_114 c_115 c_123 c_116 c_117 (fun q => absurd q (Int32.not_lt.mpr c_124)) (fun q => q.1.elim (fun z => absurd (c_10772.symm.trans z) (by decide)) (fun z => absurd (c_10772.symm.trans z) (by decide))) (by rw [c_10772]; decide))) c_11304
      · exact absurd (by decide) c_11302
    · skip
      subst w_10796
      subst w_10797
      exact False.elim (by have a1 := (iyE (n := 7) c_10792 (by decide)); have a2 := (iyB (n := 8) c_124 (by decide)); omega)
    · skip
      subst w_10817
      subst w_10818
      exact False.elim (by have a1 := (iyE (n := 7) c_10811 (by decide)); have a2 := (iyB (n := 8) c_124 (by decide)); omega)
    · skip
      subst w_10838
      subst w_10839
      exact False.elim (by have a1 := (iyE (n := 7) c_10832 (by decide)); have a2 := (iyB (n := 8) c_124 (by decide)); omega)
    · skip
      subst w_10856
      subst w_10857
      exact False.elim (by have a1 := (iyE (n := 6) c_10852 (by decide)); have a2 := (iyB (n := 8) c_124 (by decide)); omega)
    · skip
      subst w_10876
      subst w_10877
      exact False.elim (by have a1 := (iyE (n := 6) c_10870 (by decide)); have a2 := (iyB (n := 8) c_124 (by decide)); omega)
    · skip
      subst w_10896
      subst w_10897
      exact False.elim (by have a1 := (iyE (n := 6) c_10890 (by decide)); have a2 := (iyB (n := 8) c_124 (by decide)); omega)
    · skip
      subst w_10913
      subst w_10914
      exact False.elim (by have a1 := (iyE (n := 5) c_10909 (by decide)); have a2 := (iyB (n := 8) c_124 (by decide)); omega)
    · skip
      subst w_10932
      subst w_10933
      exact False.elim (by have a1 := (iyE (n := 5) c_10926 (by decide)); have a2 := (iyB (n := 8) c_124 (by decide)); omega)
    · skip
      subst w_10951
      subst w_10952
      exact False.elim (by have a1 := (iyE (n := 5) c_10945 (by decide)); have a2 := (iyB (n := 8) c_124 (by decide)); omega)
    · skip
      subst w_10968
      subst w_10969
      exact absurd c_10963 c_122
    · skip
      subst w_10987
      subst w_10988
      exact absurd c_10980 c_122
    · skip
      subst w_11006
      subst w_11007
      exact absurd c_10999 c_122
    · skip
      subst w_11023
      subst w_11024
      exact absurd c_11018 c_122
    · skip
      subst w_11042
      subst w_11043
      exact absurd c_11035 c_122
    · skip
      subst w_11061
      subst w_11062
      exact absurd c_11054 c_122
    · skip
      subst w_11076
      subst w_11077
      exact absurd c_11072 c_121
    · skip
      subst w_11093
      subst w_11094
      exact absurd c_11087 c_121
    · skip
      subst w_11110
      subst w_11111
      exact absurd c_11104 c_121
    · skip
      subst w_11125
      subst w_11126
      exact absurd c_11121 c_121
    · skip
      subst w_11142
      subst w_11143
      exact absurd c_11136 c_121
    · skip
      subst w_11159
      subst w_11160
      exact absurd c_11153 c_121
    · skip
      subst w_11173
      subst w_11174
      exact False.elim (by have a1 := (iyE (n := 2) c_11169 (by decide)); have a2 := (iyB (n := 8) c_124 (by decide)); omega)
    · skip
      subst w_11189
      subst w_11190
      exact False.elim (by have a1 := (iyE (n := 2) c_11183 (by decide)); have a2 := (iyB (n := 8) c_124 (by decide)); omega)
    · skip
      subst w_11205
      subst w_11206
      exact False.elim (by have a1 := (iyE (n := 2) c_11199 (by decide)); have a2 := (iyB (n := 8) c_124 (by decide)); omega)
    · skip
      subst w_11218
      subst w_11219
      exact False.elim (by have a1 := (iyE (n := 1) c_11214 (by decide)); have a2 := (iyB (n := 8) c_124 (by decide)); omega)
    · skip
      subst w_11233
      subst w_11234
      exact False.elim (by have a1 := (iyE (n := 1) c_11227 (by decide)); have a2 := (iyB (n := 8) c_124 (by decide)); omega)
    · skip
      subst w_11248
      subst w_11249
      exact False.elim (by have a1 := (iyE (n := 1) c_11242 (by decide)); have a2 := (iyB (n := 8) c_124 (by decide)); omega)
    · skip
      subst w_11260
      subst w_11261
      exact False.elim (by have a1 := (iyE (n := 0) c_11256 (by decide)); have a2 := (iyB (n := 8) c_124 (by decide)); omega)
    · skip
      subst w_11274
      subst w_11275
      exact False.elim (by have a1 := (iyE (n := 0) c_11268 (by decide)); have a2 := (iyB (n := 8) c_124 (by decide)); omega)
    · skip
      subst w_11288
      subst w_11289
      exact False.elim (by have a1 := (iyE (n := 0) c_11282 (by decide)); have a2 := (iyB (n := 8) c_124 (by decide)); omega)
  · skip
    subst w_139
    subst w_140
    obtain ⟨hP, hD⟩ := va_join (wr := [(m0, .inr (11, y0))]) (w1 := [(h0, .inr (10, [.ref x0, .int 0, .ref x1, .ref x2, .ref x3, .ref x4, .ref x5, .ref x6, .ref x7, .ref x8, .int 0, .int 3000])), (o0, .inl (kA 1, 1, .inr (.inl (vp_updL (fun _ => 0) 0 (n_cut (xs 2) (n_combine (xs 1) 0 (n_cut (xs 2) ((((xs 4).toInt64) <<< ((32 : Int32).toInt64 &&& 63)) ||| (((xs 5).toInt64) &&& 4294967295))) (n_cut (xs 3) ((((xs 6).toInt64) <<< ((32 : Int32).toInt64 &&& 63)) ||| (((xs 7).toInt64) &&& 4294967295)))))))))]) hP hD [0, 2] [1] rfl rfl (by decide) (by decide) hk1 hFc hP1 hD1
    generalize H1 = H at hP hS ⊢
    have hP : va_P D vwCl [(m0, .inr (11, y0)), (h0, .inr (10, [.ref x0, .int 0, .ref x1, .ref x2, .ref x3, .ref x4, .ref x5, .ref x6, .ref x7, .ref x8, .int 0, .int 3000])), (o0, .inl (kA 1, 1, .inr (.inl (vp_updL (fun _ => 0) 0 (n_cut (xs 2) (n_combine (xs 1) 0 (n_cut (xs 2) ((((xs 4).toInt64) <<< ((32 : Int32).toInt64 &&& 63)) ||| (((xs 5).toInt64) &&& 4294967295))) (n_cut (xs 3) ((((xs 6).toInt64) <<< ((32 : Int32).toInt64 &&& 63)) ||| (((xs 7).toInt64) &&& 4294967295)))))))))] H := hP
    have hD : va_D A [(m0, .inr (11, y0)), (h0, .inr (10, [.ref x0, .int 0, .ref x1, .ref x2, .ref x3, .ref x4, .ref x5, .ref x6, .ref x7, .ref x8, .int 0, .int 3000])), (o0, .inl (kA 1, 1, .inr (.inl (vp_updL (fun _ => 0) 0 (n_cut (xs 2) (n_combine (xs 1) 0 (n_cut (xs 2) ((((xs 4).toInt64) <<< ((32 : Int32).toInt64 &&& 63)) ||| (((xs 5).toInt64) &&& 4294967295))) (n_cut (xs 3) ((((xs 6).toInt64) <<< ((32 : Int32).toInt64 &&& 63)) ||| (((xs 7).toInt64) &&& 4294967295)))))))))] := hD
    refine lv_istore (lv' := [(5, .int 0), (0, .ref b), (1, .ref h0), (2, .ref m0), (3, .ref o0), (4, .int 0)]) hx hb dL_law_1531 hl (by decide) rfl (fun ls hl => ?_)
    refine lv_aload_n hx hb dL_law_1533 rfl (lv_at hl 3 rfl) ?_
    refine lv_aload_n hx hb dL_law_1534 rfl (lv_at hl 1 rfl) ?_
    refine lv_iload hx hb dL_law_1535 (lv_at hl 5 rfl) ?_
    refine lv_iconst (v := 1) hx hb dL_law_1537 (by decide) ?_
    refine lv_iadd hx hb dL_law_1538 ?_
    refine W.eq (g2 := F0 m 1539 ls [.int 1, .ref b, .ref m0]) rfl ?_
    refine va_sld hx hb hX hbl hbA hS (show vp_in 1 8 by unfold vp_in; decide) dL_law_1539 ?_
    refine W.eq (g2 := F0 m 1540 ls [.int (xs 1), .ref m0]) rfl ?_
    refine lv_aload_n hx hb dL_law_1540 rfl (lv_at hl 1 rfl) ?_
    refine lv_iload hx hb dL_law_1541 (lv_at hl 5 rfl) ?_
    refine lv_iconst (v := 2) hx hb dL_law_1543 (by decide) ?_
    refine lv_iadd hx hb dL_law_1544 ?_
    refine W.eq (g2 := F0 m 1545 ls [.int 2, .ref b, .int (xs 1), .ref m0]) rfl ?_
    refine va_sld hx hb hX hbl hbA hS (show vp_in 2 8 by unfold vp_in; decide) dL_law_1545 ?_
    refine W.eq (g2 := F0 m 1546 ls [.int (xs 2), .int (xs 1), .ref m0]) rfl ?_
    refine lv_aload_n hx hb dL_law_1546 rfl (lv_at hl 1 rfl) ?_
    refine lv_iload hx hb dL_law_1547 (lv_at hl 5 rfl) ?_
    refine lv_iconst (v := 3) hx hb dL_law_1549 (by decide) ?_
    refine lv_iadd hx hb dL_law_1550 ?_
    refine W.eq (g2 := F0 m 1551 ls [.int 3, .ref b, .int (xs 2), .int (xs 1), .ref m0]) rfl ?_
    refine va_sld hx hb hX hbl hbA hS (show vp_in 3 8 by unfold vp_in; decide) dL_law_1551 ?_
    refine W.eq (g2 := F0 m 1552 ls [.int (xs 3), .int (xs 2), .int (xs 1), .ref m0]) rfl ?_
    refine lv_aload_n hx hb dL_law_1552 rfl (lv_at hl 1 rfl) ?_
    refine lv_iload hx hb dL_law_1553 (lv_at hl 5 rfl) ?_
    refine lv_iconst (v := 4) hx hb dL_law_1555 (by decide) ?_
    refine lv_iadd hx hb dL_law_1556 ?_
    refine W.eq (g2 := F0 m 1557 ls [.int 4, .ref b, .int (xs 3), .int (xs 2), .int (xs 1), .ref m0]) rfl ?_
    refine va_sld hx hb hX hbl hbA hS (show vp_in 4 8 by unfold vp_in; decide) dL_law_1557 ?_
    refine W.eq (g2 := F0 m 1558 ls [.int (xs 4), .int (xs 3), .int (xs 2), .int (xs 1), .ref m0]) rfl ?_
    refine lv_i2l (v := (xs 4).toInt64) hx hb dL_law_1558 rfl ?_
    refine lv_bipush (v := 32) hx hb dL_law_1559 (by decide) ?_
    refine lv_lshl (v := ((xs 4).toInt64) <<< ((32 : Int32).toInt64 &&& 63)) hx hb dL_law_1561 rfl ?_
    refine lv_aload_n hx hb dL_law_1562 rfl (lv_at hl 1 rfl) ?_
    refine lv_iload hx hb dL_law_1563 (lv_at hl 5 rfl) ?_
    refine lv_iconst (v := 5) hx hb dL_law_1565 (by decide) ?_
    refine lv_iadd hx hb dL_law_1566 ?_
    refine W.eq (g2 := F0 m 1567 ls [.int 5, .ref b, .long (((xs 4).toInt64) <<< ((32 : Int32).toInt64 &&& 63)), .int (xs 3), .int (xs 2), .int (xs 1), .ref m0]) rfl ?_
    refine va_sld hx hb hX hbl hbA hS (show vp_in 5 8 by unfold vp_in; decide) dL_law_1567 ?_
    refine W.eq (g2 := F0 m 1568 ls [.int (xs 5), .long (((xs 4).toInt64) <<< ((32 : Int32).toInt64 &&& 63)), .int (xs 3), .int (xs 2), .int (xs 1), .ref m0]) rfl ?_
    refine lv_i2l (v := (xs 5).toInt64) hx hb dL_law_1568 rfl ?_
    refine lv_ldc2 (v := 4294967295) hx hb hown (hG _ gw_2764) dL_law_1569 ?_
    refine lv_land hx hb dL_law_1572 ?_
    refine lv_lor hx hb dL_law_1573 ?_
    refine lv_aload_n hx hb dL_law_1574 rfl (lv_at hl 1 rfl) ?_
    refine lv_iload hx hb dL_law_1575 (lv_at hl 5 rfl) ?_
    refine lv_bipush (v := 6) hx hb dL_law_1577 (by decide) ?_
    refine lv_iadd hx hb dL_law_1579 ?_
    refine W.eq (g2 := F0 m 1580 ls [.int 6, .ref b, .long ((((xs 4).toInt64) <<< ((32 : Int32).toInt64 &&& 63)) ||| (((xs 5).toInt64) &&& 4294967295)), .int (xs 3), .int (xs 2), .int (xs 1), .ref m0]) rfl ?_
    refine va_sld hx hb hX hbl hbA hS (show vp_in 6 8 by unfold vp_in; decide) dL_law_1580 ?_
    refine W.eq (g2 := F0 m 1581 ls [.int (xs 6), .long ((((xs 4).toInt64) <<< ((32 : Int32).toInt64 &&& 63)) ||| (((xs 5).toInt64) &&& 4294967295)), .int (xs 3), .int (xs 2), .int (xs 1), .ref m0]) rfl ?_
    refine lv_i2l (v := (xs 6).toInt64) hx hb dL_law_1581 rfl ?_
    refine lv_bipush (v := 32) hx hb dL_law_1582 (by decide) ?_
    refine lv_lshl (v := ((xs 6).toInt64) <<< ((32 : Int32).toInt64 &&& 63)) hx hb dL_law_1584 rfl ?_
    refine lv_aload_n hx hb dL_law_1585 rfl (lv_at hl 1 rfl) ?_
    refine lv_iload hx hb dL_law_1586 (lv_at hl 5 rfl) ?_
    refine lv_bipush (v := 7) hx hb dL_law_1588 (by decide) ?_
    refine lv_iadd hx hb dL_law_1590 ?_
    refine W.eq (g2 := F0 m 1591 ls [.int 7, .ref b, .long (((xs 6).toInt64) <<< ((32 : Int32).toInt64 &&& 63)), .long ((((xs 4).toInt64) <<< ((32 : Int32).toInt64 &&& 63)) ||| (((xs 5).toInt64) &&& 4294967295)), .int (xs 3), .int (xs 2), .int (xs 1), .ref m0]) rfl ?_
    refine va_sld hx hb hX hbl hbA hS (show vp_in 7 8 by unfold vp_in; decide) dL_law_1591 ?_
    refine W.eq (g2 := F0 m 1592 ls [.int (xs 7), .long (((xs 6).toInt64) <<< ((32 : Int32).toInt64 &&& 63)), .long ((((xs 4).toInt64) <<< ((32 : Int32).toInt64 &&& 63)) ||| (((xs 5).toInt64) &&& 4294967295)), .int (xs 3), .int (xs 2), .int (xs 1), .ref m0]) rfl ?_
    refine lv_i2l (v := (xs 7).toInt64) hx hb dL_law_1592 rfl ?_
    refine lv_ldc2 (v := 4294967295) hx hb hown (hG _ gw_2764) dL_law_1593 ?_
    refine lv_land hx hb dL_law_1596 ?_
    refine lv_lor hx hb dL_law_1597 ?_
    have hPc := hP.sub (ws' := [(m0, .inr (11, y0))]) [0] rfl
    have hDc := hD.sub (ws' := [(m0, .inr (11, y0))]) [0] (by decide) rfl
    have hFc := va_free (wc := [(m0, .inr (11, y0))]) hD hS hA [0] rfl
    refine va_calll (va_runV (As := [.int (xs 1), .int (xs 2), .int (xs 3), .long ((((xs 4).toInt64) <<< ((32 : Int32).toInt64 &&& 63)) ||| (((xs 5).toInt64) &&& 4294967295)), .long ((((xs 6).toInt64) <<< ((32 : Int32).toInt64 &&& 63)) ||| (((xs 7).toInt64) &&& 4294967295))]) (rest := []) ⟨hx, hb, hml, hown, hts⟩ (a153_X12_work l  D kA V H.size m0 (xs 1) (xs 2) (xs 3) ((((xs 4).toInt64) <<< ((32 : Int32).toInt64 &&& 63)) ||| (((xs 5).toInt64) &&& 4294967295)) ((((xs 6).toInt64) <<< ((32 : Int32).toInt64 &&& 63)) ||| (((xs 7).toInt64) &&& 4294967295)) y0 (fun k hk => (hq k hk)) hq9) (cwV 5 hts (gw_V gw_2756 gw_2757 gw_2758 gw_16 gw_2759) rfl rfl rfl (by decide +kernel) ⟨(Nat.le_of_ble_eq_true rfl), (Nat.le_of_ble_eq_true rfl)⟩) ⟨aP.blind, va_recv hK hP (ci := 11) (q0 := 0) rfl rfl, aP.pre hE hS hPc hK hDc hFc⟩ rfl rfl hl.1 rfl (lv_room (Nat.le_of_ble_eq_true rfl)) dL_law_1598 ⟨(Nat.le_of_ble_eq_true rfl), (Nat.le_of_ble_eq_true rfl)⟩) hS (fun q _ h => hFc q h) hFc (fun r_11305 u t H1 locs ht hvm hw hB hz1 hk1 hS => ?_)
    obtain ⟨u_11306, rfl⟩ : ∃ z, z = u := ⟨u, rfl⟩
    obtain ⟨hP1, hD1⟩ := hB
    rw [ht] at hP1
    try dsimp only at hw hP1 hD1
    rcases hw with ⟨c_11307, c_11308, w_11309, w_11310⟩ | ⟨c_11311, c_11312, c_11313, w_11314, w_11315⟩ | ⟨c_11316, c_11317, c_11318, c_11319, w_11320, w_11321⟩ | ⟨c_11322, c_11323, c_11324, c_11325, c_11326, w_11327, w_11328⟩ | ⟨c_11329, c_11330, c_11331, c_11332, c_11333, w_11334, w_11335⟩ | ⟨c_11336, c_11337, c_11338, w_11339, w_11340⟩ | ⟨c_11341, c_11342, c_11343, c_11344, w_11345, w_11346⟩ | ⟨c_11347, c_11348, c_11349, c_11350, c_11351, w_11352, w_11353⟩ | ⟨c_11354, c_11355, c_11356, c_11357, c_11358, c_11359, w_11360, w_11361⟩ | ⟨c_11362, c_11363, c_11364, c_11365, c_11366, c_11367, w_11368, w_11369⟩ | ⟨c_11370, c_11371, c_11372, w_11373, w_11374⟩ | ⟨c_11375, c_11376, c_11377, c_11378, w_11379, w_11380⟩ | ⟨c_11381, c_11382, c_11383, c_11384, c_11385, w_11386, w_11387⟩ | ⟨c_11388, c_11389, c_11390, c_11391, c_11392, c_11393, w_11394, w_11395⟩ | ⟨c_11396, c_11397, c_11398, c_11399, c_11400, c_11401, c_11402, c_11403, c_11404, c_11405, c_11406, c_11407, c_11408, c_11409, c_11410, c_11411, c_11412, c_11413, c_11414, w_11415, w_11416⟩ | ⟨c_11417, c_11418, c_11419, c_11420, c_11421, c_11422, c_11423, c_11424, c_11425, c_11426, c_11427, c_11428, c_11429, c_11430, c_11431, c_11432, c_11433, c_11434, c_11435, c_11436, w_11437, w_11438⟩ | ⟨c_11439, c_11440, c_11441, c_11442, c_11443, c_11444, c_11445, c_11446, c_11447, c_11448, c_11449, c_11450, c_11451, c_11452, c_11453, c_11454, c_11455, c_11456, c_11457, c_11458, c_11459, w_11460, w_11461⟩ | ⟨c_11462, c_11463, c_11464, c_11465, c_11466, c_11467, c_11468, c_11469, c_11470, c_11471, c_11472, c_11473, c_11474, c_11475, c_11476, c_11477, c_11478, c_11479, c_11480, c_11481, c_11482, w_11483, w_11484⟩ | ⟨c_11485, c_11486, c_11487, c_11488, c_11489, c_11490, c_11491, c_11492, c_11493, c_11494, c_11495, c_11496, c_11497, c_11498, c_11499, c_11500, c_11501, c_11502, c_11503, w_11504, w_11505⟩ | ⟨c_11506, c_11507, c_11508, c_11509, c_11510, c_11511, c_11512, c_11513, c_11514, c_11515, c_11516, c_11517, c_11518, c_11519, c_11520, c_11521, c_11522, c_11523, c_11524, c_11525, w_11526, w_11527⟩ | ⟨c_11528, c_11529, c_11530, c_11531, c_11532, c_11533, c_11534, c_11535, c_11536, c_11537, c_11538, c_11539, c_11540, c_11541, c_11542, c_11543, c_11544, c_11545, w_11546, w_11547⟩ | ⟨c_11548, c_11549, c_11550, c_11551, c_11552, c_11553, c_11554, c_11555, c_11556, c_11557, c_11558, c_11559, c_11560, c_11561, c_11562, c_11563, c_11564, c_11565, c_11566, w_11567, w_11568⟩ | ⟨c_11569, c_11570, c_11571, c_11572, c_11573, c_11574, c_11575, c_11576, c_11577, c_11578, c_11579, c_11580, c_11581, c_11582, c_11583, c_11584, c_11585, w_11586, w_11587⟩ | ⟨c_11588, c_11589, c_11590, c_11591, c_11592, c_11593, c_11594, c_11595, c_11596, c_11597, c_11598, c_11599, c_11600, c_11601, c_11602, c_11603, c_11604, c_11605, c_11606, w_11607, w_11608⟩ | ⟨c_11609, c_11610, c_11611, c_11612, c_11613, c_11614, c_11615, c_11616, c_11617, c_11618, c_11619, c_11620, c_11621, c_11622, c_11623, c_11624, c_11625, c_11626, c_11627, w_11628, w_11629⟩ | ⟨c_11630, c_11631, c_11632, c_11633, c_11634, c_11635, c_11636, c_11637, c_11638, c_11639, c_11640, c_11641, c_11642, c_11643, c_11644, c_11645, w_11646, w_11647⟩ | ⟨c_11648, c_11649, c_11650, c_11651, c_11652, c_11653, c_11654, c_11655, c_11656, c_11657, c_11658, c_11659, c_11660, c_11661, c_11662, c_11663, c_11664, c_11665, w_11666, w_11667⟩ | ⟨c_11668, c_11669, c_11670, c_11671, c_11672, c_11673, c_11674, c_11675, c_11676, c_11677, c_11678, c_11679, c_11680, c_11681, c_11682, c_11683, c_11684, c_11685, w_11686, w_11687⟩ | ⟨c_11688, c_11689, c_11690, c_11691, c_11692, c_11693, c_11694, c_11695, c_11696, c_11697, c_11698, c_11699, c_11700, c_11701, c_11702, w_11703, w_11704⟩ | ⟨c_11705, c_11706, c_11707, c_11708, c_11709, c_11710, c_11711, c_11712, c_11713, c_11714, c_11715, c_11716, c_11717, c_11718, c_11719, c_11720, c_11721, w_11722, w_11723⟩ | ⟨c_11724, c_11725, c_11726, c_11727, c_11728, c_11729, c_11730, c_11731, c_11732, c_11733, c_11734, c_11735, c_11736, c_11737, c_11738, c_11739, c_11740, w_11741, w_11742⟩ | ⟨c_11743, c_11744, c_11745, c_11746, c_11747, c_11748, c_11749, c_11750, c_11751, c_11752, c_11753, c_11754, c_11755, c_11756, c_11757, w_11758, w_11759⟩ | ⟨c_11760, c_11761, c_11762, c_11763, c_11764, c_11765, c_11766, c_11767, c_11768, c_11769, c_11770, c_11771, c_11772, c_11773, c_11774, c_11775, c_11776, w_11777, w_11778⟩ | ⟨c_11779, c_11780, c_11781, c_11782, c_11783, c_11784, c_11785, c_11786, c_11787, c_11788, c_11789, c_11790, c_11791, c_11792, c_11793, c_11794, c_11795, w_11796, w_11797⟩ | ⟨c_11798, c_11799, c_11800, c_11801, c_11802, c_11803, c_11804, c_11805, c_11806, c_11807, c_11808, c_11809, c_11810, c_11811, c_11812, w_11813, w_11814⟩ | ⟨c_11815, c_11816, c_11817, c_11818, c_11819, c_11820, c_11821, c_11822, c_11823, c_11824, c_11825, c_11826, c_11827, c_11828, c_11829, c_11830, c_11831, w_11832, w_11833⟩ | ⟨c_11834, c_11835, c_11836, c_11837, c_11838, c_11839, c_11840, c_11841, c_11842, c_11843, c_11844, c_11845, c_11846, c_11847, c_11848, c_11849, c_11850, w_11851, w_11852⟩ | ⟨c_11853, c_11854, c_11855, c_11856, c_11857, c_11858, c_11859, c_11860, c_11861, c_11862, c_11863, c_11864, c_11865, w_11866, w_11867⟩ | ⟨c_11868, c_11869, c_11870, c_11871, c_11872, c_11873, c_11874, c_11875, c_11876, c_11877, c_11878, c_11879, c_11880, c_11881, c_11882, w_11883, w_11884⟩ | ⟨c_11885, c_11886, c_11887, c_11888, c_11889, c_11890, c_11891, c_11892, c_11893, c_11894, c_11895, c_11896, c_11897, c_11898, c_11899, w_11900, w_11901⟩ | ⟨c_11902, c_11903, c_11904, c_11905, c_11906, c_11907, c_11908, c_11909, c_11910, c_11911, c_11912, c_11913, c_11914, w_11915, w_11916⟩ | ⟨c_11917, c_11918, c_11919, c_11920, c_11921, c_11922, c_11923, c_11924, c_11925, c_11926, c_11927, c_11928, c_11929, c_11930, c_11931, w_11932, w_11933⟩ | ⟨c_11934, c_11935, c_11936, c_11937, c_11938, c_11939, c_11940, c_11941, c_11942, c_11943, c_11944, c_11945, c_11946, c_11947, c_11948, w_11949, w_11950⟩ | ⟨c_11951, c_11952, c_11953, c_11954, c_11955, c_11956, c_11957, c_11958, c_11959, c_11960, c_11961, c_11962, w_11963, w_11964⟩ | ⟨c_11965, c_11966, c_11967, c_11968, c_11969, c_11970, c_11971, c_11972, c_11973, c_11974, c_11975, c_11976, c_11977, c_11978, w_11979, w_11980⟩ | ⟨c_11981, c_11982, c_11983, c_11984, c_11985, c_11986, c_11987, c_11988, c_11989, c_11990, c_11991, c_11992, c_11993, c_11994, w_11995, w_11996⟩ | ⟨c_11997, c_11998, c_11999, c_12000, c_12001, c_12002, c_12003, c_12004, c_12005, c_12006, c_12007, w_12008, w_12009⟩ | ⟨c_12010, c_12011, c_12012, c_12013, c_12014, c_12015, c_12016, c_12017, c_12018, c_12019, c_12020, c_12021, c_12022, w_12023, w_12024⟩ | ⟨c_12025, c_12026, c_12027, c_12028, c_12029, c_12030, c_12031, c_12032, c_12033, c_12034, c_12035, c_12036, c_12037, w_12038, w_12039⟩ | ⟨c_12040, c_12041, c_12042, c_12043, c_12044, c_12045, c_12046, c_12047, c_12048, c_12049, w_12050, w_12051⟩ | ⟨c_12052, c_12053, c_12054, c_12055, c_12056, c_12057, c_12058, c_12059, c_12060, c_12061, c_12062, c_12063, w_12064, w_12065⟩ | ⟨c_12066, c_12067, c_12068, c_12069, c_12070, c_12071, c_12072, c_12073, c_12074, c_12075, c_12076, c_12077, w_12078, w_12079⟩
    · skip
      subst w_11309
      subst w_11310
      exact absurd c_11307 c_131
    · skip
      subst w_11314
      subst w_11315
      exact absurd c_11311 c_131
    · skip
      subst w_11320
      subst w_11321
      exact absurd c_11316 c_131
    · skip
      subst w_11327
      subst w_11328
      exact absurd c_11322 c_131
    · skip
      subst w_11334
      subst w_11335
      exact absurd c_11329 c_131
    · skip
      subst w_11339
      subst w_11340
      exact absurd c_11337 (Int32.not_lt.mpr c_132)
    · skip
      subst w_11345
      subst w_11346
      exact absurd c_11342 (Int32.not_lt.mpr c_132)
    · skip
      subst w_11352
      subst w_11353
      exact absurd c_11348 (Int32.not_lt.mpr c_132)
    · skip
      subst w_11360
      subst w_11361
      exact absurd c_11355 (Int32.not_lt.mpr c_132)
    · skip
      subst w_11368
      subst w_11369
      exact absurd c_11363 (Int32.not_lt.mpr c_132)
    · skip
      subst w_11373
      subst w_11374
      exact absurd c_11372 c_127
    · skip
      subst w_11379
      subst w_11380
      exact absurd c_11378 c_128
    · skip
      subst w_11386
      subst w_11387
      exact absurd c_11385 c_129
    · skip
      subst w_11394
      subst w_11395
      exact absurd c_11393 c_130
    · skip
      subst w_11415
      subst w_11416
      exact absurd c_11414 c_136
    · skip
      subst w_11437
      subst w_11438
      exact absurd c_11436 c_137
    · skip
      subst w_11460
      subst w_11461
      obtain ⟨hP, hD⟩ := va_join (wr := [(h0, .inr (10, [.ref x0, .int 0, .ref x1, .ref x2, .ref x3, .ref x4, .ref x5, .ref x6, .ref x7, .ref x8, .int 0, .int 3000])), (o0, .inl (kA 1, 1, .inr (.inl (vp_updL (fun _ => 0) 0 (n_cut (xs 2) (n_combine (xs 1) 0 (n_cut (xs 2) ((((xs 4).toInt64) <<< ((32 : Int32).toInt64 &&& 63)) ||| (((xs 5).toInt64) &&& 4294967295))) (n_cut (xs 3) ((((xs 6).toInt64) <<< ((32 : Int32).toInt64 &&& 63)) ||| (((xs 7).toInt64) &&& 4294967295)))))))))]) (w1 := [(m0, .inr (11, y0.set 9 (.int 0)))]) hP hD [0] [1, 2] rfl rfl (by decide) (by decide) hk1 hFc hP1 hD1
      generalize H1 = H at hP hS ⊢
      have hP : va_P D vwCl [(h0, .inr (10, [.ref x0, .int 0, .ref x1, .ref x2, .ref x3, .ref x4, .ref x5, .ref x6, .ref x7, .ref x8, .int 0, .int 3000])), (o0, .inl (kA 1, 1, .inr (.inl (vp_updL (fun _ => 0) 0 (n_cut (xs 2) (n_combine (xs 1) 0 (n_cut (xs 2) ((((xs 4).toInt64) <<< ((32 : Int32).toInt64 &&& 63)) ||| (((xs 5).toInt64) &&& 4294967295))) (n_cut (xs 3) ((((xs 6).toInt64) <<< ((32 : Int32).toInt64 &&& 63)) ||| (((xs 7).toInt64) &&& 4294967295))))))))), (m0, .inr (11, y0.set 9 (.int 0)))] H := hP
      have hD : va_D A [(h0, .inr (10, [.ref x0, .int 0, .ref x1, .ref x2, .ref x3, .ref x4, .ref x5, .ref x6, .ref x7, .ref x8, .int 0, .int 3000])), (o0, .inl (kA 1, 1, .inr (.inl (vp_updL (fun _ => 0) 0 (n_cut (xs 2) (n_combine (xs 1) 0 (n_cut (xs 2) ((((xs 4).toInt64) <<< ((32 : Int32).toInt64 &&& 63)) ||| (((xs 5).toInt64) &&& 4294967295))) (n_cut (xs 3) ((((xs 6).toInt64) <<< ((32 : Int32).toInt64 &&& 63)) ||| (((xs 7).toInt64) &&& 4294967295))))))))), (m0, .inr (11, y0.set 9 (.int 0)))] := hD
      refine lv_lstore (lv' := [(6, .long (n_cut (xs 2) (r_two 203 0 (n_cut (xs 2) ((((xs 4).toInt64) <<< ((32 : Int32).toInt64 &&& 63)) ||| (((xs 5).toInt64) &&& 4294967295))) (n_cut (xs 3) ((((xs 6).toInt64) <<< ((32 : Int32).toInt64 &&& 63)) ||| (((xs 7).toInt64) &&& 4294967295)))))), (5, .int 0), (0, .ref b), (1, .ref h0), (2, .ref m0), (3, .ref o0), (4, .int 0)]) hx hb dL_law_1601 hl (by decide) rfl (fun ls hl => ?_)
      refine lv_aload_n hx hb dL_law_1603 rfl (lv_at hl 4 rfl) ?_
      have hPc := hP.sub (ws' := [(m0, .inr (11, y0.set 9 (.int 0)))]) [2] rfl
      have hDc := hD.sub (ws' := [(m0, .inr (11, y0.set 9 (.int 0)))]) [2] (by decide) rfl
      have hFc := va_free (wc := [(m0, .inr (11, y0.set 9 (.int 0)))]) hD hS hA [2] rfl
      refine va_calli (va_runV (As := []) (rest := []) ⟨hx, hb, hml, hown, hts⟩ (a94_X12_thrown l  D kA V H.size m0 (y0.set 9 (.int 0)) (fun k hk => (by rw [List.length_set]; exact (hq k hk))) (List.getElem?_set_self (hq 9 (by decide)))) (cwV 0 hts (gw_V gw_1879 gw_1880 gw_1881 gw_16 gw_1882) rfl rfl rfl (by decide +kernel) ⟨(Nat.le_of_ble_eq_true rfl), (Nat.le_of_ble_eq_true rfl)⟩) ⟨aP.blind, va_recv hK hP (ci := 11) (q0 := 2) rfl rfl, aP.pre hE hS hPc hK hDc hFc⟩ rfl rfl hl.1 rfl (lv_room (Nat.le_of_ble_eq_true rfl)) dL_law_1604 ⟨(Nat.le_of_ble_eq_true rfl), (Nat.le_of_ble_eq_true rfl)⟩) hS (fun q _ h => hFc q h) hFc (fun r_12080 u t H1 locs ht hvm hw hB hz1 hk1 hS => ?_)
      obtain ⟨hP1, hD1⟩ := hB
      rw [ht] at hP1
      try dsimp only at hw hP1 hD1
      have w_12081 := hw
      subst w_12081
      obtain ⟨hP, hD⟩ := va_join (wr := [(h0, .inr (10, [.ref x0, .int 0, .ref x1, .ref x2, .ref x3, .ref x4, .ref x5, .ref x6, .ref x7, .ref x8, .int 0, .int 3000])), (o0, .inl (kA 1, 1, .inr (.inl (vp_updL (fun _ => 0) 0 (n_cut (xs 2) (n_combine (xs 1) 0 (n_cut (xs 2) ((((xs 4).toInt64) <<< ((32 : Int32).toInt64 &&& 63)) ||| (((xs 5).toInt64) &&& 4294967295))) (n_cut (xs 3) ((((xs 6).toInt64) <<< ((32 : Int32).toInt64 &&& 63)) ||| (((xs 7).toInt64) &&& 4294967295)))))))))]) (w1 := [(m0, .inr (11, (y0.set 9 (.int 0))))]) hP hD [2] [0, 1] rfl rfl (by decide) (by decide) hk1 hFc hP1 hD1
      generalize H1 = H at hP hS ⊢
      have hP : va_P D vwCl [(h0, .inr (10, [.ref x0, .int 0, .ref x1, .ref x2, .ref x3, .ref x4, .ref x5, .ref x6, .ref x7, .ref x8, .int 0, .int 3000])), (o0, .inl (kA 1, 1, .inr (.inl (vp_updL (fun _ => 0) 0 (n_cut (xs 2) (n_combine (xs 1) 0 (n_cut (xs 2) ((((xs 4).toInt64) <<< ((32 : Int32).toInt64 &&& 63)) ||| (((xs 5).toInt64) &&& 4294967295))) (n_cut (xs 3) ((((xs 6).toInt64) <<< ((32 : Int32).toInt64 &&& 63)) ||| (((xs 7).toInt64) &&& 4294967295))))))))), (m0, .inr (11, (y0.set 9 (.int 0))))] H := hP
      have hD : va_D A [(h0, .inr (10, [.ref x0, .int 0, .ref x1, .ref x2, .ref x3, .ref x4, .ref x5, .ref x6, .ref x7, .ref x8, .int 0, .int 3000])), (o0, .inl (kA 1, 1, .inr (.inl (vp_updL (fun _ => 0) 0 (n_cut (xs 2) (n_combine (xs 1) 0 (n_cut (xs 2) ((((xs 4).toInt64) <<< ((32 : Int32).toInt64 &&& 63)) ||| (((xs 5).toInt64) &&& 4294967295))) (n_cut (xs 3) ((((xs 6).toInt64) <<< ((32 : Int32).toInt64 &&& 63)) ||| (((xs 7).toInt64) &&& 4294967295))))))))), (m0, .inr (11, (y0.set 9 (.int 0))))] := hD
      refine lv_iload hx hb dL_law_1607 (lv_at hl 1 rfl) ?_
      refine lv_icmp_eq (tgt := 1614) hx hb dL_law_1609 (by decide) (fun c_12082 => ?_) (fun c_12082 => ?_)
      · skip
        refine lv_iload hx hb dL_law_1614 (lv_at hl 1 rfl) ?_
        refine lv_if_ne (tgt := 1630) hx hb dL_law_1616 (by decide) (fun c_12083 => ?_) (fun c_12083 => ?_)
        · exact absurd (by decide) c_12083
        · skip
          refine lv_aload_n hx hb dL_law_1619 rfl (lv_at hl 5 rfl) ?_
          refine lv_iconst (v := 0) hx hb dL_law_1620 (by decide) ?_
          refine va_lald hx hb hK hP 1 1 rfl rfl (show vp_in 0 1 by unfold vp_in; decide) dL_law_1621 ?_
          refine W.eq (g2 := F0 m 1622 ls [.long (n_cut (xs 2) (n_combine (xs 1) 0 (n_cut (xs 2) ((((xs 4).toInt64) <<< ((32 : Int32).toInt64 &&& 63)) ||| (((xs 5).toInt64) &&& 4294967295))) (n_cut (xs 3) ((((xs 6).toInt64) <<< ((32 : Int32).toInt64 &&& 63)) ||| (((xs 7).toInt64) &&& 4294967295)))))]) rfl ?_
          refine lv_lload hx hb dL_law_1622 (lv_at hl 0 rfl) ?_
          refine W.lcmp hx hb dL_law_1624 ?_
          refine lv_if_eq (tgt := 1630) hx hb dL_law_1625 (by decide) (fun c_12084 => ?_) (fun c_12084 => ?_)
          · skip
            refine lv_goto (tgt := 1804) hx hb dL_law_1630 (by decide) ?_
            exact lk_tail hC hA2 (lv_sub hl [2, 6] rfl) hS (Nat.le_of_ble_eq_true rfl) (Nat.le_of_ble_eq_true rfl)
          · exact absurd ((lg_cmp_eq _ _).mpr (qx_w0 c_131 c_11440 c_127 c_128 c_136 c_129 c_130 (fun _ => c_138) (fun q => q.1.elim c_134 c_135) (by unfold q_sign; rw [if_neg c_11445, if_neg c_11446, if_neg c_11447, if_neg c_134, if_neg c_135, if_neg c_11450, if_neg c_11451, if_neg c_11452, if_neg c_11453, if_neg c_11454]))) c_12084
      · exact absurd (by decide) c_12082
    · skip
      subst w_11483
      subst w_11484
      exact absurd c_11482 c_138
    · skip
      subst w_11504
      subst w_11505
      exact False.elim (by have a1 := (iyE (n := 9) c_11500 (by decide)); have a2 := (ixA (n := 8) (Int32.not_le.mp c_137) (by decide)); omega)
    · skip
      subst w_11526
      subst w_11527
      exact False.elim (by have a1 := (iyE (n := 9) c_11521 (by decide)); have a2 := (ixA (n := 8) (Int32.not_le.mp c_137) (by decide)); omega)
    · skip
      subst w_11546
      subst w_11547
      exact False.elim (by have a1 := (iyE (n := 8) c_11542 (by decide)); have a2 := (ixA (n := 8) (Int32.not_le.mp c_137) (by decide)); omega)
    · skip
      subst w_11567
      subst w_11568
      exact False.elim (by have a1 := (iyE (n := 8) c_11562 (by decide)); have a2 := (ixA (n := 8) (Int32.not_le.mp c_137) (by decide)); omega)
    · skip
      subst w_11586
      subst w_11587
      exact absurd c_11585 c_136
    · skip
      subst w_11607
      subst w_11608
      obtain ⟨hP, hD⟩ := va_join (wr := [(h0, .inr (10, [.ref x0, .int 0, .ref x1, .ref x2, .ref x3, .ref x4, .ref x5, .ref x6, .ref x7, .ref x8, .int 0, .int 3000])), (o0, .inl (kA 1, 1, .inr (.inl (vp_updL (fun _ => 0) 0 (n_cut (xs 2) (n_combine (xs 1) 0 (n_cut (xs 2) ((((xs 4).toInt64) <<< ((32 : Int32).toInt64 &&& 63)) ||| (((xs 5).toInt64) &&& 4294967295))) (n_cut (xs 3) ((((xs 6).toInt64) <<< ((32 : Int32).toInt64 &&& 63)) ||| (((xs 7).toInt64) &&& 4294967295)))))))))]) (w1 := [(m0, .inr (11, y0.set 9 (.int 0)))]) hP hD [0] [1, 2] rfl rfl (by decide) (by decide) hk1 hFc hP1 hD1
      generalize H1 = H at hP hS ⊢
      have hP : va_P D vwCl [(h0, .inr (10, [.ref x0, .int 0, .ref x1, .ref x2, .ref x3, .ref x4, .ref x5, .ref x6, .ref x7, .ref x8, .int 0, .int 3000])), (o0, .inl (kA 1, 1, .inr (.inl (vp_updL (fun _ => 0) 0 (n_cut (xs 2) (n_combine (xs 1) 0 (n_cut (xs 2) ((((xs 4).toInt64) <<< ((32 : Int32).toInt64 &&& 63)) ||| (((xs 5).toInt64) &&& 4294967295))) (n_cut (xs 3) ((((xs 6).toInt64) <<< ((32 : Int32).toInt64 &&& 63)) ||| (((xs 7).toInt64) &&& 4294967295))))))))), (m0, .inr (11, y0.set 9 (.int 0)))] H := hP
      have hD : va_D A [(h0, .inr (10, [.ref x0, .int 0, .ref x1, .ref x2, .ref x3, .ref x4, .ref x5, .ref x6, .ref x7, .ref x8, .int 0, .int 3000])), (o0, .inl (kA 1, 1, .inr (.inl (vp_updL (fun _ => 0) 0 (n_cut (xs 2) (n_combine (xs 1) 0 (n_cut (xs 2) ((((xs 4).toInt64) <<< ((32 : Int32).toInt64 &&& 63)) ||| (((xs 5).toInt64) &&& 4294967295))) (n_cut (xs 3) ((((xs 6).toInt64) <<< ((32 : Int32).toInt64 &&& 63)) ||| (((xs 7).toInt64) &&& 4294967295))))))))), (m0, .inr (11, y0.set 9 (.int 0)))] := hD
      refine lv_lstore (lv' := [(6, .long (n_cut (xs 2) (r_two 236 0 (n_cut (xs 2) ((((xs 4).toInt64) <<< ((32 : Int32).toInt64 &&& 63)) ||| (((xs 5).toInt64) &&& 4294967295))) (n_cut (xs 3) ((((xs 6).toInt64) <<< ((32 : Int32).toInt64 &&& 63)) ||| (((xs 7).toInt64) &&& 4294967295)))))), (5, .int 0), (0, .ref b), (1, .ref h0), (2, .ref m0), (3, .ref o0), (4, .int 0)]) hx hb dL_law_1601 hl (by decide) rfl (fun ls hl => ?_)
      refine lv_aload_n hx hb dL_law_1603 rfl (lv_at hl 4 rfl) ?_
      have hPc := hP.sub (ws' := [(m0, .inr (11, y0.set 9 (.int 0)))]) [2] rfl
      have hDc := hD.sub (ws' := [(m0, .inr (11, y0.set 9 (.int 0)))]) [2] (by decide) rfl
      have hFc := va_free (wc := [(m0, .inr (11, y0.set 9 (.int 0)))]) hD hS hA [2] rfl
      refine va_calli (va_runV (As := []) (rest := []) ⟨hx, hb, hml, hown, hts⟩ (a94_X12_thrown l  D kA V H.size m0 (y0.set 9 (.int 0)) (fun k hk => (by rw [List.length_set]; exact (hq k hk))) (List.getElem?_set_self (hq 9 (by decide)))) (cwV 0 hts (gw_V gw_1879 gw_1880 gw_1881 gw_16 gw_1882) rfl rfl rfl (by decide +kernel) ⟨(Nat.le_of_ble_eq_true rfl), (Nat.le_of_ble_eq_true rfl)⟩) ⟨aP.blind, va_recv hK hP (ci := 11) (q0 := 2) rfl rfl, aP.pre hE hS hPc hK hDc hFc⟩ rfl rfl hl.1 rfl (lv_room (Nat.le_of_ble_eq_true rfl)) dL_law_1604 ⟨(Nat.le_of_ble_eq_true rfl), (Nat.le_of_ble_eq_true rfl)⟩) hS (fun q _ h => hFc q h) hFc (fun r_12085 u t H1 locs ht hvm hw hB hz1 hk1 hS => ?_)
      obtain ⟨hP1, hD1⟩ := hB
      rw [ht] at hP1
      try dsimp only at hw hP1 hD1
      have w_12086 := hw
      subst w_12086
      obtain ⟨hP, hD⟩ := va_join (wr := [(h0, .inr (10, [.ref x0, .int 0, .ref x1, .ref x2, .ref x3, .ref x4, .ref x5, .ref x6, .ref x7, .ref x8, .int 0, .int 3000])), (o0, .inl (kA 1, 1, .inr (.inl (vp_updL (fun _ => 0) 0 (n_cut (xs 2) (n_combine (xs 1) 0 (n_cut (xs 2) ((((xs 4).toInt64) <<< ((32 : Int32).toInt64 &&& 63)) ||| (((xs 5).toInt64) &&& 4294967295))) (n_cut (xs 3) ((((xs 6).toInt64) <<< ((32 : Int32).toInt64 &&& 63)) ||| (((xs 7).toInt64) &&& 4294967295)))))))))]) (w1 := [(m0, .inr (11, (y0.set 9 (.int 0))))]) hP hD [2] [0, 1] rfl rfl (by decide) (by decide) hk1 hFc hP1 hD1
      generalize H1 = H at hP hS ⊢
      have hP : va_P D vwCl [(h0, .inr (10, [.ref x0, .int 0, .ref x1, .ref x2, .ref x3, .ref x4, .ref x5, .ref x6, .ref x7, .ref x8, .int 0, .int 3000])), (o0, .inl (kA 1, 1, .inr (.inl (vp_updL (fun _ => 0) 0 (n_cut (xs 2) (n_combine (xs 1) 0 (n_cut (xs 2) ((((xs 4).toInt64) <<< ((32 : Int32).toInt64 &&& 63)) ||| (((xs 5).toInt64) &&& 4294967295))) (n_cut (xs 3) ((((xs 6).toInt64) <<< ((32 : Int32).toInt64 &&& 63)) ||| (((xs 7).toInt64) &&& 4294967295))))))))), (m0, .inr (11, (y0.set 9 (.int 0))))] H := hP
      have hD : va_D A [(h0, .inr (10, [.ref x0, .int 0, .ref x1, .ref x2, .ref x3, .ref x4, .ref x5, .ref x6, .ref x7, .ref x8, .int 0, .int 3000])), (o0, .inl (kA 1, 1, .inr (.inl (vp_updL (fun _ => 0) 0 (n_cut (xs 2) (n_combine (xs 1) 0 (n_cut (xs 2) ((((xs 4).toInt64) <<< ((32 : Int32).toInt64 &&& 63)) ||| (((xs 5).toInt64) &&& 4294967295))) (n_cut (xs 3) ((((xs 6).toInt64) <<< ((32 : Int32).toInt64 &&& 63)) ||| (((xs 7).toInt64) &&& 4294967295))))))))), (m0, .inr (11, (y0.set 9 (.int 0))))] := hD
      refine lv_iload hx hb dL_law_1607 (lv_at hl 1 rfl) ?_
      refine lv_icmp_eq (tgt := 1614) hx hb dL_law_1609 (by decide) (fun c_12087 => ?_) (fun c_12087 => ?_)
      · skip
        refine lv_iload hx hb dL_law_1614 (lv_at hl 1 rfl) ?_
        refine lv_if_ne (tgt := 1630) hx hb dL_law_1616 (by decide) (fun c_12088 => ?_) (fun c_12088 => ?_)
        · exact absurd (by decide) c_12088
        · skip
          refine lv_aload_n hx hb dL_law_1619 rfl (lv_at hl 5 rfl) ?_
          refine lv_iconst (v := 0) hx hb dL_law_1620 (by decide) ?_
          refine va_lald hx hb hK hP 1 1 rfl rfl (show vp_in 0 1 by unfold vp_in; decide) dL_law_1621 ?_
          refine W.eq (g2 := F0 m 1622 ls [.long (n_cut (xs 2) (n_combine (xs 1) 0 (n_cut (xs 2) ((((xs 4).toInt64) <<< ((32 : Int32).toInt64 &&& 63)) ||| (((xs 5).toInt64) &&& 4294967295))) (n_cut (xs 3) ((((xs 6).toInt64) <<< ((32 : Int32).toInt64 &&& 63)) ||| (((xs 7).toInt64) &&& 4294967295)))))]) rfl ?_
          refine lv_lload hx hb dL_law_1622 (lv_at hl 0 rfl) ?_
          refine W.lcmp hx hb dL_law_1624 ?_
          refine lv_if_eq (tgt := 1630) hx hb dL_law_1625 (by decide) (fun c_12089 => ?_) (fun c_12089 => ?_)
          · skip
            refine lv_goto (tgt := 1804) hx hb dL_law_1630 (by decide) ?_
            exact lk_tail hC hA2 (lv_sub hl [2, 6] rfl) hS (Nat.le_of_ble_eq_true rfl) (Nat.le_of_ble_eq_true rfl)
          · exact absurd ((lg_cmp_eq _ _).mpr (qx_w0 c_131 c_11589 c_127 c_128 c_136 c_129 c_130 (fun _ => c_138) (fun q => q.1.elim (fun z => absurd (c_11601.symm.trans z) (by decide)) (fun z => absurd (c_11601.symm.trans z) (by decide))) (by rw [c_11601]; decide))) c_12089
      · exact absurd (by decide) c_12087
    · skip
      subst w_11628
      subst w_11629
      exact absurd c_11627 c_138
    · skip
      subst w_11646
      subst w_11647
      exact absurd c_11645 c_136
    · skip
      subst w_11666
      subst w_11667
      obtain ⟨hP, hD⟩ := va_join (wr := [(h0, .inr (10, [.ref x0, .int 0, .ref x1, .ref x2, .ref x3, .ref x4, .ref x5, .ref x6, .ref x7, .ref x8, .int 0, .int 3000])), (o0, .inl (kA 1, 1, .inr (.inl (vp_updL (fun _ => 0) 0 (n_cut (xs 2) (n_combine (xs 1) 0 (n_cut (xs 2) ((((xs 4).toInt64) <<< ((32 : Int32).toInt64 &&& 63)) ||| (((xs 5).toInt64) &&& 4294967295))) (n_cut (xs 3) ((((xs 6).toInt64) <<< ((32 : Int32).toInt64 &&& 63)) ||| (((xs 7).toInt64) &&& 4294967295)))))))))]) (w1 := [(m0, .inr (11, y0.set 9 (.int 0)))]) hP hD [0] [1, 2] rfl rfl (by decide) (by decide) hk1 hFc hP1 hD1
      generalize H1 = H at hP hS ⊢
      have hP : va_P D vwCl [(h0, .inr (10, [.ref x0, .int 0, .ref x1, .ref x2, .ref x3, .ref x4, .ref x5, .ref x6, .ref x7, .ref x8, .int 0, .int 3000])), (o0, .inl (kA 1, 1, .inr (.inl (vp_updL (fun _ => 0) 0 (n_cut (xs 2) (n_combine (xs 1) 0 (n_cut (xs 2) ((((xs 4).toInt64) <<< ((32 : Int32).toInt64 &&& 63)) ||| (((xs 5).toInt64) &&& 4294967295))) (n_cut (xs 3) ((((xs 6).toInt64) <<< ((32 : Int32).toInt64 &&& 63)) ||| (((xs 7).toInt64) &&& 4294967295))))))))), (m0, .inr (11, y0.set 9 (.int 0)))] H := hP
      have hD : va_D A [(h0, .inr (10, [.ref x0, .int 0, .ref x1, .ref x2, .ref x3, .ref x4, .ref x5, .ref x6, .ref x7, .ref x8, .int 0, .int 3000])), (o0, .inl (kA 1, 1, .inr (.inl (vp_updL (fun _ => 0) 0 (n_cut (xs 2) (n_combine (xs 1) 0 (n_cut (xs 2) ((((xs 4).toInt64) <<< ((32 : Int32).toInt64 &&& 63)) ||| (((xs 5).toInt64) &&& 4294967295))) (n_cut (xs 3) ((((xs 6).toInt64) <<< ((32 : Int32).toInt64 &&& 63)) ||| (((xs 7).toInt64) &&& 4294967295))))))))), (m0, .inr (11, y0.set 9 (.int 0)))] := hD
      refine lv_lstore (lv' := [(6, .long (n_cut (xs 2) (r_two 235 0 (n_cut (xs 2) ((((xs 4).toInt64) <<< ((32 : Int32).toInt64 &&& 63)) ||| (((xs 5).toInt64) &&& 4294967295))) (n_cut (xs 3) ((((xs 6).toInt64) <<< ((32 : Int32).toInt64 &&& 63)) ||| (((xs 7).toInt64) &&& 4294967295)))))), (5, .int 0), (0, .ref b), (1, .ref h0), (2, .ref m0), (3, .ref o0), (4, .int 0)]) hx hb dL_law_1601 hl (by decide) rfl (fun ls hl => ?_)
      refine lv_aload_n hx hb dL_law_1603 rfl (lv_at hl 4 rfl) ?_
      have hPc := hP.sub (ws' := [(m0, .inr (11, y0.set 9 (.int 0)))]) [2] rfl
      have hDc := hD.sub (ws' := [(m0, .inr (11, y0.set 9 (.int 0)))]) [2] (by decide) rfl
      have hFc := va_free (wc := [(m0, .inr (11, y0.set 9 (.int 0)))]) hD hS hA [2] rfl
      refine va_calli (va_runV (As := []) (rest := []) ⟨hx, hb, hml, hown, hts⟩ (a94_X12_thrown l  D kA V H.size m0 (y0.set 9 (.int 0)) (fun k hk => (by rw [List.length_set]; exact (hq k hk))) (List.getElem?_set_self (hq 9 (by decide)))) (cwV 0 hts (gw_V gw_1879 gw_1880 gw_1881 gw_16 gw_1882) rfl rfl rfl (by decide +kernel) ⟨(Nat.le_of_ble_eq_true rfl), (Nat.le_of_ble_eq_true rfl)⟩) ⟨aP.blind, va_recv hK hP (ci := 11) (q0 := 2) rfl rfl, aP.pre hE hS hPc hK hDc hFc⟩ rfl rfl hl.1 rfl (lv_room (Nat.le_of_ble_eq_true rfl)) dL_law_1604 ⟨(Nat.le_of_ble_eq_true rfl), (Nat.le_of_ble_eq_true rfl)⟩) hS (fun q _ h => hFc q h) hFc (fun r_12090 u t H1 locs ht hvm hw hB hz1 hk1 hS => ?_)
      obtain ⟨hP1, hD1⟩ := hB
      rw [ht] at hP1
      try dsimp only at hw hP1 hD1
      have w_12091 := hw
      subst w_12091
      obtain ⟨hP, hD⟩ := va_join (wr := [(h0, .inr (10, [.ref x0, .int 0, .ref x1, .ref x2, .ref x3, .ref x4, .ref x5, .ref x6, .ref x7, .ref x8, .int 0, .int 3000])), (o0, .inl (kA 1, 1, .inr (.inl (vp_updL (fun _ => 0) 0 (n_cut (xs 2) (n_combine (xs 1) 0 (n_cut (xs 2) ((((xs 4).toInt64) <<< ((32 : Int32).toInt64 &&& 63)) ||| (((xs 5).toInt64) &&& 4294967295))) (n_cut (xs 3) ((((xs 6).toInt64) <<< ((32 : Int32).toInt64 &&& 63)) ||| (((xs 7).toInt64) &&& 4294967295)))))))))]) (w1 := [(m0, .inr (11, (y0.set 9 (.int 0))))]) hP hD [2] [0, 1] rfl rfl (by decide) (by decide) hk1 hFc hP1 hD1
      generalize H1 = H at hP hS ⊢
      have hP : va_P D vwCl [(h0, .inr (10, [.ref x0, .int 0, .ref x1, .ref x2, .ref x3, .ref x4, .ref x5, .ref x6, .ref x7, .ref x8, .int 0, .int 3000])), (o0, .inl (kA 1, 1, .inr (.inl (vp_updL (fun _ => 0) 0 (n_cut (xs 2) (n_combine (xs 1) 0 (n_cut (xs 2) ((((xs 4).toInt64) <<< ((32 : Int32).toInt64 &&& 63)) ||| (((xs 5).toInt64) &&& 4294967295))) (n_cut (xs 3) ((((xs 6).toInt64) <<< ((32 : Int32).toInt64 &&& 63)) ||| (((xs 7).toInt64) &&& 4294967295))))))))), (m0, .inr (11, (y0.set 9 (.int 0))))] H := hP
      have hD : va_D A [(h0, .inr (10, [.ref x0, .int 0, .ref x1, .ref x2, .ref x3, .ref x4, .ref x5, .ref x6, .ref x7, .ref x8, .int 0, .int 3000])), (o0, .inl (kA 1, 1, .inr (.inl (vp_updL (fun _ => 0) 0 (n_cut (xs 2) (n_combine (xs 1) 0 (n_cut (xs 2) ((((xs 4).toInt64) <<< ((32 : Int32).toInt64 &&& 63)) ||| (((xs 5).toInt64) &&& 4294967295))) (n_cut (xs 3) ((((xs 6).toInt64) <<< ((32 : Int32).toInt64 &&& 63)) ||| (((xs 7).toInt64) &&& 4294967295))))))))), (m0, .inr (11, (y0.set 9 (.int 0))))] := hD
      refine lv_iload hx hb dL_law_1607 (lv_at hl 1 rfl) ?_
      refine lv_icmp_eq (tgt := 1614) hx hb dL_law_1609 (by decide) (fun c_12092 => ?_) (fun c_12092 => ?_)
      · skip
        refine lv_iload hx hb dL_law_1614 (lv_at hl 1 rfl) ?_
        refine lv_if_ne (tgt := 1630) hx hb dL_law_1616 (by decide) (fun c_12093 => ?_) (fun c_12093 => ?_)
        · exact absurd (by decide) c_12093
        · skip
          refine lv_aload_n hx hb dL_law_1619 rfl (lv_at hl 5 rfl) ?_
          refine lv_iconst (v := 0) hx hb dL_law_1620 (by decide) ?_
          refine va_lald hx hb hK hP 1 1 rfl rfl (show vp_in 0 1 by unfold vp_in; decide) dL_law_1621 ?_
          refine W.eq (g2 := F0 m 1622 ls [.long (n_cut (xs 2) (n_combine (xs 1) 0 (n_cut (xs 2) ((((xs 4).toInt64) <<< ((32 : Int32).toInt64 &&& 63)) ||| (((xs 5).toInt64) &&& 4294967295))) (n_cut (xs 3) ((((xs 6).toInt64) <<< ((32 : Int32).toInt64 &&& 63)) ||| (((xs 7).toInt64) &&& 4294967295)))))]) rfl ?_
          refine lv_lload hx hb dL_law_1622 (lv_at hl 0 rfl) ?_
          refine W.lcmp hx hb dL_law_1624 ?_
          refine lv_if_eq (tgt := 1630) hx hb dL_law_1625 (by decide) (fun c_12094 => ?_) (fun c_12094 => ?_)
          · skip
            refine lv_goto (tgt := 1804) hx hb dL_law_1630 (by decide) ?_
            exact lk_tail hC hA2 (lv_sub hl [2, 6] rfl) hS (Nat.le_of_ble_eq_true rfl) (Nat.le_of_ble_eq_true rfl)
          · exact absurd ((lg_cmp_eq _ _).mpr (qx_w0 c_131 c_11649 c_127 c_128 c_136 c_129 c_130 (fun _ => c_138) (fun q => q.1.elim (fun z => absurd (c_11660.symm.trans z) (by decide)) (fun z => absurd (c_11660.symm.trans z) (by decide))) (by rw [c_11660]; decide))) c_12094
      · exact absurd (by decide) c_12092
    · skip
      subst w_11686
      subst w_11687
      exact absurd c_11685 c_138
    · skip
      subst w_11703
      subst w_11704
      exact absurd c_11702 c_136
    · skip
      subst w_11722
      subst w_11723
      obtain ⟨hP, hD⟩ := va_join (wr := [(h0, .inr (10, [.ref x0, .int 0, .ref x1, .ref x2, .ref x3, .ref x4, .ref x5, .ref x6, .ref x7, .ref x8, .int 0, .int 3000])), (o0, .inl (kA 1, 1, .inr (.inl (vp_updL (fun _ => 0) 0 (n_cut (xs 2) (n_combine (xs 1) 0 (n_cut (xs 2) ((((xs 4).toInt64) <<< ((32 : Int32).toInt64 &&& 63)) ||| (((xs 5).toInt64) &&& 4294967295))) (n_cut (xs 3) ((((xs 6).toInt64) <<< ((32 : Int32).toInt64 &&& 63)) ||| (((xs 7).toInt64) &&& 4294967295)))))))))]) (w1 := [(m0, .inr (11, y0.set 9 (.int 0)))]) hP hD [0] [1, 2] rfl rfl (by decide) (by decide) hk1 hFc hP1 hD1
      generalize H1 = H at hP hS ⊢
      have hP : va_P D vwCl [(h0, .inr (10, [.ref x0, .int 0, .ref x1, .ref x2, .ref x3, .ref x4, .ref x5, .ref x6, .ref x7, .ref x8, .int 0, .int 3000])), (o0, .inl (kA 1, 1, .inr (.inl (vp_updL (fun _ => 0) 0 (n_cut (xs 2) (n_combine (xs 1) 0 (n_cut (xs 2) ((((xs 4).toInt64) <<< ((32 : Int32).toInt64 &&& 63)) ||| (((xs 5).toInt64) &&& 4294967295))) (n_cut (xs 3) ((((xs 6).toInt64) <<< ((32 : Int32).toInt64 &&& 63)) ||| (((xs 7).toInt64) &&& 4294967295))))))))), (m0, .inr (11, y0.set 9 (.int 0)))] H := hP
      have hD : va_D A [(h0, .inr (10, [.ref x0, .int 0, .ref x1, .ref x2, .ref x3, .ref x4, .ref x5, .ref x6, .ref x7, .ref x8, .int 0, .int 3000])), (o0, .inl (kA 1, 1, .inr (.inl (vp_updL (fun _ => 0) 0 (n_cut (xs 2) (n_combine (xs 1) 0 (n_cut (xs 2) ((((xs 4).toInt64) <<< ((32 : Int32).toInt64 &&& 63)) ||| (((xs 5).toInt64) &&& 4294967295))) (n_cut (xs 3) ((((xs 6).toInt64) <<< ((32 : Int32).toInt64 &&& 63)) ||| (((xs 7).toInt64) &&& 4294967295))))))))), (m0, .inr (11, y0.set 9 (.int 0)))] := hD
      refine lv_lstore (lv' := [(6, .long (n_cut (xs 2) (r_two 237 0 (n_cut (xs 2) ((((xs 4).toInt64) <<< ((32 : Int32).toInt64 &&& 63)) ||| (((xs 5).toInt64) &&& 4294967295))) (n_cut (xs 3) ((((xs 6).toInt64) <<< ((32 : Int32).toInt64 &&& 63)) ||| (((xs 7).toInt64) &&& 4294967295)))))), (5, .int 0), (0, .ref b), (1, .ref h0), (2, .ref m0), (3, .ref o0), (4, .int 0)]) hx hb dL_law_1601 hl (by decide) rfl (fun ls hl => ?_)
      refine lv_aload_n hx hb dL_law_1603 rfl (lv_at hl 4 rfl) ?_
      have hPc := hP.sub (ws' := [(m0, .inr (11, y0.set 9 (.int 0)))]) [2] rfl
      have hDc := hD.sub (ws' := [(m0, .inr (11, y0.set 9 (.int 0)))]) [2] (by decide) rfl
      have hFc := va_free (wc := [(m0, .inr (11, y0.set 9 (.int 0)))]) hD hS hA [2] rfl
      refine va_calli (va_runV (As := []) (rest := []) ⟨hx, hb, hml, hown, hts⟩ (a94_X12_thrown l  D kA V H.size m0 (y0.set 9 (.int 0)) (fun k hk => (by rw [List.length_set]; exact (hq k hk))) (List.getElem?_set_self (hq 9 (by decide)))) (cwV 0 hts (gw_V gw_1879 gw_1880 gw_1881 gw_16 gw_1882) rfl rfl rfl (by decide +kernel) ⟨(Nat.le_of_ble_eq_true rfl), (Nat.le_of_ble_eq_true rfl)⟩) ⟨aP.blind, va_recv hK hP (ci := 11) (q0 := 2) rfl rfl, aP.pre hE hS hPc hK hDc hFc⟩ rfl rfl hl.1 rfl (lv_room (Nat.le_of_ble_eq_true rfl)) dL_law_1604 ⟨(Nat.le_of_ble_eq_true rfl), (Nat.le_of_ble_eq_true rfl)⟩) hS (fun q _ h => hFc q h) hFc (fun r_12095 u t H1 locs ht hvm hw hB hz1 hk1 hS => ?_)
      obtain ⟨hP1, hD1⟩ := hB
      rw [ht] at hP1
      try dsimp only at hw hP1 hD1
      have w_12096 := hw
      subst w_12096
      obtain ⟨hP, hD⟩ := va_join (wr := [(h0, .inr (10, [.ref x0, .int 0, .ref x1, .ref x2, .ref x3, .ref x4, .ref x5, .ref x6, .ref x7, .ref x8, .int 0, .int 3000])), (o0, .inl (kA 1, 1, .inr (.inl (vp_updL (fun _ => 0) 0 (n_cut (xs 2) (n_combine (xs 1) 0 (n_cut (xs 2) ((((xs 4).toInt64) <<< ((32 : Int32).toInt64 &&& 63)) ||| (((xs 5).toInt64) &&& 4294967295))) (n_cut (xs 3) ((((xs 6).toInt64) <<< ((32 : Int32).toInt64 &&& 63)) ||| (((xs 7).toInt64) &&& 4294967295)))))))))]) (w1 := [(m0, .inr (11, (y0.set 9 (.int 0))))]) hP hD [2] [0, 1] rfl rfl (by decide) (by decide) hk1 hFc hP1 hD1
      generalize H1 = H at hP hS ⊢
      have hP : va_P D vwCl [(h0, .inr (10, [.ref x0, .int 0, .ref x1, .ref x2, .ref x3, .ref x4, .ref x5, .ref x6, .ref x7, .ref x8, .int 0, .int 3000])), (o0, .inl (kA 1, 1, .inr (.inl (vp_updL (fun _ => 0) 0 (n_cut (xs 2) (n_combine (xs 1) 0 (n_cut (xs 2) ((((xs 4).toInt64) <<< ((32 : Int32).toInt64 &&& 63)) ||| (((xs 5).toInt64) &&& 4294967295))) (n_cut (xs 3) ((((xs 6).toInt64) <<< ((32 : Int32).toInt64 &&& 63)) ||| (((xs 7).toInt64) &&& 4294967295))))))))), (m0, .inr (11, (y0.set 9 (.int 0))))] H := hP
      have hD : va_D A [(h0, .inr (10, [.ref x0, .int 0, .ref x1, .ref x2, .ref x3, .ref x4, .ref x5, .ref x6, .ref x7, .ref x8, .int 0, .int 3000])), (o0, .inl (kA 1, 1, .inr (.inl (vp_updL (fun _ => 0) 0 (n_cut (xs 2) (n_combine (xs 1) 0 (n_cut (xs 2) ((((xs 4).toInt64) <<< ((32 : Int32).toInt64 &&& 63)) ||| (((xs 5).toInt64) &&& 4294967295))) (n_cut (xs 3) ((((xs 6).toInt64) <<< ((32 : Int32).toInt64 &&& 63)) ||| (((xs 7).toInt64) &&& 4294967295))))))))), (m0, .inr (11, (y0.set 9 (.int 0))))] := hD
      refine lv_iload hx hb dL_law_1607 (lv_at hl 1 rfl) ?_
      refine lv_icmp_eq (tgt := 1614) hx hb dL_law_1609 (by decide) (fun c_12097 => ?_) (fun c_12097 => ?_)
      · skip
        refine lv_iload hx hb dL_law_1614 (lv_at hl 1 rfl) ?_
        refine lv_if_ne (tgt := 1630) hx hb dL_law_1616 (by decide) (fun c_12098 => ?_) (fun c_12098 => ?_)
        · exact absurd (by decide) c_12098
        · skip
          refine lv_aload_n hx hb dL_law_1619 rfl (lv_at hl 5 rfl) ?_
          refine lv_iconst (v := 0) hx hb dL_law_1620 (by decide) ?_
          refine va_lald hx hb hK hP 1 1 rfl rfl (show vp_in 0 1 by unfold vp_in; decide) dL_law_1621 ?_
          refine W.eq (g2 := F0 m 1622 ls [.long (n_cut (xs 2) (n_combine (xs 1) 0 (n_cut (xs 2) ((((xs 4).toInt64) <<< ((32 : Int32).toInt64 &&& 63)) ||| (((xs 5).toInt64) &&& 4294967295))) (n_cut (xs 3) ((((xs 6).toInt64) <<< ((32 : Int32).toInt64 &&& 63)) ||| (((xs 7).toInt64) &&& 4294967295)))))]) rfl ?_
          refine lv_lload hx hb dL_law_1622 (lv_at hl 0 rfl) ?_
          refine W.lcmp hx hb dL_law_1624 ?_
          refine lv_if_eq (tgt := 1630) hx hb dL_law_1625 (by decide) (fun c_12099 => ?_) (fun c_12099 => ?_)
          · skip
            refine lv_goto (tgt := 1804) hx hb dL_law_1630 (by decide) ?_
            exact lk_tail hC hA2 (lv_sub hl [2, 6] rfl) hS (Nat.le_of_ble_eq_true rfl) (Nat.le_of_ble_eq_true rfl)
          · exact absurd ((lg_cmp_eq _ _).mpr (qx_w0 c_131 c_11706 c_127 c_128 c_136 c_129 c_130 (fun _ => c_138) (fun q => q.1.elim (fun z => absurd (c_11716.symm.trans z) (by decide)) (fun z => absurd (c_11716.symm.trans z) (by decide))) (by rw [c_11716]; decide))) c_12099
      · exact absurd (by decide) c_12097
    · skip
      subst w_11741
      subst w_11742
      exact absurd c_11740 c_138
    · skip
      subst w_11758
      subst w_11759
      exact absurd c_11753 c_135
    · skip
      subst w_11777
      subst w_11778
      exact absurd c_11770 c_135
    · skip
      subst w_11796
      subst w_11797
      exact absurd c_11789 c_135
    · skip
      subst w_11813
      subst w_11814
      exact absurd c_11808 c_135
    · skip
      subst w_11832
      subst w_11833
      exact absurd c_11825 c_135
    · skip
      subst w_11851
      subst w_11852
      exact absurd c_11844 c_135
    · skip
      subst w_11866
      subst w_11867
      exact absurd c_11862 c_134
    · skip
      subst w_11883
      subst w_11884
      exact absurd c_11877 c_134
    · skip
      subst w_11900
      subst w_11901
      exact absurd c_11894 c_134
    · skip
      subst w_11915
      subst w_11916
      exact absurd c_11911 c_134
    · skip
      subst w_11932
      subst w_11933
      exact absurd c_11926 c_134
    · skip
      subst w_11949
      subst w_11950
      exact absurd c_11943 c_134
    · skip
      subst w_11963
      subst w_11964
      exact absurd c_11962 c_136
    · skip
      subst w_11979
      subst w_11980
      obtain ⟨hP, hD⟩ := va_join (wr := [(h0, .inr (10, [.ref x0, .int 0, .ref x1, .ref x2, .ref x3, .ref x4, .ref x5, .ref x6, .ref x7, .ref x8, .int 0, .int 3000])), (o0, .inl (kA 1, 1, .inr (.inl (vp_updL (fun _ => 0) 0 (n_cut (xs 2) (n_combine (xs 1) 0 (n_cut (xs 2) ((((xs 4).toInt64) <<< ((32 : Int32).toInt64 &&& 63)) ||| (((xs 5).toInt64) &&& 4294967295))) (n_cut (xs 3) ((((xs 6).toInt64) <<< ((32 : Int32).toInt64 &&& 63)) ||| (((xs 7).toInt64) &&& 4294967295)))))))))]) (w1 := [(m0, .inr (11, y0.set 9 (.int 0)))]) hP hD [0] [1, 2] rfl rfl (by decide) (by decide) hk1 hFc hP1 hD1
      generalize H1 = H at hP hS ⊢
      have hP : va_P D vwCl [(h0, .inr (10, [.ref x0, .int 0, .ref x1, .ref x2, .ref x3, .ref x4, .ref x5, .ref x6, .ref x7, .ref x8, .int 0, .int 3000])), (o0, .inl (kA 1, 1, .inr (.inl (vp_updL (fun _ => 0) 0 (n_cut (xs 2) (n_combine (xs 1) 0 (n_cut (xs 2) ((((xs 4).toInt64) <<< ((32 : Int32).toInt64 &&& 63)) ||| (((xs 5).toInt64) &&& 4294967295))) (n_cut (xs 3) ((((xs 6).toInt64) <<< ((32 : Int32).toInt64 &&& 63)) ||| (((xs 7).toInt64) &&& 4294967295))))))))), (m0, .inr (11, y0.set 9 (.int 0)))] H := hP
      have hD : va_D A [(h0, .inr (10, [.ref x0, .int 0, .ref x1, .ref x2, .ref x3, .ref x4, .ref x5, .ref x6, .ref x7, .ref x8, .int 0, .int 3000])), (o0, .inl (kA 1, 1, .inr (.inl (vp_updL (fun _ => 0) 0 (n_cut (xs 2) (n_combine (xs 1) 0 (n_cut (xs 2) ((((xs 4).toInt64) <<< ((32 : Int32).toInt64 &&& 63)) ||| (((xs 5).toInt64) &&& 4294967295))) (n_cut (xs 3) ((((xs 6).toInt64) <<< ((32 : Int32).toInt64 &&& 63)) ||| (((xs 7).toInt64) &&& 4294967295))))))))), (m0, .inr (11, y0.set 9 (.int 0)))] := hD
      refine lv_lstore (lv' := [(6, .long (n_cut (xs 2) (r_two 242 0 (n_cut (xs 2) ((((xs 4).toInt64) <<< ((32 : Int32).toInt64 &&& 63)) ||| (((xs 5).toInt64) &&& 4294967295))) (n_cut (xs 3) ((((xs 6).toInt64) <<< ((32 : Int32).toInt64 &&& 63)) ||| (((xs 7).toInt64) &&& 4294967295)))))), (5, .int 0), (0, .ref b), (1, .ref h0), (2, .ref m0), (3, .ref o0), (4, .int 0)]) hx hb dL_law_1601 hl (by decide) rfl (fun ls hl => ?_)
      refine lv_aload_n hx hb dL_law_1603 rfl (lv_at hl 4 rfl) ?_
      have hPc := hP.sub (ws' := [(m0, .inr (11, y0.set 9 (.int 0)))]) [2] rfl
      have hDc := hD.sub (ws' := [(m0, .inr (11, y0.set 9 (.int 0)))]) [2] (by decide) rfl
      have hFc := va_free (wc := [(m0, .inr (11, y0.set 9 (.int 0)))]) hD hS hA [2] rfl
      refine va_calli (va_runV (As := []) (rest := []) ⟨hx, hb, hml, hown, hts⟩ (a94_X12_thrown l  D kA V H.size m0 (y0.set 9 (.int 0)) (fun k hk => (by rw [List.length_set]; exact (hq k hk))) (List.getElem?_set_self (hq 9 (by decide)))) (cwV 0 hts (gw_V gw_1879 gw_1880 gw_1881 gw_16 gw_1882) rfl rfl rfl (by decide +kernel) ⟨(Nat.le_of_ble_eq_true rfl), (Nat.le_of_ble_eq_true rfl)⟩) ⟨aP.blind, va_recv hK hP (ci := 11) (q0 := 2) rfl rfl, aP.pre hE hS hPc hK hDc hFc⟩ rfl rfl hl.1 rfl (lv_room (Nat.le_of_ble_eq_true rfl)) dL_law_1604 ⟨(Nat.le_of_ble_eq_true rfl), (Nat.le_of_ble_eq_true rfl)⟩) hS (fun q _ h => hFc q h) hFc (fun r_12100 u t H1 locs ht hvm hw hB hz1 hk1 hS => ?_)
      obtain ⟨hP1, hD1⟩ := hB
      rw [ht] at hP1
      try dsimp only at hw hP1 hD1
      have w_12101 := hw
      subst w_12101
      obtain ⟨hP, hD⟩ := va_join (wr := [(h0, .inr (10, [.ref x0, .int 0, .ref x1, .ref x2, .ref x3, .ref x4, .ref x5, .ref x6, .ref x7, .ref x8, .int 0, .int 3000])), (o0, .inl (kA 1, 1, .inr (.inl (vp_updL (fun _ => 0) 0 (n_cut (xs 2) (n_combine (xs 1) 0 (n_cut (xs 2) ((((xs 4).toInt64) <<< ((32 : Int32).toInt64 &&& 63)) ||| (((xs 5).toInt64) &&& 4294967295))) (n_cut (xs 3) ((((xs 6).toInt64) <<< ((32 : Int32).toInt64 &&& 63)) ||| (((xs 7).toInt64) &&& 4294967295)))))))))]) (w1 := [(m0, .inr (11, (y0.set 9 (.int 0))))]) hP hD [2] [0, 1] rfl rfl (by decide) (by decide) hk1 hFc hP1 hD1
      generalize H1 = H at hP hS ⊢
      have hP : va_P D vwCl [(h0, .inr (10, [.ref x0, .int 0, .ref x1, .ref x2, .ref x3, .ref x4, .ref x5, .ref x6, .ref x7, .ref x8, .int 0, .int 3000])), (o0, .inl (kA 1, 1, .inr (.inl (vp_updL (fun _ => 0) 0 (n_cut (xs 2) (n_combine (xs 1) 0 (n_cut (xs 2) ((((xs 4).toInt64) <<< ((32 : Int32).toInt64 &&& 63)) ||| (((xs 5).toInt64) &&& 4294967295))) (n_cut (xs 3) ((((xs 6).toInt64) <<< ((32 : Int32).toInt64 &&& 63)) ||| (((xs 7).toInt64) &&& 4294967295))))))))), (m0, .inr (11, (y0.set 9 (.int 0))))] H := hP
      have hD : va_D A [(h0, .inr (10, [.ref x0, .int 0, .ref x1, .ref x2, .ref x3, .ref x4, .ref x5, .ref x6, .ref x7, .ref x8, .int 0, .int 3000])), (o0, .inl (kA 1, 1, .inr (.inl (vp_updL (fun _ => 0) 0 (n_cut (xs 2) (n_combine (xs 1) 0 (n_cut (xs 2) ((((xs 4).toInt64) <<< ((32 : Int32).toInt64 &&& 63)) ||| (((xs 5).toInt64) &&& 4294967295))) (n_cut (xs 3) ((((xs 6).toInt64) <<< ((32 : Int32).toInt64 &&& 63)) ||| (((xs 7).toInt64) &&& 4294967295))))))))), (m0, .inr (11, (y0.set 9 (.int 0))))] := hD
      refine lv_iload hx hb dL_law_1607 (lv_at hl 1 rfl) ?_
      refine lv_icmp_eq (tgt := 1614) hx hb dL_law_1609 (by decide) (fun c_12102 => ?_) (fun c_12102 => ?_)
      · skip
        refine lv_iload hx hb dL_law_1614 (lv_at hl 1 rfl) ?_
        refine lv_if_ne (tgt := 1630) hx hb dL_law_1616 (by decide) (fun c_12103 => ?_) (fun c_12103 => ?_)
        · exact absurd (by decide) c_12103
        · skip
          refine lv_aload_n hx hb dL_law_1619 rfl (lv_at hl 5 rfl) ?_
          refine lv_iconst (v := 0) hx hb dL_law_1620 (by decide) ?_
          refine va_lald hx hb hK hP 1 1 rfl rfl (show vp_in 0 1 by unfold vp_in; decide) dL_law_1621 ?_
          refine W.eq (g2 := F0 m 1622 ls [.long (n_cut (xs 2) (n_combine (xs 1) 0 (n_cut (xs 2) ((((xs 4).toInt64) <<< ((32 : Int32).toInt64 &&& 63)) ||| (((xs 5).toInt64) &&& 4294967295))) (n_cut (xs 3) ((((xs 6).toInt64) <<< ((32 : Int32).toInt64 &&& 63)) ||| (((xs 7).toInt64) &&& 4294967295)))))]) rfl ?_
          refine lv_lload hx hb dL_law_1622 (lv_at hl 0 rfl) ?_
          refine W.lcmp hx hb dL_law_1624 ?_
          refine lv_if_eq (tgt := 1630) hx hb dL_law_1625 (by decide) (fun c_12104 => ?_) (fun c_12104 => ?_)
          · skip
            refine lv_goto (tgt := 1804) hx hb dL_law_1630 (by decide) ?_
            exact lk_tail hC hA2 (lv_sub hl [2, 6] rfl) hS (Nat.le_of_ble_eq_true rfl) (Nat.le_of_ble_eq_true rfl)
          · exact absurd ((lg_cmp_eq _ _).mpr (qx_w0 c_131 c_11966 c_127 c_128 c_136 c_129 c_130 (fun _ => c_138) (fun q => q.1.elim (fun z => absurd (c_11973.symm.trans z) (by decide)) (fun z => absurd (c_11973.symm.trans z) (by decide))) (by rw [c_11973]; decide))) c_12104
      · exact absurd (by decide) c_12102
    · skip
      subst w_11995
      subst w_11996
      exact absurd c_11994 c_138
    · skip
      subst w_12008
      subst w_12009
      exact absurd c_12007 c_136
    · skip
      subst w_12023
      subst w_12024
      obtain ⟨hP, hD⟩ := va_join (wr := [(h0, .inr (10, [.ref x0, .int 0, .ref x1, .ref x2, .ref x3, .ref x4, .ref x5, .ref x6, .ref x7, .ref x8, .int 0, .int 3000])), (o0, .inl (kA 1, 1, .inr (.inl (vp_updL (fun _ => 0) 0 (n_cut (xs 2) (n_combine (xs 1) 0 (n_cut (xs 2) ((((xs 4).toInt64) <<< ((32 : Int32).toInt64 &&& 63)) ||| (((xs 5).toInt64) &&& 4294967295))) (n_cut (xs 3) ((((xs 6).toInt64) <<< ((32 : Int32).toInt64 &&& 63)) ||| (((xs 7).toInt64) &&& 4294967295)))))))))]) (w1 := [(m0, .inr (11, y0.set 9 (.int 0)))]) hP hD [0] [1, 2] rfl rfl (by decide) (by decide) hk1 hFc hP1 hD1
      generalize H1 = H at hP hS ⊢
      have hP : va_P D vwCl [(h0, .inr (10, [.ref x0, .int 0, .ref x1, .ref x2, .ref x3, .ref x4, .ref x5, .ref x6, .ref x7, .ref x8, .int 0, .int 3000])), (o0, .inl (kA 1, 1, .inr (.inl (vp_updL (fun _ => 0) 0 (n_cut (xs 2) (n_combine (xs 1) 0 (n_cut (xs 2) ((((xs 4).toInt64) <<< ((32 : Int32).toInt64 &&& 63)) ||| (((xs 5).toInt64) &&& 4294967295))) (n_cut (xs 3) ((((xs 6).toInt64) <<< ((32 : Int32).toInt64 &&& 63)) ||| (((xs 7).toInt64) &&& 4294967295))))))))), (m0, .inr (11, y0.set 9 (.int 0)))] H := hP
      have hD : va_D A [(h0, .inr (10, [.ref x0, .int 0, .ref x1, .ref x2, .ref x3, .ref x4, .ref x5, .ref x6, .ref x7, .ref x8, .int 0, .int 3000])), (o0, .inl (kA 1, 1, .inr (.inl (vp_updL (fun _ => 0) 0 (n_cut (xs 2) (n_combine (xs 1) 0 (n_cut (xs 2) ((((xs 4).toInt64) <<< ((32 : Int32).toInt64 &&& 63)) ||| (((xs 5).toInt64) &&& 4294967295))) (n_cut (xs 3) ((((xs 6).toInt64) <<< ((32 : Int32).toInt64 &&& 63)) ||| (((xs 7).toInt64) &&& 4294967295))))))))), (m0, .inr (11, y0.set 9 (.int 0)))] := hD
      refine lv_lstore (lv' := [(6, .long (n_cut (xs 2) (r_two 241 0 (n_cut (xs 2) ((((xs 4).toInt64) <<< ((32 : Int32).toInt64 &&& 63)) ||| (((xs 5).toInt64) &&& 4294967295))) (n_cut (xs 3) ((((xs 6).toInt64) <<< ((32 : Int32).toInt64 &&& 63)) ||| (((xs 7).toInt64) &&& 4294967295)))))), (5, .int 0), (0, .ref b), (1, .ref h0), (2, .ref m0), (3, .ref o0), (4, .int 0)]) hx hb dL_law_1601 hl (by decide) rfl (fun ls hl => ?_)
      refine lv_aload_n hx hb dL_law_1603 rfl (lv_at hl 4 rfl) ?_
      have hPc := hP.sub (ws' := [(m0, .inr (11, y0.set 9 (.int 0)))]) [2] rfl
      have hDc := hD.sub (ws' := [(m0, .inr (11, y0.set 9 (.int 0)))]) [2] (by decide) rfl
      have hFc := va_free (wc := [(m0, .inr (11, y0.set 9 (.int 0)))]) hD hS hA [2] rfl
      refine va_calli (va_runV (As := []) (rest := []) ⟨hx, hb, hml, hown, hts⟩ (a94_X12_thrown l  D kA V H.size m0 (y0.set 9 (.int 0)) (fun k hk => (by rw [List.length_set]; exact (hq k hk))) (List.getElem?_set_self (hq 9 (by decide)))) (cwV 0 hts (gw_V gw_1879 gw_1880 gw_1881 gw_16 gw_1882) rfl rfl rfl (by decide +kernel) ⟨(Nat.le_of_ble_eq_true rfl), (Nat.le_of_ble_eq_true rfl)⟩) ⟨aP.blind, va_recv hK hP (ci := 11) (q0 := 2) rfl rfl, aP.pre hE hS hPc hK hDc hFc⟩ rfl rfl hl.1 rfl (lv_room (Nat.le_of_ble_eq_true rfl)) dL_law_1604 ⟨(Nat.le_of_ble_eq_true rfl), (Nat.le_of_ble_eq_true rfl)⟩) hS (fun q _ h => hFc q h) hFc (fun r_12105 u t H1 locs ht hvm hw hB hz1 hk1 hS => ?_)
      obtain ⟨hP1, hD1⟩ := hB
      rw [ht] at hP1
      try dsimp only at hw hP1 hD1
      have w_12106 := hw
      subst w_12106
      obtain ⟨hP, hD⟩ := va_join (wr := [(h0, .inr (10, [.ref x0, .int 0, .ref x1, .ref x2, .ref x3, .ref x4, .ref x5, .ref x6, .ref x7, .ref x8, .int 0, .int 3000])), (o0, .inl (kA 1, 1, .inr (.inl (vp_updL (fun _ => 0) 0 (n_cut (xs 2) (n_combine (xs 1) 0 (n_cut (xs 2) ((((xs 4).toInt64) <<< ((32 : Int32).toInt64 &&& 63)) ||| (((xs 5).toInt64) &&& 4294967295))) (n_cut (xs 3) ((((xs 6).toInt64) <<< ((32 : Int32).toInt64 &&& 63)) ||| (((xs 7).toInt64) &&& 4294967295)))))))))]) (w1 := [(m0, .inr (11, (y0.set 9 (.int 0))))]) hP hD [2] [0, 1] rfl rfl (by decide) (by decide) hk1 hFc hP1 hD1
      generalize H1 = H at hP hS ⊢
      have hP : va_P D vwCl [(h0, .inr (10, [.ref x0, .int 0, .ref x1, .ref x2, .ref x3, .ref x4, .ref x5, .ref x6, .ref x7, .ref x8, .int 0, .int 3000])), (o0, .inl (kA 1, 1, .inr (.inl (vp_updL (fun _ => 0) 0 (n_cut (xs 2) (n_combine (xs 1) 0 (n_cut (xs 2) ((((xs 4).toInt64) <<< ((32 : Int32).toInt64 &&& 63)) ||| (((xs 5).toInt64) &&& 4294967295))) (n_cut (xs 3) ((((xs 6).toInt64) <<< ((32 : Int32).toInt64 &&& 63)) ||| (((xs 7).toInt64) &&& 4294967295))))))))), (m0, .inr (11, (y0.set 9 (.int 0))))] H := hP
      have hD : va_D A [(h0, .inr (10, [.ref x0, .int 0, .ref x1, .ref x2, .ref x3, .ref x4, .ref x5, .ref x6, .ref x7, .ref x8, .int 0, .int 3000])), (o0, .inl (kA 1, 1, .inr (.inl (vp_updL (fun _ => 0) 0 (n_cut (xs 2) (n_combine (xs 1) 0 (n_cut (xs 2) ((((xs 4).toInt64) <<< ((32 : Int32).toInt64 &&& 63)) ||| (((xs 5).toInt64) &&& 4294967295))) (n_cut (xs 3) ((((xs 6).toInt64) <<< ((32 : Int32).toInt64 &&& 63)) ||| (((xs 7).toInt64) &&& 4294967295))))))))), (m0, .inr (11, (y0.set 9 (.int 0))))] := hD
      refine lv_iload hx hb dL_law_1607 (lv_at hl 1 rfl) ?_
      refine lv_icmp_eq (tgt := 1614) hx hb dL_law_1609 (by decide) (fun c_12107 => ?_) (fun c_12107 => ?_)
      · skip
        refine lv_iload hx hb dL_law_1614 (lv_at hl 1 rfl) ?_
        refine lv_if_ne (tgt := 1630) hx hb dL_law_1616 (by decide) (fun c_12108 => ?_) (fun c_12108 => ?_)
        · exact absurd (by decide) c_12108
        · skip
          refine lv_aload_n hx hb dL_law_1619 rfl (lv_at hl 5 rfl) ?_
          refine lv_iconst (v := 0) hx hb dL_law_1620 (by decide) ?_
          refine va_lald hx hb hK hP 1 1 rfl rfl (show vp_in 0 1 by unfold vp_in; decide) dL_law_1621 ?_
          refine W.eq (g2 := F0 m 1622 ls [.long (n_cut (xs 2) (n_combine (xs 1) 0 (n_cut (xs 2) ((((xs 4).toInt64) <<< ((32 : Int32).toInt64 &&& 63)) ||| (((xs 5).toInt64) &&& 4294967295))) (n_cut (xs 3) ((((xs 6).toInt64) <<< ((32 : Int32).toInt64 &&& 63)) ||| (((xs 7).toInt64) &&& 4294967295)))))]) rfl ?_
          refine lv_lload hx hb dL_law_1622 (lv_at hl 0 rfl) ?_
          refine W.lcmp hx hb dL_law_1624 ?_
          refine lv_if_eq (tgt := 1630) hx hb dL_law_1625 (by decide) (fun c_12109 => ?_) (fun c_12109 => ?_)
          · skip
            refine lv_goto (tgt := 1804) hx hb dL_law_1630 (by decide) ?_
            exact lk_tail hC hA2 (lv_sub hl [2, 6] rfl) hS (Nat.le_of_ble_eq_true rfl) (Nat.le_of_ble_eq_true rfl)
          · exact absurd ((lg_cmp_eq _ _).mpr (qx_w0 c_131 c_12011 c_127 c_128 c_136 c_129 c_130 (fun _ => c_138) (fun q => q.1.elim (fun z => absurd (c_12017.symm.trans z) (by decide)) (fun z => absurd (c_12017.symm.trans z) (by decide))) (by rw [c_12017]; decide))) c_12109
      · exact absurd (by decide) c_12107
    · skip
      subst w_12038
      subst w_12039
      exact absurd c_12037 c_138
    · skip
      subst w_12050
      subst w_12051
      exact absurd c_12049 c_136
    · skip
      subst w_12064
      subst w_12065
      obtain ⟨hP, hD⟩ := va_join (wr := [(h0, .inr (10, [.ref x0, .int 0, .ref x1, .ref x2, .ref x3, .ref x4, .ref x5, .ref x6, .ref x7, .ref x8, .int 0, .int 3000])), (o0, .inl (kA 1, 1, .inr (.inl (vp_updL (fun _ => 0) 0 (n_cut (xs 2) (n_combine (xs 1) 0 (n_cut (xs 2) ((((xs 4).toInt64) <<< ((32 : Int32).toInt64 &&& 63)) ||| (((xs 5).toInt64) &&& 4294967295))) (n_cut (xs 3) ((((xs 6).toInt64) <<< ((32 : Int32).toInt64 &&& 63)) ||| (((xs 7).toInt64) &&& 4294967295)))))))))]) (w1 := [(m0, .inr (11, y0.set 9 (.int 0)))]) hP hD [0] [1, 2] rfl rfl (by decide) (by decide) hk1 hFc hP1 hD1
      generalize H1 = H at hP hS ⊢
      have hP : va_P D vwCl [(h0, .inr (10, [.ref x0, .int 0, .ref x1, .ref x2, .ref x3, .ref x4, .ref x5, .ref x6, .ref x7, .ref x8, .int 0, .int 3000])), (o0, .inl (kA 1, 1, .inr (.inl (vp_updL (fun _ => 0) 0 (n_cut (xs 2) (n_combine (xs 1) 0 (n_cut (xs 2) ((((xs 4).toInt64) <<< ((32 : Int32).toInt64 &&& 63)) ||| (((xs 5).toInt64) &&& 4294967295))) (n_cut (xs 3) ((((xs 6).toInt64) <<< ((32 : Int32).toInt64 &&& 63)) ||| (((xs 7).toInt64) &&& 4294967295))))))))), (m0, .inr (11, y0.set 9 (.int 0)))] H := hP
      have hD : va_D A [(h0, .inr (10, [.ref x0, .int 0, .ref x1, .ref x2, .ref x3, .ref x4, .ref x5, .ref x6, .ref x7, .ref x8, .int 0, .int 3000])), (o0, .inl (kA 1, 1, .inr (.inl (vp_updL (fun _ => 0) 0 (n_cut (xs 2) (n_combine (xs 1) 0 (n_cut (xs 2) ((((xs 4).toInt64) <<< ((32 : Int32).toInt64 &&& 63)) ||| (((xs 5).toInt64) &&& 4294967295))) (n_cut (xs 3) ((((xs 6).toInt64) <<< ((32 : Int32).toInt64 &&& 63)) ||| (((xs 7).toInt64) &&& 4294967295))))))))), (m0, .inr (11, y0.set 9 (.int 0)))] := hD
      refine lv_lstore (lv' := [(6, .long (n_cut (xs 2) (r_two 240 0 (n_cut (xs 2) ((((xs 4).toInt64) <<< ((32 : Int32).toInt64 &&& 63)) ||| (((xs 5).toInt64) &&& 4294967295))) (n_cut (xs 3) ((((xs 6).toInt64) <<< ((32 : Int32).toInt64 &&& 63)) ||| (((xs 7).toInt64) &&& 4294967295)))))), (5, .int 0), (0, .ref b), (1, .ref h0), (2, .ref m0), (3, .ref o0), (4, .int 0)]) hx hb dL_law_1601 hl (by decide) rfl (fun ls hl => ?_)
      refine lv_aload_n hx hb dL_law_1603 rfl (lv_at hl 4 rfl) ?_
      have hPc := hP.sub (ws' := [(m0, .inr (11, y0.set 9 (.int 0)))]) [2] rfl
      have hDc := hD.sub (ws' := [(m0, .inr (11, y0.set 9 (.int 0)))]) [2] (by decide) rfl
      have hFc := va_free (wc := [(m0, .inr (11, y0.set 9 (.int 0)))]) hD hS hA [2] rfl
      refine va_calli (va_runV (As := []) (rest := []) ⟨hx, hb, hml, hown, hts⟩ (a94_X12_thrown l  D kA V H.size m0 (y0.set 9 (.int 0)) (fun k hk => (by rw [List.length_set]; exact (hq k hk))) (List.getElem?_set_self (hq 9 (by decide)))) (cwV 0 hts (gw_V gw_1879 gw_1880 gw_1881 gw_16 gw_1882) rfl rfl rfl (by decide +kernel) ⟨(Nat.le_of_ble_eq_true rfl), (Nat.le_of_ble_eq_true rfl)⟩) ⟨aP.blind, va_recv hK hP (ci := 11) (q0 := 2) rfl rfl, aP.pre hE hS hPc hK hDc hFc⟩ rfl rfl hl.1 rfl (lv_room (Nat.le_of_ble_eq_true rfl)) dL_law_1604 ⟨(Nat.le_of_ble_eq_true rfl), (Nat.le_of_ble_eq_true rfl)⟩) hS (fun q _ h => hFc q h) hFc (fun r_12110 u t H1 locs ht hvm hw hB hz1 hk1 hS => ?_)
      obtain ⟨hP1, hD1⟩ := hB
      rw [ht] at hP1
      try dsimp only at hw hP1 hD1
      have w_12111 := hw
      subst w_12111
      obtain ⟨hP, hD⟩ := va_join (wr := [(h0, .inr (10, [.ref x0, .int 0, .ref x1, .ref x2, .ref x3, .ref x4, .ref x5, .ref x6, .ref x7, .ref x8, .int 0, .int 3000])), (o0, .inl (kA 1, 1, .inr (.inl (vp_updL (fun _ => 0) 0 (n_cut (xs 2) (n_combine (xs 1) 0 (n_cut (xs 2) ((((xs 4).toInt64) <<< ((32 : Int32).toInt64 &&& 63)) ||| (((xs 5).toInt64) &&& 4294967295))) (n_cut (xs 3) ((((xs 6).toInt64) <<< ((32 : Int32).toInt64 &&& 63)) ||| (((xs 7).toInt64) &&& 4294967295)))))))))]) (w1 := [(m0, .inr (11, (y0.set 9 (.int 0))))]) hP hD [2] [0, 1] rfl rfl (by decide) (by decide) hk1 hFc hP1 hD1
      generalize H1 = H at hP hS ⊢
      have hP : va_P D vwCl [(h0, .inr (10, [.ref x0, .int 0, .ref x1, .ref x2, .ref x3, .ref x4, .ref x5, .ref x6, .ref x7, .ref x8, .int 0, .int 3000])), (o0, .inl (kA 1, 1, .inr (.inl (vp_updL (fun _ => 0) 0 (n_cut (xs 2) (n_combine (xs 1) 0 (n_cut (xs 2) ((((xs 4).toInt64) <<< ((32 : Int32).toInt64 &&& 63)) ||| (((xs 5).toInt64) &&& 4294967295))) (n_cut (xs 3) ((((xs 6).toInt64) <<< ((32 : Int32).toInt64 &&& 63)) ||| (((xs 7).toInt64) &&& 4294967295))))))))), (m0, .inr (11, (y0.set 9 (.int 0))))] H := hP
      have hD : va_D A [(h0, .inr (10, [.ref x0, .int 0, .ref x1, .ref x2, .ref x3, .ref x4, .ref x5, .ref x6, .ref x7, .ref x8, .int 0, .int 3000])), (o0, .inl (kA 1, 1, .inr (.inl (vp_updL (fun _ => 0) 0 (n_cut (xs 2) (n_combine (xs 1) 0 (n_cut (xs 2) ((((xs 4).toInt64) <<< ((32 : Int32).toInt64 &&& 63)) ||| (((xs 5).toInt64) &&& 4294967295))) (n_cut (xs 3) ((((xs 6).toInt64) <<< ((32 : Int32).toInt64 &&& 63)) ||| (((xs 7).toInt64) &&& 4294967295))))))))), (m0, .inr (11, (y0.set 9 (.int 0))))] := hD
      refine lv_iload hx hb dL_law_1607 (lv_at hl 1 rfl) ?_
      refine lv_icmp_eq (tgt := 1614) hx hb dL_law_1609 (by decide) (fun c_12112 => ?_) (fun c_12112 => ?_)
      · skip
        refine lv_iload hx hb dL_law_1614 (lv_at hl 1 rfl) ?_
        refine lv_if_ne (tgt := 1630) hx hb dL_law_1616 (by decide) (fun c_12113 => ?_) (fun c_12113 => ?_)
        · exact absurd (by decide) c_12113
        · skip
          refine lv_aload_n hx hb dL_law_1619 rfl (lv_at hl 5 rfl) ?_
          refine lv_iconst (v := 0) hx hb dL_law_1620 (by decide) ?_
          refine va_lald hx hb hK hP 1 1 rfl rfl (show vp_in 0 1 by unfold vp_in; decide) dL_law_1621 ?_
          refine W.eq (g2 := F0 m 1622 ls [.long (n_cut (xs 2) (n_combine (xs 1) 0 (n_cut (xs 2) ((((xs 4).toInt64) <<< ((32 : Int32).toInt64 &&& 63)) ||| (((xs 5).toInt64) &&& 4294967295))) (n_cut (xs 3) ((((xs 6).toInt64) <<< ((32 : Int32).toInt64 &&& 63)) ||| (((xs 7).toInt64) &&& 4294967295)))))]) rfl ?_
          refine lv_lload hx hb dL_law_1622 (lv_at hl 0 rfl) ?_
          refine W.lcmp hx hb dL_law_1624 ?_
          refine lv_if_eq (tgt := 1630) hx hb dL_law_1625 (by decide) (fun c_12114 => ?_) (fun c_12114 => ?_)
          · skip
            refine lv_goto (tgt := 1804) hx hb dL_law_1630 (by decide) ?_
            exact lk_tail hC hA2 (lv_sub hl [2, 6] rfl) hS (Nat.le_of_ble_eq_true rfl) (Nat.le_of_ble_eq_true rfl)
          · exact absurd ((lg_cmp_eq _ _).mpr (qx_w0 c_131 c_12053 c_127 c_128 c_136 c_129 c_130 (fun _ => c_138) (fun q => q.1.elim (fun z => absurd (c_12058.symm.trans z) (by decide)) (fun z => absurd (c_12058.symm.trans z) (by decide))) (by rw [c_12058]; decide))) c_12114
      · exact absurd (by decide) c_12112
    · skip
      subst w_12078
      subst w_12079
      exact absurd c_12077 c_138
  · skip
    subst w_153
    subst w_154
    obtain ⟨hP, hD⟩ := va_join (wr := [(m0, .inr (11, y0))]) (w1 := [(h0, .inr (10, [.ref x0, .int 0, .ref x1, .ref x2, .ref x3, .ref x4, .ref x5, .ref x6, .ref x7, .ref x8, .int 0, .int 3000])), (o0, .inl (kA 1, 1, .inr (.inl (vp_updL (fun _ => 0) 0 (n_cut (xs 2) (n_combine (xs 1) 1 (n_cut (xs 2) ((((xs 4).toInt64) <<< ((32 : Int32).toInt64 &&& 63)) ||| (((xs 5).toInt64) &&& 4294967295))) (n_cut (xs 3) ((((xs 6).toInt64) <<< ((32 : Int32).toInt64 &&& 63)) ||| (((xs 7).toInt64) &&& 4294967295)))))))))]) hP hD [0, 2] [1] rfl rfl (by decide) (by decide) hk1 hFc hP1 hD1
    generalize H1 = H at hP hS ⊢
    have hP : va_P D vwCl [(m0, .inr (11, y0)), (h0, .inr (10, [.ref x0, .int 0, .ref x1, .ref x2, .ref x3, .ref x4, .ref x5, .ref x6, .ref x7, .ref x8, .int 0, .int 3000])), (o0, .inl (kA 1, 1, .inr (.inl (vp_updL (fun _ => 0) 0 (n_cut (xs 2) (n_combine (xs 1) 1 (n_cut (xs 2) ((((xs 4).toInt64) <<< ((32 : Int32).toInt64 &&& 63)) ||| (((xs 5).toInt64) &&& 4294967295))) (n_cut (xs 3) ((((xs 6).toInt64) <<< ((32 : Int32).toInt64 &&& 63)) ||| (((xs 7).toInt64) &&& 4294967295)))))))))] H := hP
    have hD : va_D A [(m0, .inr (11, y0)), (h0, .inr (10, [.ref x0, .int 0, .ref x1, .ref x2, .ref x3, .ref x4, .ref x5, .ref x6, .ref x7, .ref x8, .int 0, .int 3000])), (o0, .inl (kA 1, 1, .inr (.inl (vp_updL (fun _ => 0) 0 (n_cut (xs 2) (n_combine (xs 1) 1 (n_cut (xs 2) ((((xs 4).toInt64) <<< ((32 : Int32).toInt64 &&& 63)) ||| (((xs 5).toInt64) &&& 4294967295))) (n_cut (xs 3) ((((xs 6).toInt64) <<< ((32 : Int32).toInt64 &&& 63)) ||| (((xs 7).toInt64) &&& 4294967295)))))))))] := hD
    refine lv_istore (lv' := [(5, .int 0), (0, .ref b), (1, .ref h0), (2, .ref m0), (3, .ref o0), (4, .int 0)]) hx hb dL_law_1531 hl (by decide) rfl (fun ls hl => ?_)
    refine lv_aload_n hx hb dL_law_1533 rfl (lv_at hl 3 rfl) ?_
    refine lv_aload_n hx hb dL_law_1534 rfl (lv_at hl 1 rfl) ?_
    refine lv_iload hx hb dL_law_1535 (lv_at hl 5 rfl) ?_
    refine lv_iconst (v := 1) hx hb dL_law_1537 (by decide) ?_
    refine lv_iadd hx hb dL_law_1538 ?_
    refine W.eq (g2 := F0 m 1539 ls [.int 1, .ref b, .ref m0]) rfl ?_
    refine va_sld hx hb hX hbl hbA hS (show vp_in 1 8 by unfold vp_in; decide) dL_law_1539 ?_
    refine W.eq (g2 := F0 m 1540 ls [.int (xs 1), .ref m0]) rfl ?_
    refine lv_aload_n hx hb dL_law_1540 rfl (lv_at hl 1 rfl) ?_
    refine lv_iload hx hb dL_law_1541 (lv_at hl 5 rfl) ?_
    refine lv_iconst (v := 2) hx hb dL_law_1543 (by decide) ?_
    refine lv_iadd hx hb dL_law_1544 ?_
    refine W.eq (g2 := F0 m 1545 ls [.int 2, .ref b, .int (xs 1), .ref m0]) rfl ?_
    refine va_sld hx hb hX hbl hbA hS (show vp_in 2 8 by unfold vp_in; decide) dL_law_1545 ?_
    refine W.eq (g2 := F0 m 1546 ls [.int (xs 2), .int (xs 1), .ref m0]) rfl ?_
    refine lv_aload_n hx hb dL_law_1546 rfl (lv_at hl 1 rfl) ?_
    refine lv_iload hx hb dL_law_1547 (lv_at hl 5 rfl) ?_
    refine lv_iconst (v := 3) hx hb dL_law_1549 (by decide) ?_
    refine lv_iadd hx hb dL_law_1550 ?_
    refine W.eq (g2 := F0 m 1551 ls [.int 3, .ref b, .int (xs 2), .int (xs 1), .ref m0]) rfl ?_
    refine va_sld hx hb hX hbl hbA hS (show vp_in 3 8 by unfold vp_in; decide) dL_law_1551 ?_
    refine W.eq (g2 := F0 m 1552 ls [.int (xs 3), .int (xs 2), .int (xs 1), .ref m0]) rfl ?_
    refine lv_aload_n hx hb dL_law_1552 rfl (lv_at hl 1 rfl) ?_
    refine lv_iload hx hb dL_law_1553 (lv_at hl 5 rfl) ?_
    refine lv_iconst (v := 4) hx hb dL_law_1555 (by decide) ?_
    refine lv_iadd hx hb dL_law_1556 ?_
    refine W.eq (g2 := F0 m 1557 ls [.int 4, .ref b, .int (xs 3), .int (xs 2), .int (xs 1), .ref m0]) rfl ?_
    refine va_sld hx hb hX hbl hbA hS (show vp_in 4 8 by unfold vp_in; decide) dL_law_1557 ?_
    refine W.eq (g2 := F0 m 1558 ls [.int (xs 4), .int (xs 3), .int (xs 2), .int (xs 1), .ref m0]) rfl ?_
    refine lv_i2l (v := (xs 4).toInt64) hx hb dL_law_1558 rfl ?_
    refine lv_bipush (v := 32) hx hb dL_law_1559 (by decide) ?_
    refine lv_lshl (v := ((xs 4).toInt64) <<< ((32 : Int32).toInt64 &&& 63)) hx hb dL_law_1561 rfl ?_
    refine lv_aload_n hx hb dL_law_1562 rfl (lv_at hl 1 rfl) ?_
    refine lv_iload hx hb dL_law_1563 (lv_at hl 5 rfl) ?_
    refine lv_iconst (v := 5) hx hb dL_law_1565 (by decide) ?_
    refine lv_iadd hx hb dL_law_1566 ?_
    refine W.eq (g2 := F0 m 1567 ls [.int 5, .ref b, .long (((xs 4).toInt64) <<< ((32 : Int32).toInt64 &&& 63)), .int (xs 3), .int (xs 2), .int (xs 1), .ref m0]) rfl ?_
    refine va_sld hx hb hX hbl hbA hS (show vp_in 5 8 by unfold vp_in; decide) dL_law_1567 ?_
    refine W.eq (g2 := F0 m 1568 ls [.int (xs 5), .long (((xs 4).toInt64) <<< ((32 : Int32).toInt64 &&& 63)), .int (xs 3), .int (xs 2), .int (xs 1), .ref m0]) rfl ?_
    refine lv_i2l (v := (xs 5).toInt64) hx hb dL_law_1568 rfl ?_
    refine lv_ldc2 (v := 4294967295) hx hb hown (hG _ gw_2764) dL_law_1569 ?_
    refine lv_land hx hb dL_law_1572 ?_
    refine lv_lor hx hb dL_law_1573 ?_
    refine lv_aload_n hx hb dL_law_1574 rfl (lv_at hl 1 rfl) ?_
    refine lv_iload hx hb dL_law_1575 (lv_at hl 5 rfl) ?_
    refine lv_bipush (v := 6) hx hb dL_law_1577 (by decide) ?_
    refine lv_iadd hx hb dL_law_1579 ?_
    refine W.eq (g2 := F0 m 1580 ls [.int 6, .ref b, .long ((((xs 4).toInt64) <<< ((32 : Int32).toInt64 &&& 63)) ||| (((xs 5).toInt64) &&& 4294967295)), .int (xs 3), .int (xs 2), .int (xs 1), .ref m0]) rfl ?_
    refine va_sld hx hb hX hbl hbA hS (show vp_in 6 8 by unfold vp_in; decide) dL_law_1580 ?_
    refine W.eq (g2 := F0 m 1581 ls [.int (xs 6), .long ((((xs 4).toInt64) <<< ((32 : Int32).toInt64 &&& 63)) ||| (((xs 5).toInt64) &&& 4294967295)), .int (xs 3), .int (xs 2), .int (xs 1), .ref m0]) rfl ?_
    refine lv_i2l (v := (xs 6).toInt64) hx hb dL_law_1581 rfl ?_
    refine lv_bipush (v := 32) hx hb dL_law_1582 (by decide) ?_
    refine lv_lshl (v := ((xs 6).toInt64) <<< ((32 : Int32).toInt64 &&& 63)) hx hb dL_law_1584 rfl ?_
    refine lv_aload_n hx hb dL_law_1585 rfl (lv_at hl 1 rfl) ?_
    refine lv_iload hx hb dL_law_1586 (lv_at hl 5 rfl) ?_
    refine lv_bipush (v := 7) hx hb dL_law_1588 (by decide) ?_
    refine lv_iadd hx hb dL_law_1590 ?_
    refine W.eq (g2 := F0 m 1591 ls [.int 7, .ref b, .long (((xs 6).toInt64) <<< ((32 : Int32).toInt64 &&& 63)), .long ((((xs 4).toInt64) <<< ((32 : Int32).toInt64 &&& 63)) ||| (((xs 5).toInt64) &&& 4294967295)), .int (xs 3), .int (xs 2), .int (xs 1), .ref m0]) rfl ?_
    refine va_sld hx hb hX hbl hbA hS (show vp_in 7 8 by unfold vp_in; decide) dL_law_1591 ?_
    refine W.eq (g2 := F0 m 1592 ls [.int (xs 7), .long (((xs 6).toInt64) <<< ((32 : Int32).toInt64 &&& 63)), .long ((((xs 4).toInt64) <<< ((32 : Int32).toInt64 &&& 63)) ||| (((xs 5).toInt64) &&& 4294967295)), .int (xs 3), .int (xs 2), .int (xs 1), .ref m0]) rfl ?_
    refine lv_i2l (v := (xs 7).toInt64) hx hb dL_law_1592 rfl ?_
    refine lv_ldc2 (v := 4294967295) hx hb hown (hG _ gw_2764) dL_law_1593 ?_
    refine lv_land hx hb dL_law_1596 ?_
    refine lv_lor hx hb dL_law_1597 ?_
    have hPc := hP.sub (ws' := [(m0, .inr (11, y0))]) [0] rfl
    have hDc := hD.sub (ws' := [(m0, .inr (11, y0))]) [0] (by decide) rfl
    have hFc := va_free (wc := [(m0, .inr (11, y0))]) hD hS hA [0] rfl
    refine va_calll (va_runV (As := [.int (xs 1), .int (xs 2), .int (xs 3), .long ((((xs 4).toInt64) <<< ((32 : Int32).toInt64 &&& 63)) ||| (((xs 5).toInt64) &&& 4294967295)), .long ((((xs 6).toInt64) <<< ((32 : Int32).toInt64 &&& 63)) ||| (((xs 7).toInt64) &&& 4294967295))]) (rest := []) ⟨hx, hb, hml, hown, hts⟩ (a153_X12_work l  D kA V H.size m0 (xs 1) (xs 2) (xs 3) ((((xs 4).toInt64) <<< ((32 : Int32).toInt64 &&& 63)) ||| (((xs 5).toInt64) &&& 4294967295)) ((((xs 6).toInt64) <<< ((32 : Int32).toInt64 &&& 63)) ||| (((xs 7).toInt64) &&& 4294967295)) y0 (fun k hk => (hq k hk)) hq9) (cwV 5 hts (gw_V gw_2756 gw_2757 gw_2758 gw_16 gw_2759) rfl rfl rfl (by decide +kernel) ⟨(Nat.le_of_ble_eq_true rfl), (Nat.le_of_ble_eq_true rfl)⟩) ⟨aP.blind, va_recv hK hP (ci := 11) (q0 := 0) rfl rfl, aP.pre hE hS hPc hK hDc hFc⟩ rfl rfl hl.1 rfl (lv_room (Nat.le_of_ble_eq_true rfl)) dL_law_1598 ⟨(Nat.le_of_ble_eq_true rfl), (Nat.le_of_ble_eq_true rfl)⟩) hS (fun q _ h => hFc q h) hFc (fun r_12115 u t H1 locs ht hvm hw hB hz1 hk1 hS => ?_)
    obtain ⟨u_12116, rfl⟩ : ∃ z, z = u := ⟨u, rfl⟩
    obtain ⟨hP1, hD1⟩ := hB
    rw [ht] at hP1
    try dsimp only at hw hP1 hD1
    rcases hw with ⟨c_12117, c_12118, w_12119, w_12120⟩ | ⟨c_12121, c_12122, c_12123, w_12124, w_12125⟩ | ⟨c_12126, c_12127, c_12128, c_12129, w_12130, w_12131⟩ | ⟨c_12132, c_12133, c_12134, c_12135, c_12136, w_12137, w_12138⟩ | ⟨c_12139, c_12140, c_12141, c_12142, c_12143, w_12144, w_12145⟩ | ⟨c_12146, c_12147, c_12148, w_12149, w_12150⟩ | ⟨c_12151, c_12152, c_12153, c_12154, w_12155, w_12156⟩ | ⟨c_12157, c_12158, c_12159, c_12160, c_12161, w_12162, w_12163⟩ | ⟨c_12164, c_12165, c_12166, c_12167, c_12168, c_12169, w_12170, w_12171⟩ | ⟨c_12172, c_12173, c_12174, c_12175, c_12176, c_12177, w_12178, w_12179⟩ | ⟨c_12180, c_12181, c_12182, w_12183, w_12184⟩ | ⟨c_12185, c_12186, c_12187, c_12188, w_12189, w_12190⟩ | ⟨c_12191, c_12192, c_12193, c_12194, c_12195, w_12196, w_12197⟩ | ⟨c_12198, c_12199, c_12200, c_12201, c_12202, c_12203, w_12204, w_12205⟩ | ⟨c_12206, c_12207, c_12208, c_12209, c_12210, c_12211, c_12212, c_12213, c_12214, c_12215, c_12216, c_12217, c_12218, c_12219, c_12220, c_12221, c_12222, c_12223, c_12224, w_12225, w_12226⟩ | ⟨c_12227, c_12228, c_12229, c_12230, c_12231, c_12232, c_12233, c_12234, c_12235, c_12236, c_12237, c_12238, c_12239, c_12240, c_12241, c_12242, c_12243, c_12244, c_12245, c_12246, w_12247, w_12248⟩ | ⟨c_12249, c_12250, c_12251, c_12252, c_12253, c_12254, c_12255, c_12256, c_12257, c_12258, c_12259, c_12260, c_12261, c_12262, c_12263, c_12264, c_12265, c_12266, c_12267, c_12268, c_12269, w_12270, w_12271⟩ | ⟨c_12272, c_12273, c_12274, c_12275, c_12276, c_12277, c_12278, c_12279, c_12280, c_12281, c_12282, c_12283, c_12284, c_12285, c_12286, c_12287, c_12288, c_12289, c_12290, c_12291, c_12292, w_12293, w_12294⟩ | ⟨c_12295, c_12296, c_12297, c_12298, c_12299, c_12300, c_12301, c_12302, c_12303, c_12304, c_12305, c_12306, c_12307, c_12308, c_12309, c_12310, c_12311, c_12312, c_12313, w_12314, w_12315⟩ | ⟨c_12316, c_12317, c_12318, c_12319, c_12320, c_12321, c_12322, c_12323, c_12324, c_12325, c_12326, c_12327, c_12328, c_12329, c_12330, c_12331, c_12332, c_12333, c_12334, c_12335, w_12336, w_12337⟩ | ⟨c_12338, c_12339, c_12340, c_12341, c_12342, c_12343, c_12344, c_12345, c_12346, c_12347, c_12348, c_12349, c_12350, c_12351, c_12352, c_12353, c_12354, c_12355, w_12356, w_12357⟩ | ⟨c_12358, c_12359, c_12360, c_12361, c_12362, c_12363, c_12364, c_12365, c_12366, c_12367, c_12368, c_12369, c_12370, c_12371, c_12372, c_12373, c_12374, c_12375, c_12376, w_12377, w_12378⟩ | ⟨c_12379, c_12380, c_12381, c_12382, c_12383, c_12384, c_12385, c_12386, c_12387, c_12388, c_12389, c_12390, c_12391, c_12392, c_12393, c_12394, c_12395, w_12396, w_12397⟩ | ⟨c_12398, c_12399, c_12400, c_12401, c_12402, c_12403, c_12404, c_12405, c_12406, c_12407, c_12408, c_12409, c_12410, c_12411, c_12412, c_12413, c_12414, c_12415, c_12416, w_12417, w_12418⟩ | ⟨c_12419, c_12420, c_12421, c_12422, c_12423, c_12424, c_12425, c_12426, c_12427, c_12428, c_12429, c_12430, c_12431, c_12432, c_12433, c_12434, c_12435, c_12436, c_12437, w_12438, w_12439⟩ | ⟨c_12440, c_12441, c_12442, c_12443, c_12444, c_12445, c_12446, c_12447, c_12448, c_12449, c_12450, c_12451, c_12452, c_12453, c_12454, c_12455, w_12456, w_12457⟩ | ⟨c_12458, c_12459, c_12460, c_12461, c_12462, c_12463, c_12464, c_12465, c_12466, c_12467, c_12468, c_12469, c_12470, c_12471, c_12472, c_12473, c_12474, c_12475, w_12476, w_12477⟩ | ⟨c_12478, c_12479, c_12480, c_12481, c_12482, c_12483, c_12484, c_12485, c_12486, c_12487, c_12488, c_12489, c_12490, c_12491, c_12492, c_12493, c_12494, c_12495, w_12496, w_12497⟩ | ⟨c_12498, c_12499, c_12500, c_12501, c_12502, c_12503, c_12504, c_12505, c_12506, c_12507, c_12508, c_12509, c_12510, c_12511, c_12512, w_12513, w_12514⟩ | ⟨c_12515, c_12516, c_12517, c_12518, c_12519, c_12520, c_12521, c_12522, c_12523, c_12524, c_12525, c_12526, c_12527, c_12528, c_12529, c_12530, c_12531, w_12532, w_12533⟩ | ⟨c_12534, c_12535, c_12536, c_12537, c_12538, c_12539, c_12540, c_12541, c_12542, c_12543, c_12544, c_12545, c_12546, c_12547, c_12548, c_12549, c_12550, w_12551, w_12552⟩ | ⟨c_12553, c_12554, c_12555, c_12556, c_12557, c_12558, c_12559, c_12560, c_12561, c_12562, c_12563, c_12564, c_12565, c_12566, c_12567, w_12568, w_12569⟩ | ⟨c_12570, c_12571, c_12572, c_12573, c_12574, c_12575, c_12576, c_12577, c_12578, c_12579, c_12580, c_12581, c_12582, c_12583, c_12584, c_12585, c_12586, w_12587, w_12588⟩ | ⟨c_12589, c_12590, c_12591, c_12592, c_12593, c_12594, c_12595, c_12596, c_12597, c_12598, c_12599, c_12600, c_12601, c_12602, c_12603, c_12604, c_12605, w_12606, w_12607⟩ | ⟨c_12608, c_12609, c_12610, c_12611, c_12612, c_12613, c_12614, c_12615, c_12616, c_12617, c_12618, c_12619, c_12620, c_12621, c_12622, w_12623, w_12624⟩ | ⟨c_12625, c_12626, c_12627, c_12628, c_12629, c_12630, c_12631, c_12632, c_12633, c_12634, c_12635, c_12636, c_12637, c_12638, c_12639, c_12640, c_12641, w_12642, w_12643⟩ | ⟨c_12644, c_12645, c_12646, c_12647, c_12648, c_12649, c_12650, c_12651, c_12652, c_12653, c_12654, c_12655, c_12656, c_12657, c_12658, c_12659, c_12660, w_12661, w_12662⟩ | ⟨c_12663, c_12664, c_12665, c_12666, c_12667, c_12668, c_12669, c_12670, c_12671, c_12672, c_12673, c_12674, c_12675, w_12676, w_12677⟩ | ⟨c_12678, c_12679, c_12680, c_12681, c_12682, c_12683, c_12684, c_12685, c_12686, c_12687, c_12688, c_12689, c_12690, c_12691, c_12692, w_12693, w_12694⟩ | ⟨c_12695, c_12696, c_12697, c_12698, c_12699, c_12700, c_12701, c_12702, c_12703, c_12704, c_12705, c_12706, c_12707, c_12708, c_12709, w_12710, w_12711⟩ | ⟨c_12712, c_12713, c_12714, c_12715, c_12716, c_12717, c_12718, c_12719, c_12720, c_12721, c_12722, c_12723, c_12724, w_12725, w_12726⟩ | ⟨c_12727, c_12728, c_12729, c_12730, c_12731, c_12732, c_12733, c_12734, c_12735, c_12736, c_12737, c_12738, c_12739, c_12740, c_12741, w_12742, w_12743⟩ | ⟨c_12744, c_12745, c_12746, c_12747, c_12748, c_12749, c_12750, c_12751, c_12752, c_12753, c_12754, c_12755, c_12756, c_12757, c_12758, w_12759, w_12760⟩ | ⟨c_12761, c_12762, c_12763, c_12764, c_12765, c_12766, c_12767, c_12768, c_12769, c_12770, c_12771, c_12772, w_12773, w_12774⟩ | ⟨c_12775, c_12776, c_12777, c_12778, c_12779, c_12780, c_12781, c_12782, c_12783, c_12784, c_12785, c_12786, c_12787, c_12788, w_12789, w_12790⟩ | ⟨c_12791, c_12792, c_12793, c_12794, c_12795, c_12796, c_12797, c_12798, c_12799, c_12800, c_12801, c_12802, c_12803, c_12804, w_12805, w_12806⟩ | ⟨c_12807, c_12808, c_12809, c_12810, c_12811, c_12812, c_12813, c_12814, c_12815, c_12816, c_12817, w_12818, w_12819⟩ | ⟨c_12820, c_12821, c_12822, c_12823, c_12824, c_12825, c_12826, c_12827, c_12828, c_12829, c_12830, c_12831, c_12832, w_12833, w_12834⟩ | ⟨c_12835, c_12836, c_12837, c_12838, c_12839, c_12840, c_12841, c_12842, c_12843, c_12844, c_12845, c_12846, c_12847, w_12848, w_12849⟩ | ⟨c_12850, c_12851, c_12852, c_12853, c_12854, c_12855, c_12856, c_12857, c_12858, c_12859, w_12860, w_12861⟩ | ⟨c_12862, c_12863, c_12864, c_12865, c_12866, c_12867, c_12868, c_12869, c_12870, c_12871, c_12872, c_12873, w_12874, w_12875⟩ | ⟨c_12876, c_12877, c_12878, c_12879, c_12880, c_12881, c_12882, c_12883, c_12884, c_12885, c_12886, c_12887, w_12888, w_12889⟩
    · skip
      subst w_12119
      subst w_12120
      exact absurd c_12117 c_145
    · skip
      subst w_12124
      subst w_12125
      exact absurd c_12121 c_145
    · skip
      subst w_12130
      subst w_12131
      exact absurd c_12126 c_145
    · skip
      subst w_12137
      subst w_12138
      exact absurd c_12132 c_145
    · skip
      subst w_12144
      subst w_12145
      exact absurd c_12139 c_145
    · skip
      subst w_12149
      subst w_12150
      exact absurd c_12147 (Int32.not_lt.mpr c_146)
    · skip
      subst w_12155
      subst w_12156
      exact absurd c_12152 (Int32.not_lt.mpr c_146)
    · skip
      subst w_12162
      subst w_12163
      exact absurd c_12158 (Int32.not_lt.mpr c_146)
    · skip
      subst w_12170
      subst w_12171
      exact absurd c_12165 (Int32.not_lt.mpr c_146)
    · skip
      subst w_12178
      subst w_12179
      exact absurd c_12173 (Int32.not_lt.mpr c_146)
    · skip
      subst w_12183
      subst w_12184
      exact absurd c_12182 c_141
    · skip
      subst w_12189
      subst w_12190
      exact absurd c_12188 c_142
    · skip
      subst w_12196
      subst w_12197
      exact absurd c_12195 c_143
    · skip
      subst w_12204
      subst w_12205
      exact absurd c_12203 c_144
    · skip
      subst w_12225
      subst w_12226
      exact absurd c_12224 c_150
    · skip
      subst w_12247
      subst w_12248
      exact absurd c_12246 c_151
    · skip
      subst w_12270
      subst w_12271
      exact absurd c_152 c_12269
    · skip
      subst w_12293
      subst w_12294
      obtain ⟨hP, hD⟩ := va_join (wr := [(h0, .inr (10, [.ref x0, .int 0, .ref x1, .ref x2, .ref x3, .ref x4, .ref x5, .ref x6, .ref x7, .ref x8, .int 0, .int 3000])), (o0, .inl (kA 1, 1, .inr (.inl (vp_updL (fun _ => 0) 0 (n_cut (xs 2) (n_combine (xs 1) 1 (n_cut (xs 2) ((((xs 4).toInt64) <<< ((32 : Int32).toInt64 &&& 63)) ||| (((xs 5).toInt64) &&& 4294967295))) (n_cut (xs 3) ((((xs 6).toInt64) <<< ((32 : Int32).toInt64 &&& 63)) ||| (((xs 7).toInt64) &&& 4294967295)))))))))]) (w1 := [(m0, .inr (11, y0.set 9 (.int 0)))]) hP hD [0] [1, 2] rfl rfl (by decide) (by decide) hk1 hFc hP1 hD1
      generalize H1 = H at hP hS ⊢
      have hP : va_P D vwCl [(h0, .inr (10, [.ref x0, .int 0, .ref x1, .ref x2, .ref x3, .ref x4, .ref x5, .ref x6, .ref x7, .ref x8, .int 0, .int 3000])), (o0, .inl (kA 1, 1, .inr (.inl (vp_updL (fun _ => 0) 0 (n_cut (xs 2) (n_combine (xs 1) 1 (n_cut (xs 2) ((((xs 4).toInt64) <<< ((32 : Int32).toInt64 &&& 63)) ||| (((xs 5).toInt64) &&& 4294967295))) (n_cut (xs 3) ((((xs 6).toInt64) <<< ((32 : Int32).toInt64 &&& 63)) ||| (((xs 7).toInt64) &&& 4294967295))))))))), (m0, .inr (11, y0.set 9 (.int 0)))] H := hP
      have hD : va_D A [(h0, .inr (10, [.ref x0, .int 0, .ref x1, .ref x2, .ref x3, .ref x4, .ref x5, .ref x6, .ref x7, .ref x8, .int 0, .int 3000])), (o0, .inl (kA 1, 1, .inr (.inl (vp_updL (fun _ => 0) 0 (n_cut (xs 2) (n_combine (xs 1) 1 (n_cut (xs 2) ((((xs 4).toInt64) <<< ((32 : Int32).toInt64 &&& 63)) ||| (((xs 5).toInt64) &&& 4294967295))) (n_cut (xs 3) ((((xs 6).toInt64) <<< ((32 : Int32).toInt64 &&& 63)) ||| (((xs 7).toInt64) &&& 4294967295))))))))), (m0, .inr (11, y0.set 9 (.int 0)))] := hD
      refine lv_lstore (lv' := [(6, .long (n_cut (xs 2) (r_two 203 1 (n_cut (xs 2) ((((xs 4).toInt64) <<< ((32 : Int32).toInt64 &&& 63)) ||| (((xs 5).toInt64) &&& 4294967295))) (n_cut (xs 3) ((((xs 6).toInt64) <<< ((32 : Int32).toInt64 &&& 63)) ||| (((xs 7).toInt64) &&& 4294967295)))))), (5, .int 0), (0, .ref b), (1, .ref h0), (2, .ref m0), (3, .ref o0), (4, .int 0)]) hx hb dL_law_1601 hl (by decide) rfl (fun ls hl => ?_)
      refine lv_aload_n hx hb dL_law_1603 rfl (lv_at hl 4 rfl) ?_
      have hPc := hP.sub (ws' := [(m0, .inr (11, y0.set 9 (.int 0)))]) [2] rfl
      have hDc := hD.sub (ws' := [(m0, .inr (11, y0.set 9 (.int 0)))]) [2] (by decide) rfl
      have hFc := va_free (wc := [(m0, .inr (11, y0.set 9 (.int 0)))]) hD hS hA [2] rfl
      refine va_calli (va_runV (As := []) (rest := []) ⟨hx, hb, hml, hown, hts⟩ (a94_X12_thrown l  D kA V H.size m0 (y0.set 9 (.int 0)) (fun k hk => (by rw [List.length_set]; exact (hq k hk))) (List.getElem?_set_self (hq 9 (by decide)))) (cwV 0 hts (gw_V gw_1879 gw_1880 gw_1881 gw_16 gw_1882) rfl rfl rfl (by decide +kernel) ⟨(Nat.le_of_ble_eq_true rfl), (Nat.le_of_ble_eq_true rfl)⟩) ⟨aP.blind, va_recv hK hP (ci := 11) (q0 := 2) rfl rfl, aP.pre hE hS hPc hK hDc hFc⟩ rfl rfl hl.1 rfl (lv_room (Nat.le_of_ble_eq_true rfl)) dL_law_1604 ⟨(Nat.le_of_ble_eq_true rfl), (Nat.le_of_ble_eq_true rfl)⟩) hS (fun q _ h => hFc q h) hFc (fun r_12890 u t H1 locs ht hvm hw hB hz1 hk1 hS => ?_)
      obtain ⟨hP1, hD1⟩ := hB
      rw [ht] at hP1
      try dsimp only at hw hP1 hD1
      have w_12891 := hw
      subst w_12891
      obtain ⟨hP, hD⟩ := va_join (wr := [(h0, .inr (10, [.ref x0, .int 0, .ref x1, .ref x2, .ref x3, .ref x4, .ref x5, .ref x6, .ref x7, .ref x8, .int 0, .int 3000])), (o0, .inl (kA 1, 1, .inr (.inl (vp_updL (fun _ => 0) 0 (n_cut (xs 2) (n_combine (xs 1) 1 (n_cut (xs 2) ((((xs 4).toInt64) <<< ((32 : Int32).toInt64 &&& 63)) ||| (((xs 5).toInt64) &&& 4294967295))) (n_cut (xs 3) ((((xs 6).toInt64) <<< ((32 : Int32).toInt64 &&& 63)) ||| (((xs 7).toInt64) &&& 4294967295)))))))))]) (w1 := [(m0, .inr (11, (y0.set 9 (.int 0))))]) hP hD [2] [0, 1] rfl rfl (by decide) (by decide) hk1 hFc hP1 hD1
      generalize H1 = H at hP hS ⊢
      have hP : va_P D vwCl [(h0, .inr (10, [.ref x0, .int 0, .ref x1, .ref x2, .ref x3, .ref x4, .ref x5, .ref x6, .ref x7, .ref x8, .int 0, .int 3000])), (o0, .inl (kA 1, 1, .inr (.inl (vp_updL (fun _ => 0) 0 (n_cut (xs 2) (n_combine (xs 1) 1 (n_cut (xs 2) ((((xs 4).toInt64) <<< ((32 : Int32).toInt64 &&& 63)) ||| (((xs 5).toInt64) &&& 4294967295))) (n_cut (xs 3) ((((xs 6).toInt64) <<< ((32 : Int32).toInt64 &&& 63)) ||| (((xs 7).toInt64) &&& 4294967295))))))))), (m0, .inr (11, (y0.set 9 (.int 0))))] H := hP
      have hD : va_D A [(h0, .inr (10, [.ref x0, .int 0, .ref x1, .ref x2, .ref x3, .ref x4, .ref x5, .ref x6, .ref x7, .ref x8, .int 0, .int 3000])), (o0, .inl (kA 1, 1, .inr (.inl (vp_updL (fun _ => 0) 0 (n_cut (xs 2) (n_combine (xs 1) 1 (n_cut (xs 2) ((((xs 4).toInt64) <<< ((32 : Int32).toInt64 &&& 63)) ||| (((xs 5).toInt64) &&& 4294967295))) (n_cut (xs 3) ((((xs 6).toInt64) <<< ((32 : Int32).toInt64 &&& 63)) ||| (((xs 7).toInt64) &&& 4294967295))))))))), (m0, .inr (11, (y0.set 9 (.int 0))))] := hD
      refine lv_iload hx hb dL_law_1607 (lv_at hl 1 rfl) ?_
      refine lv_icmp_eq (tgt := 1614) hx hb dL_law_1609 (by decide) (fun c_12892 => ?_) (fun c_12892 => ?_)
      · skip
        refine lv_iload hx hb dL_law_1614 (lv_at hl 1 rfl) ?_
        refine lv_if_ne (tgt := 1630) hx hb dL_law_1616 (by decide) (fun c_12893 => ?_) (fun c_12893 => ?_)
        · exact absurd (by decide) c_12893
        · skip
          refine lv_aload_n hx hb dL_law_1619 rfl (lv_at hl 5 rfl) ?_
          refine lv_iconst (v := 0) hx hb dL_law_1620 (by decide) ?_
          refine va_lald hx hb hK hP 1 1 rfl rfl (show vp_in 0 1 by unfold vp_in; decide) dL_law_1621 ?_
          refine W.eq (g2 := F0 m 1622 ls [.long (n_cut (xs 2) (n_combine (xs 1) 1 (n_cut (xs 2) ((((xs 4).toInt64) <<< ((32 : Int32).toInt64 &&& 63)) ||| (((xs 5).toInt64) &&& 4294967295))) (n_cut (xs 3) ((((xs 6).toInt64) <<< ((32 : Int32).toInt64 &&& 63)) ||| (((xs 7).toInt64) &&& 4294967295)))))]) rfl ?_
          refine lv_lload hx hb dL_law_1622 (lv_at hl 0 rfl) ?_
          refine W.lcmp hx hb dL_law_1624 ?_
          refine lv_if_eq (tgt := 1630) hx hb dL_law_1625 (by decide) (fun c_12894 => ?_) (fun c_12894 => ?_)
          · skip
            refine lv_goto (tgt := 1804) hx hb dL_law_1630 (by decide) ?_
            exact lk_tail hC hA2 (lv_sub hl [2, 6] rfl) hS (Nat.le_of_ble_eq_true rfl) (Nat.le_of_ble_eq_true rfl)
          · exact absurd ((lg_cmp_eq _ _).mpr (qx_w1 c_145 c_12273 (fun q => q.1.elim c_148 c_149) (by unfold q_sign; rw [if_neg c_12278, if_neg c_12279, if_neg c_12280, if_neg c_148, if_neg c_149, if_neg c_12283, if_neg c_12284, if_neg c_12285, if_neg c_12286, if_neg c_12287]))) c_12894
      · exact absurd (by decide) c_12892
    · skip
      subst w_12314
      subst w_12315
      exact False.elim (by have a1 := (iyE (n := 9) c_12310 (by decide)); have a2 := (ixA (n := 8) (Int32.not_le.mp c_151) (by decide)); omega)
    · skip
      subst w_12336
      subst w_12337
      exact False.elim (by have a1 := (iyE (n := 9) c_12331 (by decide)); have a2 := (ixA (n := 8) (Int32.not_le.mp c_151) (by decide)); omega)
    · skip
      subst w_12356
      subst w_12357
      exact False.elim (by have a1 := (iyE (n := 8) c_12352 (by decide)); have a2 := (ixA (n := 8) (Int32.not_le.mp c_151) (by decide)); omega)
    · skip
      subst w_12377
      subst w_12378
      exact False.elim (by have a1 := (iyE (n := 8) c_12372 (by decide)); have a2 := (ixA (n := 8) (Int32.not_le.mp c_151) (by decide)); omega)
    · skip
      subst w_12396
      subst w_12397
      exact absurd c_12395 c_150
    · skip
      subst w_12417
      subst w_12418
      exact absurd c_152 c_12416
    · skip
      subst w_12438
      subst w_12439
      obtain ⟨hP, hD⟩ := va_join (wr := [(h0, .inr (10, [.ref x0, .int 0, .ref x1, .ref x2, .ref x3, .ref x4, .ref x5, .ref x6, .ref x7, .ref x8, .int 0, .int 3000])), (o0, .inl (kA 1, 1, .inr (.inl (vp_updL (fun _ => 0) 0 (n_cut (xs 2) (n_combine (xs 1) 1 (n_cut (xs 2) ((((xs 4).toInt64) <<< ((32 : Int32).toInt64 &&& 63)) ||| (((xs 5).toInt64) &&& 4294967295))) (n_cut (xs 3) ((((xs 6).toInt64) <<< ((32 : Int32).toInt64 &&& 63)) ||| (((xs 7).toInt64) &&& 4294967295)))))))))]) (w1 := [(m0, .inr (11, y0.set 9 (.int 0)))]) hP hD [0] [1, 2] rfl rfl (by decide) (by decide) hk1 hFc hP1 hD1
      generalize H1 = H at hP hS ⊢
      have hP : va_P D vwCl [(h0, .inr (10, [.ref x0, .int 0, .ref x1, .ref x2, .ref x3, .ref x4, .ref x5, .ref x6, .ref x7, .ref x8, .int 0, .int 3000])), (o0, .inl (kA 1, 1, .inr (.inl (vp_updL (fun _ => 0) 0 (n_cut (xs 2) (n_combine (xs 1) 1 (n_cut (xs 2) ((((xs 4).toInt64) <<< ((32 : Int32).toInt64 &&& 63)) ||| (((xs 5).toInt64) &&& 4294967295))) (n_cut (xs 3) ((((xs 6).toInt64) <<< ((32 : Int32).toInt64 &&& 63)) ||| (((xs 7).toInt64) &&& 4294967295))))))))), (m0, .inr (11, y0.set 9 (.int 0)))] H := hP
      have hD : va_D A [(h0, .inr (10, [.ref x0, .int 0, .ref x1, .ref x2, .ref x3, .ref x4, .ref x5, .ref x6, .ref x7, .ref x8, .int 0, .int 3000])), (o0, .inl (kA 1, 1, .inr (.inl (vp_updL (fun _ => 0) 0 (n_cut (xs 2) (n_combine (xs 1) 1 (n_cut (xs 2) ((((xs 4).toInt64) <<< ((32 : Int32).toInt64 &&& 63)) ||| (((xs 5).toInt64) &&& 4294967295))) (n_cut (xs 3) ((((xs 6).toInt64) <<< ((32 : Int32).toInt64 &&& 63)) ||| (((xs 7).toInt64) &&& 4294967295))))))))), (m0, .inr (11, y0.set 9 (.int 0)))] := hD
      refine lv_lstore (lv' := [(6, .long (n_cut (xs 2) (r_two 236 1 (n_cut (xs 2) ((((xs 4).toInt64) <<< ((32 : Int32).toInt64 &&& 63)) ||| (((xs 5).toInt64) &&& 4294967295))) (n_cut (xs 3) ((((xs 6).toInt64) <<< ((32 : Int32).toInt64 &&& 63)) ||| (((xs 7).toInt64) &&& 4294967295)))))), (5, .int 0), (0, .ref b), (1, .ref h0), (2, .ref m0), (3, .ref o0), (4, .int 0)]) hx hb dL_law_1601 hl (by decide) rfl (fun ls hl => ?_)
      refine lv_aload_n hx hb dL_law_1603 rfl (lv_at hl 4 rfl) ?_
      have hPc := hP.sub (ws' := [(m0, .inr (11, y0.set 9 (.int 0)))]) [2] rfl
      have hDc := hD.sub (ws' := [(m0, .inr (11, y0.set 9 (.int 0)))]) [2] (by decide) rfl
      have hFc := va_free (wc := [(m0, .inr (11, y0.set 9 (.int 0)))]) hD hS hA [2] rfl
      refine va_calli (va_runV (As := []) (rest := []) ⟨hx, hb, hml, hown, hts⟩ (a94_X12_thrown l  D kA V H.size m0 (y0.set 9 (.int 0)) (fun k hk => (by rw [List.length_set]; exact (hq k hk))) (List.getElem?_set_self (hq 9 (by decide)))) (cwV 0 hts (gw_V gw_1879 gw_1880 gw_1881 gw_16 gw_1882) rfl rfl rfl (by decide +kernel) ⟨(Nat.le_of_ble_eq_true rfl), (Nat.le_of_ble_eq_true rfl)⟩) ⟨aP.blind, va_recv hK hP (ci := 11) (q0 := 2) rfl rfl, aP.pre hE hS hPc hK hDc hFc⟩ rfl rfl hl.1 rfl (lv_room (Nat.le_of_ble_eq_true rfl)) dL_law_1604 ⟨(Nat.le_of_ble_eq_true rfl), (Nat.le_of_ble_eq_true rfl)⟩) hS (fun q _ h => hFc q h) hFc (fun r_12895 u t H1 locs ht hvm hw hB hz1 hk1 hS => ?_)
      obtain ⟨hP1, hD1⟩ := hB
      rw [ht] at hP1
      try dsimp only at hw hP1 hD1
      have w_12896 := hw
      subst w_12896
      obtain ⟨hP, hD⟩ := va_join (wr := [(h0, .inr (10, [.ref x0, .int 0, .ref x1, .ref x2, .ref x3, .ref x4, .ref x5, .ref x6, .ref x7, .ref x8, .int 0, .int 3000])), (o0, .inl (kA 1, 1, .inr (.inl (vp_updL (fun _ => 0) 0 (n_cut (xs 2) (n_combine (xs 1) 1 (n_cut (xs 2) ((((xs 4).toInt64) <<< ((32 : Int32).toInt64 &&& 63)) ||| (((xs 5).toInt64) &&& 4294967295))) (n_cut (xs 3) ((((xs 6).toInt64) <<< ((32 : Int32).toInt64 &&& 63)) ||| (((xs 7).toInt64) &&& 4294967295)))))))))]) (w1 := [(m0, .inr (11, (y0.set 9 (.int 0))))]) hP hD [2] [0, 1] rfl rfl (by decide) (by decide) hk1 hFc hP1 hD1
      generalize H1 = H at hP hS ⊢
      have hP : va_P D vwCl [(h0, .inr (10, [.ref x0, .int 0, .ref x1, .ref x2, .ref x3, .ref x4, .ref x5, .ref x6, .ref x7, .ref x8, .int 0, .int 3000])), (o0, .inl (kA 1, 1, .inr (.inl (vp_updL (fun _ => 0) 0 (n_cut (xs 2) (n_combine (xs 1) 1 (n_cut (xs 2) ((((xs 4).toInt64) <<< ((32 : Int32).toInt64 &&& 63)) ||| (((xs 5).toInt64) &&& 4294967295))) (n_cut (xs 3) ((((xs 6).toInt64) <<< ((32 : Int32).toInt64 &&& 63)) ||| (((xs 7).toInt64) &&& 4294967295))))))))), (m0, .inr (11, (y0.set 9 (.int 0))))] H := hP
      have hD : va_D A [(h0, .inr (10, [.ref x0, .int 0, .ref x1, .ref x2, .ref x3, .ref x4, .ref x5, .ref x6, .ref x7, .ref x8, .int 0, .int 3000])), (o0, .inl (kA 1, 1, .inr (.inl (vp_updL (fun _ => 0) 0 (n_cut (xs 2) (n_combine (xs 1) 1 (n_cut (xs 2) ((((xs 4).toInt64) <<< ((32 : Int32).toInt64 &&& 63)) ||| (((xs 5).toInt64) &&& 4294967295))) (n_cut (xs 3) ((((xs 6).toInt64) <<< ((32 : Int32).toInt64 &&& 63)) ||| (((xs 7).toInt64) &&& 4294967295))))))))), (m0, .inr (11, (y0.set 9 (.int 0))))] := hD
      refine lv_iload hx hb dL_law_1607 (lv_at hl 1 rfl) ?_
      refine lv_icmp_eq (tgt := 1614) hx hb dL_law_1609 (by decide) (fun c_12897 => ?_) (fun c_12897 => ?_)
      · skip
        refine lv_iload hx hb dL_law_1614 (lv_at hl 1 rfl) ?_
        refine lv_if_ne (tgt := 1630) hx hb dL_law_1616 (by decide) (fun c_12898 => ?_) (fun c_12898 => ?_)
        · exact absurd (by decide) c_12898
        · skip
          refine lv_aload_n hx hb dL_law_1619 rfl (lv_at hl 5 rfl) ?_
          refine lv_iconst (v := 0) hx hb dL_law_1620 (by decide) ?_
          refine va_lald hx hb hK hP 1 1 rfl rfl (show vp_in 0 1 by unfold vp_in; decide) dL_law_1621 ?_
          refine W.eq (g2 := F0 m 1622 ls [.long (n_cut (xs 2) (n_combine (xs 1) 1 (n_cut (xs 2) ((((xs 4).toInt64) <<< ((32 : Int32).toInt64 &&& 63)) ||| (((xs 5).toInt64) &&& 4294967295))) (n_cut (xs 3) ((((xs 6).toInt64) <<< ((32 : Int32).toInt64 &&& 63)) ||| (((xs 7).toInt64) &&& 4294967295)))))]) rfl ?_
          refine lv_lload hx hb dL_law_1622 (lv_at hl 0 rfl) ?_
          refine W.lcmp hx hb dL_law_1624 ?_
          refine lv_if_eq (tgt := 1630) hx hb dL_law_1625 (by decide) (fun c_12899 => ?_) (fun c_12899 => ?_)
          · skip
            refine lv_goto (tgt := 1804) hx hb dL_law_1630 (by decide) ?_
            exact lk_tail hC hA2 (lv_sub hl [2, 6] rfl) hS (Nat.le_of_ble_eq_true rfl) (Nat.le_of_ble_eq_true rfl)
          · exact absurd ((lg_cmp_eq _ _).mpr (qx_w1 c_145 c_12420 (fun q => q.1.elim (fun z => absurd (c_12432.symm.trans z) (by decide)) (fun z => absurd (c_12432.symm.trans z) (by decide))) (by rw [c_12432]; decide))) c_12899
      · exact absurd (by decide) c_12897
    · skip
      subst w_12456
      subst w_12457
      exact absurd c_12455 c_150
    · skip
      subst w_12476
      subst w_12477
      exact absurd c_152 c_12475
    · skip
      subst w_12496
      subst w_12497
      obtain ⟨hP, hD⟩ := va_join (wr := [(h0, .inr (10, [.ref x0, .int 0, .ref x1, .ref x2, .ref x3, .ref x4, .ref x5, .ref x6, .ref x7, .ref x8, .int 0, .int 3000])), (o0, .inl (kA 1, 1, .inr (.inl (vp_updL (fun _ => 0) 0 (n_cut (xs 2) (n_combine (xs 1) 1 (n_cut (xs 2) ((((xs 4).toInt64) <<< ((32 : Int32).toInt64 &&& 63)) ||| (((xs 5).toInt64) &&& 4294967295))) (n_cut (xs 3) ((((xs 6).toInt64) <<< ((32 : Int32).toInt64 &&& 63)) ||| (((xs 7).toInt64) &&& 4294967295)))))))))]) (w1 := [(m0, .inr (11, y0.set 9 (.int 0)))]) hP hD [0] [1, 2] rfl rfl (by decide) (by decide) hk1 hFc hP1 hD1
      generalize H1 = H at hP hS ⊢
      have hP : va_P D vwCl [(h0, .inr (10, [.ref x0, .int 0, .ref x1, .ref x2, .ref x3, .ref x4, .ref x5, .ref x6, .ref x7, .ref x8, .int 0, .int 3000])), (o0, .inl (kA 1, 1, .inr (.inl (vp_updL (fun _ => 0) 0 (n_cut (xs 2) (n_combine (xs 1) 1 (n_cut (xs 2) ((((xs 4).toInt64) <<< ((32 : Int32).toInt64 &&& 63)) ||| (((xs 5).toInt64) &&& 4294967295))) (n_cut (xs 3) ((((xs 6).toInt64) <<< ((32 : Int32).toInt64 &&& 63)) ||| (((xs 7).toInt64) &&& 4294967295))))))))), (m0, .inr (11, y0.set 9 (.int 0)))] H := hP
      have hD : va_D A [(h0, .inr (10, [.ref x0, .int 0, .ref x1, .ref x2, .ref x3, .ref x4, .ref x5, .ref x6, .ref x7, .ref x8, .int 0, .int 3000])), (o0, .inl (kA 1, 1, .inr (.inl (vp_updL (fun _ => 0) 0 (n_cut (xs 2) (n_combine (xs 1) 1 (n_cut (xs 2) ((((xs 4).toInt64) <<< ((32 : Int32).toInt64 &&& 63)) ||| (((xs 5).toInt64) &&& 4294967295))) (n_cut (xs 3) ((((xs 6).toInt64) <<< ((32 : Int32).toInt64 &&& 63)) ||| (((xs 7).toInt64) &&& 4294967295))))))))), (m0, .inr (11, y0.set 9 (.int 0)))] := hD
      refine lv_lstore (lv' := [(6, .long (n_cut (xs 2) (r_two 235 1 (n_cut (xs 2) ((((xs 4).toInt64) <<< ((32 : Int32).toInt64 &&& 63)) ||| (((xs 5).toInt64) &&& 4294967295))) (n_cut (xs 3) ((((xs 6).toInt64) <<< ((32 : Int32).toInt64 &&& 63)) ||| (((xs 7).toInt64) &&& 4294967295)))))), (5, .int 0), (0, .ref b), (1, .ref h0), (2, .ref m0), (3, .ref o0), (4, .int 0)]) hx hb dL_law_1601 hl (by decide) rfl (fun ls hl => ?_)
      refine lv_aload_n hx hb dL_law_1603 rfl (lv_at hl 4 rfl) ?_
      have hPc := hP.sub (ws' := [(m0, .inr (11, y0.set 9 (.int 0)))]) [2] rfl
      have hDc := hD.sub (ws' := [(m0, .inr (11, y0.set 9 (.int 0)))]) [2] (by decide) rfl
      have hFc := va_free (wc := [(m0, .inr (11, y0.set 9 (.int 0)))]) hD hS hA [2] rfl
      refine va_calli (va_runV (As := []) (rest := []) ⟨hx, hb, hml, hown, hts⟩ (a94_X12_thrown l  D kA V H.size m0 (y0.set 9 (.int 0)) (fun k hk => (by rw [List.length_set]; exact (hq k hk))) (List.getElem?_set_self (hq 9 (by decide)))) (cwV 0 hts (gw_V gw_1879 gw_1880 gw_1881 gw_16 gw_1882) rfl rfl rfl (by decide +kernel) ⟨(Nat.le_of_ble_eq_true rfl), (Nat.le_of_ble_eq_true rfl)⟩) ⟨aP.blind, va_recv hK hP (ci := 11) (q0 := 2) rfl rfl, aP.pre hE hS hPc hK hDc hFc⟩ rfl rfl hl.1 rfl (lv_room (Nat.le_of_ble_eq_true rfl)) dL_law_1604 ⟨(Nat.le_of_ble_eq_true rfl), (Nat.le_of_ble_eq_true rfl)⟩) hS (fun q _ h => hFc q h) hFc (fun r_12900 u t H1 locs ht hvm hw hB hz1 hk1 hS => ?_)
      obtain ⟨hP1, hD1⟩ := hB
      rw [ht] at hP1
      try dsimp only at hw hP1 hD1
      have w_12901 := hw
      subst w_12901
      obtain ⟨hP, hD⟩ := va_join (wr := [(h0, .inr (10, [.ref x0, .int 0, .ref x1, .ref x2, .ref x3, .ref x4, .ref x5, .ref x6, .ref x7, .ref x8, .int 0, .int 3000])), (o0, .inl (kA 1, 1, .inr (.inl (vp_updL (fun _ => 0) 0 (n_cut (xs 2) (n_combine (xs 1) 1 (n_cut (xs 2) ((((xs 4).toInt64) <<< ((32 : Int32).toInt64 &&& 63)) ||| (((xs 5).toInt64) &&& 4294967295))) (n_cut (xs 3) ((((xs 6).toInt64) <<< ((32 : Int32).toInt64 &&& 63)) ||| (((xs 7).toInt64) &&& 4294967295)))))))))]) (w1 := [(m0, .inr (11, (y0.set 9 (.int 0))))]) hP hD [2] [0, 1] rfl rfl (by decide) (by decide) hk1 hFc hP1 hD1
      generalize H1 = H at hP hS ⊢
      have hP : va_P D vwCl [(h0, .inr (10, [.ref x0, .int 0, .ref x1, .ref x2, .ref x3, .ref x4, .ref x5, .ref x6, .ref x7, .ref x8, .int 0, .int 3000])), (o0, .inl (kA 1, 1, .inr (.inl (vp_updL (fun _ => 0) 0 (n_cut (xs 2) (n_combine (xs 1) 1 (n_cut (xs 2) ((((xs 4).toInt64) <<< ((32 : Int32).toInt64 &&& 63)) ||| (((xs 5).toInt64) &&& 4294967295))) (n_cut (xs 3) ((((xs 6).toInt64) <<< ((32 : Int32).toInt64 &&& 63)) ||| (((xs 7).toInt64) &&& 4294967295))))))))), (m0, .inr (11, (y0.set 9 (.int 0))))] H := hP
      have hD : va_D A [(h0, .inr (10, [.ref x0, .int 0, .ref x1, .ref x2, .ref x3, .ref x4, .ref x5, .ref x6, .ref x7, .ref x8, .int 0, .int 3000])), (o0, .inl (kA 1, 1, .inr (.inl (vp_updL (fun _ => 0) 0 (n_cut (xs 2) (n_combine (xs 1) 1 (n_cut (xs 2) ((((xs 4).toInt64) <<< ((32 : Int32).toInt64 &&& 63)) ||| (((xs 5).toInt64) &&& 4294967295))) (n_cut (xs 3) ((((xs 6).toInt64) <<< ((32 : Int32).toInt64 &&& 63)) ||| (((xs 7).toInt64) &&& 4294967295))))))))), (m0, .inr (11, (y0.set 9 (.int 0))))] := hD
      refine lv_iload hx hb dL_law_1607 (lv_at hl 1 rfl) ?_
      refine lv_icmp_eq (tgt := 1614) hx hb dL_law_1609 (by decide) (fun c_12902 => ?_) (fun c_12902 => ?_)
      · skip
        refine lv_iload hx hb dL_law_1614 (lv_at hl 1 rfl) ?_
        refine lv_if_ne (tgt := 1630) hx hb dL_law_1616 (by decide) (fun c_12903 => ?_) (fun c_12903 => ?_)
        · exact absurd (by decide) c_12903
        · skip
          refine lv_aload_n hx hb dL_law_1619 rfl (lv_at hl 5 rfl) ?_
          refine lv_iconst (v := 0) hx hb dL_law_1620 (by decide) ?_
          refine va_lald hx hb hK hP 1 1 rfl rfl (show vp_in 0 1 by unfold vp_in; decide) dL_law_1621 ?_
          refine W.eq (g2 := F0 m 1622 ls [.long (n_cut (xs 2) (n_combine (xs 1) 1 (n_cut (xs 2) ((((xs 4).toInt64) <<< ((32 : Int32).toInt64 &&& 63)) ||| (((xs 5).toInt64) &&& 4294967295))) (n_cut (xs 3) ((((xs 6).toInt64) <<< ((32 : Int32).toInt64 &&& 63)) ||| (((xs 7).toInt64) &&& 4294967295)))))]) rfl ?_
          refine lv_lload hx hb dL_law_1622 (lv_at hl 0 rfl) ?_
          refine W.lcmp hx hb dL_law_1624 ?_
          refine lv_if_eq (tgt := 1630) hx hb dL_law_1625 (by decide) (fun c_12904 => ?_) (fun c_12904 => ?_)
          · skip
            refine lv_goto (tgt := 1804) hx hb dL_law_1630 (by decide) ?_
            exact lk_tail hC hA2 (lv_sub hl [2, 6] rfl) hS (Nat.le_of_ble_eq_true rfl) (Nat.le_of_ble_eq_true rfl)
          · exact absurd ((lg_cmp_eq _ _).mpr (qx_w1 c_145 c_12479 (fun q => q.1.elim (fun z => absurd (c_12490.symm.trans z) (by decide)) (fun z => absurd (c_12490.symm.trans z) (by decide))) (by rw [c_12490]; decide))) c_12904
      · exact absurd (by decide) c_12902
    · skip
      subst w_12513
      subst w_12514
      exact absurd c_12512 c_150
    · skip
      subst w_12532
      subst w_12533
      exact absurd c_152 c_12531
    · skip
      subst w_12551
      subst w_12552
      obtain ⟨hP, hD⟩ := va_join (wr := [(h0, .inr (10, [.ref x0, .int 0, .ref x1, .ref x2, .ref x3, .ref x4, .ref x5, .ref x6, .ref x7, .ref x8, .int 0, .int 3000])), (o0, .inl (kA 1, 1, .inr (.inl (vp_updL (fun _ => 0) 0 (n_cut (xs 2) (n_combine (xs 1) 1 (n_cut (xs 2) ((((xs 4).toInt64) <<< ((32 : Int32).toInt64 &&& 63)) ||| (((xs 5).toInt64) &&& 4294967295))) (n_cut (xs 3) ((((xs 6).toInt64) <<< ((32 : Int32).toInt64 &&& 63)) ||| (((xs 7).toInt64) &&& 4294967295)))))))))]) (w1 := [(m0, .inr (11, y0.set 9 (.int 0)))]) hP hD [0] [1, 2] rfl rfl (by decide) (by decide) hk1 hFc hP1 hD1
      generalize H1 = H at hP hS ⊢
      have hP : va_P D vwCl [(h0, .inr (10, [.ref x0, .int 0, .ref x1, .ref x2, .ref x3, .ref x4, .ref x5, .ref x6, .ref x7, .ref x8, .int 0, .int 3000])), (o0, .inl (kA 1, 1, .inr (.inl (vp_updL (fun _ => 0) 0 (n_cut (xs 2) (n_combine (xs 1) 1 (n_cut (xs 2) ((((xs 4).toInt64) <<< ((32 : Int32).toInt64 &&& 63)) ||| (((xs 5).toInt64) &&& 4294967295))) (n_cut (xs 3) ((((xs 6).toInt64) <<< ((32 : Int32).toInt64 &&& 63)) ||| (((xs 7).toInt64) &&& 4294967295))))))))), (m0, .inr (11, y0.set 9 (.int 0)))] H := hP
      have hD : va_D A [(h0, .inr (10, [.ref x0, .int 0, .ref x1, .ref x2, .ref x3, .ref x4, .ref x5, .ref x6, .ref x7, .ref x8, .int 0, .int 3000])), (o0, .inl (kA 1, 1, .inr (.inl (vp_updL (fun _ => 0) 0 (n_cut (xs 2) (n_combine (xs 1) 1 (n_cut (xs 2) ((((xs 4).toInt64) <<< ((32 : Int32).toInt64 &&& 63)) ||| (((xs 5).toInt64) &&& 4294967295))) (n_cut (xs 3) ((((xs 6).toInt64) <<< ((32 : Int32).toInt64 &&& 63)) ||| (((xs 7).toInt64) &&& 4294967295))))))))), (m0, .inr (11, y0.set 9 (.int 0)))] := hD
      refine lv_lstore (lv' := [(6, .long (n_cut (xs 2) (r_two 237 1 (n_cut (xs 2) ((((xs 4).toInt64) <<< ((32 : Int32).toInt64 &&& 63)) ||| (((xs 5).toInt64) &&& 4294967295))) (n_cut (xs 3) ((((xs 6).toInt64) <<< ((32 : Int32).toInt64 &&& 63)) ||| (((xs 7).toInt64) &&& 4294967295)))))), (5, .int 0), (0, .ref b), (1, .ref h0), (2, .ref m0), (3, .ref o0), (4, .int 0)]) hx hb dL_law_1601 hl (by decide) rfl (fun ls hl => ?_)
      refine lv_aload_n hx hb dL_law_1603 rfl (lv_at hl 4 rfl) ?_
      have hPc := hP.sub (ws' := [(m0, .inr (11, y0.set 9 (.int 0)))]) [2] rfl
      have hDc := hD.sub (ws' := [(m0, .inr (11, y0.set 9 (.int 0)))]) [2] (by decide) rfl
      have hFc := va_free (wc := [(m0, .inr (11, y0.set 9 (.int 0)))]) hD hS hA [2] rfl
      refine va_calli (va_runV (As := []) (rest := []) ⟨hx, hb, hml, hown, hts⟩ (a94_X12_thrown l  D kA V H.size m0 (y0.set 9 (.int 0)) (fun k hk => (by rw [List.length_set]; exact (hq k hk))) (List.getElem?_set_self (hq 9 (by decide)))) (cwV 0 hts (gw_V gw_1879 gw_1880 gw_1881 gw_16 gw_1882) rfl rfl rfl (by decide +kernel) ⟨(Nat.le_of_ble_eq_true rfl), (Nat.le_of_ble_eq_true rfl)⟩) ⟨aP.blind, va_recv hK hP (ci := 11) (q0 := 2) rfl rfl, aP.pre hE hS hPc hK hDc hFc⟩ rfl rfl hl.1 rfl (lv_room (Nat.le_of_ble_eq_true rfl)) dL_law_1604 ⟨(Nat.le_of_ble_eq_true rfl), (Nat.le_of_ble_eq_true rfl)⟩) hS (fun q _ h => hFc q h) hFc (fun r_12905 u t H1 locs ht hvm hw hB hz1 hk1 hS => ?_)
      obtain ⟨hP1, hD1⟩ := hB
      rw [ht] at hP1
      try dsimp only at hw hP1 hD1
      have w_12906 := hw
      subst w_12906
      obtain ⟨hP, hD⟩ := va_join (wr := [(h0, .inr (10, [.ref x0, .int 0, .ref x1, .ref x2, .ref x3, .ref x4, .ref x5, .ref x6, .ref x7, .ref x8, .int 0, .int 3000])), (o0, .inl (kA 1, 1, .inr (.inl (vp_updL (fun _ => 0) 0 (n_cut (xs 2) (n_combine (xs 1) 1 (n_cut (xs 2) ((((xs 4).toInt64) <<< ((32 : Int32).toInt64 &&& 63)) ||| (((xs 5).toInt64) &&& 4294967295))) (n_cut (xs 3) ((((xs 6).toInt64) <<< ((32 : Int32).toInt64 &&& 63)) ||| (((xs 7).toInt64) &&& 4294967295)))))))))]) (w1 := [(m0, .inr (11, (y0.set 9 (.int 0))))]) hP hD [2] [0, 1] rfl rfl (by decide) (by decide) hk1 hFc hP1 hD1
      generalize H1 = H at hP hS ⊢
      have hP : va_P D vwCl [(h0, .inr (10, [.ref x0, .int 0, .ref x1, .ref x2, .ref x3, .ref x4, .ref x5, .ref x6, .ref x7, .ref x8, .int 0, .int 3000])), (o0, .inl (kA 1, 1, .inr (.inl (vp_updL (fun _ => 0) 0 (n_cut (xs 2) (n_combine (xs 1) 1 (n_cut (xs 2) ((((xs 4).toInt64) <<< ((32 : Int32).toInt64 &&& 63)) ||| (((xs 5).toInt64) &&& 4294967295))) (n_cut (xs 3) ((((xs 6).toInt64) <<< ((32 : Int32).toInt64 &&& 63)) ||| (((xs 7).toInt64) &&& 4294967295))))))))), (m0, .inr (11, (y0.set 9 (.int 0))))] H := hP
      have hD : va_D A [(h0, .inr (10, [.ref x0, .int 0, .ref x1, .ref x2, .ref x3, .ref x4, .ref x5, .ref x6, .ref x7, .ref x8, .int 0, .int 3000])), (o0, .inl (kA 1, 1, .inr (.inl (vp_updL (fun _ => 0) 0 (n_cut (xs 2) (n_combine (xs 1) 1 (n_cut (xs 2) ((((xs 4).toInt64) <<< ((32 : Int32).toInt64 &&& 63)) ||| (((xs 5).toInt64) &&& 4294967295))) (n_cut (xs 3) ((((xs 6).toInt64) <<< ((32 : Int32).toInt64 &&& 63)) ||| (((xs 7).toInt64) &&& 4294967295))))))))), (m0, .inr (11, (y0.set 9 (.int 0))))] := hD
      refine lv_iload hx hb dL_law_1607 (lv_at hl 1 rfl) ?_
      refine lv_icmp_eq (tgt := 1614) hx hb dL_law_1609 (by decide) (fun c_12907 => ?_) (fun c_12907 => ?_)
      · skip
        refine lv_iload hx hb dL_law_1614 (lv_at hl 1 rfl) ?_
        refine lv_if_ne (tgt := 1630) hx hb dL_law_1616 (by decide) (fun c_12908 => ?_) (fun c_12908 => ?_)
        · exact absurd (by decide) c_12908
        · skip
          refine lv_aload_n hx hb dL_law_1619 rfl (lv_at hl 5 rfl) ?_
          refine lv_iconst (v := 0) hx hb dL_law_1620 (by decide) ?_
          refine va_lald hx hb hK hP 1 1 rfl rfl (show vp_in 0 1 by unfold vp_in; decide) dL_law_1621 ?_
          refine W.eq (g2 := F0 m 1622 ls [.long (n_cut (xs 2) (n_combine (xs 1) 1 (n_cut (xs 2) ((((xs 4).toInt64) <<< ((32 : Int32).toInt64 &&& 63)) ||| (((xs 5).toInt64) &&& 4294967295))) (n_cut (xs 3) ((((xs 6).toInt64) <<< ((32 : Int32).toInt64 &&& 63)) ||| (((xs 7).toInt64) &&& 4294967295)))))]) rfl ?_
          refine lv_lload hx hb dL_law_1622 (lv_at hl 0 rfl) ?_
          refine W.lcmp hx hb dL_law_1624 ?_
          refine lv_if_eq (tgt := 1630) hx hb dL_law_1625 (by decide) (fun c_12909 => ?_) (fun c_12909 => ?_)
          · skip
            refine lv_goto (tgt := 1804) hx hb dL_law_1630 (by decide) ?_
            exact lk_tail hC hA2 (lv_sub hl [2, 6] rfl) hS (Nat.le_of_ble_eq_true rfl) (Nat.le_of_ble_eq_true rfl)
          · exact absurd ((lg_cmp_eq _ _).mpr (qx_w1 c_145 c_12535 (fun q => q.1.elim (fun z => absurd (c_12545.symm.trans z) (by decide)) (fun z => absurd (c_12545.symm.trans z) (by decide))) (by rw [c_12545]; decide))) c_12909
      · exact absurd (by decide) c_12907
    · skip
      subst w_12568
      subst w_12569
      exact absurd c_12563 c_149
    · skip
      subst w_12587
      subst w_12588
      exact absurd c_12580 c_149
    · skip
      subst w_12606
      subst w_12607
      exact absurd c_12599 c_149
    · skip
      subst w_12623
      subst w_12624
      exact absurd c_12618 c_149
    · skip
      subst w_12642
      subst w_12643
      exact absurd c_12635 c_149
    · skip
      subst w_12661
      subst w_12662
      exact absurd c_12654 c_149
    · skip
      subst w_12676
      subst w_12677
      exact absurd c_12672 c_148
    · skip
      subst w_12693
      subst w_12694
      exact absurd c_12687 c_148
    · skip
      subst w_12710
      subst w_12711
      exact absurd c_12704 c_148
    · skip
      subst w_12725
      subst w_12726
      exact absurd c_12721 c_148
    · skip
      subst w_12742
      subst w_12743
      exact absurd c_12736 c_148
    · skip
      subst w_12759
      subst w_12760
      exact absurd c_12753 c_148
    · skip
      subst w_12773
      subst w_12774
      exact absurd c_12772 c_150
    · skip
      subst w_12789
      subst w_12790
      exact absurd c_152 c_12788
    · skip
      subst w_12805
      subst w_12806
      obtain ⟨hP, hD⟩ := va_join (wr := [(h0, .inr (10, [.ref x0, .int 0, .ref x1, .ref x2, .ref x3, .ref x4, .ref x5, .ref x6, .ref x7, .ref x8, .int 0, .int 3000])), (o0, .inl (kA 1, 1, .inr (.inl (vp_updL (fun _ => 0) 0 (n_cut (xs 2) (n_combine (xs 1) 1 (n_cut (xs 2) ((((xs 4).toInt64) <<< ((32 : Int32).toInt64 &&& 63)) ||| (((xs 5).toInt64) &&& 4294967295))) (n_cut (xs 3) ((((xs 6).toInt64) <<< ((32 : Int32).toInt64 &&& 63)) ||| (((xs 7).toInt64) &&& 4294967295)))))))))]) (w1 := [(m0, .inr (11, y0.set 9 (.int 0)))]) hP hD [0] [1, 2] rfl rfl (by decide) (by decide) hk1 hFc hP1 hD1
      generalize H1 = H at hP hS ⊢
      have hP : va_P D vwCl [(h0, .inr (10, [.ref x0, .int 0, .ref x1, .ref x2, .ref x3, .ref x4, .ref x5, .ref x6, .ref x7, .ref x8, .int 0, .int 3000])), (o0, .inl (kA 1, 1, .inr (.inl (vp_updL (fun _ => 0) 0 (n_cut (xs 2) (n_combine (xs 1) 1 (n_cut (xs 2) ((((xs 4).toInt64) <<< ((32 : Int32).toInt64 &&& 63)) ||| (((xs 5).toInt64) &&& 4294967295))) (n_cut (xs 3) ((((xs 6).toInt64) <<< ((32 : Int32).toInt64 &&& 63)) ||| (((xs 7).toInt64) &&& 4294967295))))))))), (m0, .inr (11, y0.set 9 (.int 0)))] H := hP
      have hD : va_D A [(h0, .inr (10, [.ref x0, .int 0, .ref x1, .ref x2, .ref x3, .ref x4, .ref x5, .ref x6, .ref x7, .ref x8, .int 0, .int 3000])), (o0, .inl (kA 1, 1, .inr (.inl (vp_updL (fun _ => 0) 0 (n_cut (xs 2) (n_combine (xs 1) 1 (n_cut (xs 2) ((((xs 4).toInt64) <<< ((32 : Int32).toInt64 &&& 63)) ||| (((xs 5).toInt64) &&& 4294967295))) (n_cut (xs 3) ((((xs 6).toInt64) <<< ((32 : Int32).toInt64 &&& 63)) ||| (((xs 7).toInt64) &&& 4294967295))))))))), (m0, .inr (11, y0.set 9 (.int 0)))] := hD
      refine lv_lstore (lv' := [(6, .long (n_cut (xs 2) (r_two 242 1 (n_cut (xs 2) ((((xs 4).toInt64) <<< ((32 : Int32).toInt64 &&& 63)) ||| (((xs 5).toInt64) &&& 4294967295))) (n_cut (xs 3) ((((xs 6).toInt64) <<< ((32 : Int32).toInt64 &&& 63)) ||| (((xs 7).toInt64) &&& 4294967295)))))), (5, .int 0), (0, .ref b), (1, .ref h0), (2, .ref m0), (3, .ref o0), (4, .int 0)]) hx hb dL_law_1601 hl (by decide) rfl (fun ls hl => ?_)
      refine lv_aload_n hx hb dL_law_1603 rfl (lv_at hl 4 rfl) ?_
      have hPc := hP.sub (ws' := [(m0, .inr (11, y0.set 9 (.int 0)))]) [2] rfl
      have hDc := hD.sub (ws' := [(m0, .inr (11, y0.set 9 (.int 0)))]) [2] (by decide) rfl
      have hFc := va_free (wc := [(m0, .inr (11, y0.set 9 (.int 0)))]) hD hS hA [2] rfl
      refine va_calli (va_runV (As := []) (rest := []) ⟨hx, hb, hml, hown, hts⟩ (a94_X12_thrown l  D kA V H.size m0 (y0.set 9 (.int 0)) (fun k hk => (by rw [List.length_set]; exact (hq k hk))) (List.getElem?_set_self (hq 9 (by decide)))) (cwV 0 hts (gw_V gw_1879 gw_1880 gw_1881 gw_16 gw_1882) rfl rfl rfl (by decide +kernel) ⟨(Nat.le_of_ble_eq_true rfl), (Nat.le_of_ble_eq_true rfl)⟩) ⟨aP.blind, va_recv hK hP (ci := 11) (q0 := 2) rfl rfl, aP.pre hE hS hPc hK hDc hFc⟩ rfl rfl hl.1 rfl (lv_room (Nat.le_of_ble_eq_true rfl)) dL_law_1604 ⟨(Nat.le_of_ble_eq_true rfl), (Nat.le_of_ble_eq_true rfl)⟩) hS (fun q _ h => hFc q h) hFc (fun r_12910 u t H1 locs ht hvm hw hB hz1 hk1 hS => ?_)
      obtain ⟨hP1, hD1⟩ := hB
      rw [ht] at hP1
      try dsimp only at hw hP1 hD1
      have w_12911 := hw
      subst w_12911
      obtain ⟨hP, hD⟩ := va_join (wr := [(h0, .inr (10, [.ref x0, .int 0, .ref x1, .ref x2, .ref x3, .ref x4, .ref x5, .ref x6, .ref x7, .ref x8, .int 0, .int 3000])), (o0, .inl (kA 1, 1, .inr (.inl (vp_updL (fun _ => 0) 0 (n_cut (xs 2) (n_combine (xs 1) 1 (n_cut (xs 2) ((((xs 4).toInt64) <<< ((32 : Int32).toInt64 &&& 63)) ||| (((xs 5).toInt64) &&& 4294967295))) (n_cut (xs 3) ((((xs 6).toInt64) <<< ((32 : Int32).toInt64 &&& 63)) ||| (((xs 7).toInt64) &&& 4294967295)))))))))]) (w1 := [(m0, .inr (11, (y0.set 9 (.int 0))))]) hP hD [2] [0, 1] rfl rfl (by decide) (by decide) hk1 hFc hP1 hD1
      generalize H1 = H at hP hS ⊢
      have hP : va_P D vwCl [(h0, .inr (10, [.ref x0, .int 0, .ref x1, .ref x2, .ref x3, .ref x4, .ref x5, .ref x6, .ref x7, .ref x8, .int 0, .int 3000])), (o0, .inl (kA 1, 1, .inr (.inl (vp_updL (fun _ => 0) 0 (n_cut (xs 2) (n_combine (xs 1) 1 (n_cut (xs 2) ((((xs 4).toInt64) <<< ((32 : Int32).toInt64 &&& 63)) ||| (((xs 5).toInt64) &&& 4294967295))) (n_cut (xs 3) ((((xs 6).toInt64) <<< ((32 : Int32).toInt64 &&& 63)) ||| (((xs 7).toInt64) &&& 4294967295))))))))), (m0, .inr (11, (y0.set 9 (.int 0))))] H := hP
      have hD : va_D A [(h0, .inr (10, [.ref x0, .int 0, .ref x1, .ref x2, .ref x3, .ref x4, .ref x5, .ref x6, .ref x7, .ref x8, .int 0, .int 3000])), (o0, .inl (kA 1, 1, .inr (.inl (vp_updL (fun _ => 0) 0 (n_cut (xs 2) (n_combine (xs 1) 1 (n_cut (xs 2) ((((xs 4).toInt64) <<< ((32 : Int32).toInt64 &&& 63)) ||| (((xs 5).toInt64) &&& 4294967295))) (n_cut (xs 3) ((((xs 6).toInt64) <<< ((32 : Int32).toInt64 &&& 63)) ||| (((xs 7).toInt64) &&& 4294967295))))))))), (m0, .inr (11, (y0.set 9 (.int 0))))] := hD
      refine lv_iload hx hb dL_law_1607 (lv_at hl 1 rfl) ?_
      refine lv_icmp_eq (tgt := 1614) hx hb dL_law_1609 (by decide) (fun c_12912 => ?_) (fun c_12912 => ?_)
      · skip
        refine lv_iload hx hb dL_law_1614 (lv_at hl 1 rfl) ?_
        refine lv_if_ne (tgt := 1630) hx hb dL_law_1616 (by decide) (fun c_12913 => ?_) (fun c_12913 => ?_)
        · exact absurd (by decide) c_12913
        · skip
          refine lv_aload_n hx hb dL_law_1619 rfl (lv_at hl 5 rfl) ?_
          refine lv_iconst (v := 0) hx hb dL_law_1620 (by decide) ?_
          refine va_lald hx hb hK hP 1 1 rfl rfl (show vp_in 0 1 by unfold vp_in; decide) dL_law_1621 ?_
          refine W.eq (g2 := F0 m 1622 ls [.long (n_cut (xs 2) (n_combine (xs 1) 1 (n_cut (xs 2) ((((xs 4).toInt64) <<< ((32 : Int32).toInt64 &&& 63)) ||| (((xs 5).toInt64) &&& 4294967295))) (n_cut (xs 3) ((((xs 6).toInt64) <<< ((32 : Int32).toInt64 &&& 63)) ||| (((xs 7).toInt64) &&& 4294967295)))))]) rfl ?_
          refine lv_lload hx hb dL_law_1622 (lv_at hl 0 rfl) ?_
          refine W.lcmp hx hb dL_law_1624 ?_
          refine lv_if_eq (tgt := 1630) hx hb dL_law_1625 (by decide) (fun c_12914 => ?_) (fun c_12914 => ?_)
          · skip
            refine lv_goto (tgt := 1804) hx hb dL_law_1630 (by decide) ?_
            exact lk_tail hC hA2 (lv_sub hl [2, 6] rfl) hS (Nat.le_of_ble_eq_true rfl) (Nat.le_of_ble_eq_true rfl)
          · exact absurd ((lg_cmp_eq _ _).mpr (qx_w1 c_145 c_12792 (fun q => q.1.elim (fun z => absurd (c_12799.symm.trans z) (by decide)) (fun z => absurd (c_12799.symm.trans z) (by decide))) (by rw [c_12799]; decide))) c_12914
      · exact absurd (by decide) c_12912
    · skip
      subst w_12818
      subst w_12819
      exact absurd c_12817 c_150
    · skip
      subst w_12833
      subst w_12834
      exact absurd c_152 c_12832
    · skip
      subst w_12848
      subst w_12849
      obtain ⟨hP, hD⟩ := va_join (wr := [(h0, .inr (10, [.ref x0, .int 0, .ref x1, .ref x2, .ref x3, .ref x4, .ref x5, .ref x6, .ref x7, .ref x8, .int 0, .int 3000])), (o0, .inl (kA 1, 1, .inr (.inl (vp_updL (fun _ => 0) 0 (n_cut (xs 2) (n_combine (xs 1) 1 (n_cut (xs 2) ((((xs 4).toInt64) <<< ((32 : Int32).toInt64 &&& 63)) ||| (((xs 5).toInt64) &&& 4294967295))) (n_cut (xs 3) ((((xs 6).toInt64) <<< ((32 : Int32).toInt64 &&& 63)) ||| (((xs 7).toInt64) &&& 4294967295)))))))))]) (w1 := [(m0, .inr (11, y0.set 9 (.int 0)))]) hP hD [0] [1, 2] rfl rfl (by decide) (by decide) hk1 hFc hP1 hD1
      generalize H1 = H at hP hS ⊢
      have hP : va_P D vwCl [(h0, .inr (10, [.ref x0, .int 0, .ref x1, .ref x2, .ref x3, .ref x4, .ref x5, .ref x6, .ref x7, .ref x8, .int 0, .int 3000])), (o0, .inl (kA 1, 1, .inr (.inl (vp_updL (fun _ => 0) 0 (n_cut (xs 2) (n_combine (xs 1) 1 (n_cut (xs 2) ((((xs 4).toInt64) <<< ((32 : Int32).toInt64 &&& 63)) ||| (((xs 5).toInt64) &&& 4294967295))) (n_cut (xs 3) ((((xs 6).toInt64) <<< ((32 : Int32).toInt64 &&& 63)) ||| (((xs 7).toInt64) &&& 4294967295))))))))), (m0, .inr (11, y0.set 9 (.int 0)))] H := hP
      have hD : va_D A [(h0, .inr (10, [.ref x0, .int 0, .ref x1, .ref x2, .ref x3, .ref x4, .ref x5, .ref x6, .ref x7, .ref x8, .int 0, .int 3000])), (o0, .inl (kA 1, 1, .inr (.inl (vp_updL (fun _ => 0) 0 (n_cut (xs 2) (n_combine (xs 1) 1 (n_cut (xs 2) ((((xs 4).toInt64) <<< ((32 : Int32).toInt64 &&& 63)) ||| (((xs 5).toInt64) &&& 4294967295))) (n_cut (xs 3) ((((xs 6).toInt64) <<< ((32 : Int32).toInt64 &&& 63)) ||| (((xs 7).toInt64) &&& 4294967295))))))))), (m0, .inr (11, y0.set 9 (.int 0)))] := hD
      refine lv_lstore (lv' := [(6, .long (n_cut (xs 2) (r_two 241 1 (n_cut (xs 2) ((((xs 4).toInt64) <<< ((32 : Int32).toInt64 &&& 63)) ||| (((xs 5).toInt64) &&& 4294967295))) (n_cut (xs 3) ((((xs 6).toInt64) <<< ((32 : Int32).toInt64 &&& 63)) ||| (((xs 7).toInt64) &&& 4294967295)))))), (5, .int 0), (0, .ref b), (1, .ref h0), (2, .ref m0), (3, .ref o0), (4, .int 0)]) hx hb dL_law_1601 hl (by decide) rfl (fun ls hl => ?_)
      refine lv_aload_n hx hb dL_law_1603 rfl (lv_at hl 4 rfl) ?_
      have hPc := hP.sub (ws' := [(m0, .inr (11, y0.set 9 (.int 0)))]) [2] rfl
      have hDc := hD.sub (ws' := [(m0, .inr (11, y0.set 9 (.int 0)))]) [2] (by decide) rfl
      have hFc := va_free (wc := [(m0, .inr (11, y0.set 9 (.int 0)))]) hD hS hA [2] rfl
      refine va_calli (va_runV (As := []) (rest := []) ⟨hx, hb, hml, hown, hts⟩ (a94_X12_thrown l  D kA V H.size m0 (y0.set 9 (.int 0)) (fun k hk => (by rw [List.length_set]; exact (hq k hk))) (List.getElem?_set_self (hq 9 (by decide)))) (cwV 0 hts (gw_V gw_1879 gw_1880 gw_1881 gw_16 gw_1882) rfl rfl rfl (by decide +kernel) ⟨(Nat.le_of_ble_eq_true rfl), (Nat.le_of_ble_eq_true rfl)⟩) ⟨aP.blind, va_recv hK hP (ci := 11) (q0 := 2) rfl rfl, aP.pre hE hS hPc hK hDc hFc⟩ rfl rfl hl.1 rfl (lv_room (Nat.le_of_ble_eq_true rfl)) dL_law_1604 ⟨(Nat.le_of_ble_eq_true rfl), (Nat.le_of_ble_eq_true rfl)⟩) hS (fun q _ h => hFc q h) hFc (fun r_12915 u t H1 locs ht hvm hw hB hz1 hk1 hS => ?_)
      obtain ⟨hP1, hD1⟩ := hB
      rw [ht] at hP1
      try dsimp only at hw hP1 hD1
      have w_12916 := hw
      subst w_12916
      obtain ⟨hP, hD⟩ := va_join (wr := [(h0, .inr (10, [.ref x0, .int 0, .ref x1, .ref x2, .ref x3, .ref x4, .ref x5, .ref x6, .ref x7, .ref x8, .int 0, .int 3000])), (o0, .inl (kA 1, 1, .inr (.inl (vp_updL (fun _ => 0) 0 (n_cut (xs 2) (n_combine (xs 1) 1 (n_cut (xs 2) ((((xs 4).toInt64) <<< ((32 : Int32).toInt64 &&& 63)) ||| (((xs 5).toInt64) &&& 4294967295))) (n_cut (xs 3) ((((xs 6).toInt64) <<< ((32 : Int32).toInt64 &&& 63)) ||| (((xs 7).toInt64) &&& 4294967295)))))))))]) (w1 := [(m0, .inr (11, (y0.set 9 (.int 0))))]) hP hD [2] [0, 1] rfl rfl (by decide) (by decide) hk1 hFc hP1 hD1
      generalize H1 = H at hP hS ⊢
      have hP : va_P D vwCl [(h0, .inr (10, [.ref x0, .int 0, .ref x1, .ref x2, .ref x3, .ref x4, .ref x5, .ref x6, .ref x7, .ref x8, .int 0, .int 3000])), (o0, .inl (kA 1, 1, .inr (.inl (vp_updL (fun _ => 0) 0 (n_cut (xs 2) (n_combine (xs 1) 1 (n_cut (xs 2) ((((xs 4).toInt64) <<< ((32 : Int32).toInt64 &&& 63)) ||| (((xs 5).toInt64) &&& 4294967295))) (n_cut (xs 3) ((((xs 6).toInt64) <<< ((32 : Int32).toInt64 &&& 63)) ||| (((xs 7).toInt64) &&& 4294967295))))))))), (m0, .inr (11, (y0.set 9 (.int 0))))] H := hP
      have hD : va_D A [(h0, .inr (10, [.ref x0, .int 0, .ref x1, .ref x2, .ref x3, .ref x4, .ref x5, .ref x6, .ref x7, .ref x8, .int 0, .int 3000])), (o0, .inl (kA 1, 1, .inr (.inl (vp_updL (fun _ => 0) 0 (n_cut (xs 2) (n_combine (xs 1) 1 (n_cut (xs 2) ((((xs 4).toInt64) <<< ((32 : Int32).toInt64 &&& 63)) ||| (((xs 5).toInt64) &&& 4294967295))) (n_cut (xs 3) ((((xs 6).toInt64) <<< ((32 : Int32).toInt64 &&& 63)) ||| (((xs 7).toInt64) &&& 4294967295))))))))), (m0, .inr (11, (y0.set 9 (.int 0))))] := hD
      refine lv_iload hx hb dL_law_1607 (lv_at hl 1 rfl) ?_
      refine lv_icmp_eq (tgt := 1614) hx hb dL_law_1609 (by decide) (fun c_12917 => ?_) (fun c_12917 => ?_)
      · skip
        refine lv_iload hx hb dL_law_1614 (lv_at hl 1 rfl) ?_
        refine lv_if_ne (tgt := 1630) hx hb dL_law_1616 (by decide) (fun c_12918 => ?_) (fun c_12918 => ?_)
        · exact absurd (by decide) c_12918
        · skip
          refine lv_aload_n hx hb dL_law_1619 rfl (lv_at hl 5 rfl) ?_
          refine lv_iconst (v := 0) hx hb dL_law_1620 (by decide) ?_
          refine va_lald hx hb hK hP 1 1 rfl rfl (show vp_in 0 1 by unfold vp_in; decide) dL_law_1621 ?_
          refine W.eq (g2 := F0 m 1622 ls [.long (n_cut (xs 2) (n_combine (xs 1) 1 (n_cut (xs 2) ((((xs 4).toInt64) <<< ((32 : Int32).toInt64 &&& 63)) ||| (((xs 5).toInt64) &&& 4294967295))) (n_cut (xs 3) ((((xs 6).toInt64) <<< ((32 : Int32).toInt64 &&& 63)) ||| (((xs 7).toInt64) &&& 4294967295)))))]) rfl ?_
          refine lv_lload hx hb dL_law_1622 (lv_at hl 0 rfl) ?_
          refine W.lcmp hx hb dL_law_1624 ?_
          refine lv_if_eq (tgt := 1630) hx hb dL_law_1625 (by decide) (fun c_12919 => ?_) (fun c_12919 => ?_)
          · skip
            refine lv_goto (tgt := 1804) hx hb dL_law_1630 (by decide) ?_
            exact lk_tail hC hA2 (lv_sub hl [2, 6] rfl) hS (Nat.le_of_ble_eq_true rfl) (Nat.le_of_ble_eq_true rfl)
          · exact absurd ((lg_cmp_eq _ _).mpr (qx_w1 c_145 c_12836 (fun q => q.1.elim (fun z => absurd (c_12842.symm.trans z) (by decide)) (fun z => absurd (c_12842.symm.trans z) (by decide))) (by rw [c_12842]; decide))) c_12919
      · exact absurd (by decide) c_12917
    · skip
      subst w_12860
      subst w_12861
      exact absurd c_12859 c_150
    · skip
      subst w_12874
      subst w_12875
      exact absurd c_152 c_12873
    · skip
      subst w_12888
      subst w_12889
      obtain ⟨hP, hD⟩ := va_join (wr := [(h0, .inr (10, [.ref x0, .int 0, .ref x1, .ref x2, .ref x3, .ref x4, .ref x5, .ref x6, .ref x7, .ref x8, .int 0, .int 3000])), (o0, .inl (kA 1, 1, .inr (.inl (vp_updL (fun _ => 0) 0 (n_cut (xs 2) (n_combine (xs 1) 1 (n_cut (xs 2) ((((xs 4).toInt64) <<< ((32 : Int32).toInt64 &&& 63)) ||| (((xs 5).toInt64) &&& 4294967295))) (n_cut (xs 3) ((((xs 6).toInt64) <<< ((32 : Int32).toInt64 &&& 63)) ||| (((xs 7).toInt64) &&& 4294967295)))))))))]) (w1 := [(m0, .inr (11, y0.set 9 (.int 0)))]) hP hD [0] [1, 2] rfl rfl (by decide) (by decide) hk1 hFc hP1 hD1
      generalize H1 = H at hP hS ⊢
      have hP : va_P D vwCl [(h0, .inr (10, [.ref x0, .int 0, .ref x1, .ref x2, .ref x3, .ref x4, .ref x5, .ref x6, .ref x7, .ref x8, .int 0, .int 3000])), (o0, .inl (kA 1, 1, .inr (.inl (vp_updL (fun _ => 0) 0 (n_cut (xs 2) (n_combine (xs 1) 1 (n_cut (xs 2) ((((xs 4).toInt64) <<< ((32 : Int32).toInt64 &&& 63)) ||| (((xs 5).toInt64) &&& 4294967295))) (n_cut (xs 3) ((((xs 6).toInt64) <<< ((32 : Int32).toInt64 &&& 63)) ||| (((xs 7).toInt64) &&& 4294967295))))))))), (m0, .inr (11, y0.set 9 (.int 0)))] H := hP
      have hD : va_D A [(h0, .inr (10, [.ref x0, .int 0, .ref x1, .ref x2, .ref x3, .ref x4, .ref x5, .ref x6, .ref x7, .ref x8, .int 0, .int 3000])), (o0, .inl (kA 1, 1, .inr (.inl (vp_updL (fun _ => 0) 0 (n_cut (xs 2) (n_combine (xs 1) 1 (n_cut (xs 2) ((((xs 4).toInt64) <<< ((32 : Int32).toInt64 &&& 63)) ||| (((xs 5).toInt64) &&& 4294967295))) (n_cut (xs 3) ((((xs 6).toInt64) <<< ((32 : Int32).toInt64 &&& 63)) ||| (((xs 7).toInt64) &&& 4294967295))))))))), (m0, .inr (11, y0.set 9 (.int 0)))] := hD
      refine lv_lstore (lv' := [(6, .long (n_cut (xs 2) (r_two 240 1 (n_cut (xs 2) ((((xs 4).toInt64) <<< ((32 : Int32).toInt64 &&& 63)) ||| (((xs 5).toInt64) &&& 4294967295))) (n_cut (xs 3) ((((xs 6).toInt64) <<< ((32 : Int32).toInt64 &&& 63)) ||| (((xs 7).toInt64) &&& 4294967295)))))), (5, .int 0), (0, .ref b), (1, .ref h0), (2, .ref m0), (3, .ref o0), (4, .int 0)]) hx hb dL_law_1601 hl (by decide) rfl (fun ls hl => ?_)
      refine lv_aload_n hx hb dL_law_1603 rfl (lv_at hl 4 rfl) ?_
      have hPc := hP.sub (ws' := [(m0, .inr (11, y0.set 9 (.int 0)))]) [2] rfl
      have hDc := hD.sub (ws' := [(m0, .inr (11, y0.set 9 (.int 0)))]) [2] (by decide) rfl
      have hFc := va_free (wc := [(m0, .inr (11, y0.set 9 (.int 0)))]) hD hS hA [2] rfl
      refine va_calli (va_runV (As := []) (rest := []) ⟨hx, hb, hml, hown, hts⟩ (a94_X12_thrown l  D kA V H.size m0 (y0.set 9 (.int 0)) (fun k hk => (by rw [List.length_set]; exact (hq k hk))) (List.getElem?_set_self (hq 9 (by decide)))) (cwV 0 hts (gw_V gw_1879 gw_1880 gw_1881 gw_16 gw_1882) rfl rfl rfl (by decide +kernel) ⟨(Nat.le_of_ble_eq_true rfl), (Nat.le_of_ble_eq_true rfl)⟩) ⟨aP.blind, va_recv hK hP (ci := 11) (q0 := 2) rfl rfl, aP.pre hE hS hPc hK hDc hFc⟩ rfl rfl hl.1 rfl (lv_room (Nat.le_of_ble_eq_true rfl)) dL_law_1604 ⟨(Nat.le_of_ble_eq_true rfl), (Nat.le_of_ble_eq_true rfl)⟩) hS (fun q _ h => hFc q h) hFc (fun r_12920 u t H1 locs ht hvm hw hB hz1 hk1 hS => ?_)
      obtain ⟨hP1, hD1⟩ := hB
      rw [ht] at hP1
      try dsimp only at hw hP1 hD1
      have w_12921 := hw
      subst w_12921
      obtain ⟨hP, hD⟩ := va_join (wr := [(h0, .inr (10, [.ref x0, .int 0, .ref x1, .ref x2, .ref x3, .ref x4, .ref x5, .ref x6, .ref x7, .ref x8, .int 0, .int 3000])), (o0, .inl (kA 1, 1, .inr (.inl (vp_updL (fun _ => 0) 0 (n_cut (xs 2) (n_combine (xs 1) 1 (n_cut (xs 2) ((((xs 4).toInt64) <<< ((32 : Int32).toInt64 &&& 63)) ||| (((xs 5).toInt64) &&& 4294967295))) (n_cut (xs 3) ((((xs 6).toInt64) <<< ((32 : Int32).toInt64 &&& 63)) ||| (((xs 7).toInt64) &&& 4294967295)))))))))]) (w1 := [(m0, .inr (11, (y0.set 9 (.int 0))))]) hP hD [2] [0, 1] rfl rfl (by decide) (by decide) hk1 hFc hP1 hD1
      generalize H1 = H at hP hS ⊢
      have hP : va_P D vwCl [(h0, .inr (10, [.ref x0, .int 0, .ref x1, .ref x2, .ref x3, .ref x4, .ref x5, .ref x6, .ref x7, .ref x8, .int 0, .int 3000])), (o0, .inl (kA 1, 1, .inr (.inl (vp_updL (fun _ => 0) 0 (n_cut (xs 2) (n_combine (xs 1) 1 (n_cut (xs 2) ((((xs 4).toInt64) <<< ((32 : Int32).toInt64 &&& 63)) ||| (((xs 5).toInt64) &&& 4294967295))) (n_cut (xs 3) ((((xs 6).toInt64) <<< ((32 : Int32).toInt64 &&& 63)) ||| (((xs 7).toInt64) &&& 4294967295))))))))), (m0, .inr (11, (y0.set 9 (.int 0))))] H := hP
      have hD : va_D A [(h0, .inr (10, [.ref x0, .int 0, .ref x1, .ref x2, .ref x3, .ref x4, .ref x5, .ref x6, .ref x7, .ref x8, .int 0, .int 3000])), (o0, .inl (kA 1, 1, .inr (.inl (vp_updL (fun _ => 0) 0 (n_cut (xs 2) (n_combine (xs 1) 1 (n_cut (xs 2) ((((xs 4).toInt64) <<< ((32 : Int32).toInt64 &&& 63)) ||| (((xs 5).toInt64) &&& 4294967295))) (n_cut (xs 3) ((((xs 6).toInt64) <<< ((32 : Int32).toInt64 &&& 63)) ||| (((xs 7).toInt64) &&& 4294967295))))))))), (m0, .inr (11, (y0.set 9 (.int 0))))] := hD
      refine lv_iload hx hb dL_law_1607 (lv_at hl 1 rfl) ?_
      refine lv_icmp_eq (tgt := 1614) hx hb dL_law_1609 (by decide) (fun c_12922 => ?_) (fun c_12922 => ?_)
      · skip
        refine lv_iload hx hb dL_law_1614 (lv_at hl 1 rfl) ?_
        refine lv_if_ne (tgt := 1630) hx hb dL_law_1616 (by decide) (fun c_12923 => ?_) (fun c_12923 => ?_)
        · exact absurd (by decide) c_12923
        · skip
          refine lv_aload_n hx hb dL_law_1619 rfl (lv_at hl 5 rfl) ?_
          refine lv_iconst (v := 0) hx hb dL_law_1620 (by decide) ?_
          refine va_lald hx hb hK hP 1 1 rfl rfl (show vp_in 0 1 by unfold vp_in; decide) dL_law_1621 ?_
          refine W.eq (g2 := F0 m 1622 ls [.long (n_cut (xs 2) (n_combine (xs 1) 1 (n_cut (xs 2) ((((xs 4).toInt64) <<< ((32 : Int32).toInt64 &&& 63)) ||| (((xs 5).toInt64) &&& 4294967295))) (n_cut (xs 3) ((((xs 6).toInt64) <<< ((32 : Int32).toInt64 &&& 63)) ||| (((xs 7).toInt64) &&& 4294967295)))))]) rfl ?_
          refine lv_lload hx hb dL_law_1622 (lv_at hl 0 rfl) ?_
          refine W.lcmp hx hb dL_law_1624 ?_
          refine lv_if_eq (tgt := 1630) hx hb dL_law_1625 (by decide) (fun c_12924 => ?_) (fun c_12924 => ?_)
          · skip
            refine lv_goto (tgt := 1804) hx hb dL_law_1630 (by decide) ?_
            exact lk_tail hC hA2 (lv_sub hl [2, 6] rfl) hS (Nat.le_of_ble_eq_true rfl) (Nat.le_of_ble_eq_true rfl)
          · exact absurd ((lg_cmp_eq _ _).mpr (qx_w1 c_145 c_12877 (fun q => q.1.elim (fun z => absurd (c_12882.symm.trans z) (by decide)) (fun z => absurd (c_12882.symm.trans z) (by decide))) (by rw [c_12882]; decide))) c_12924
      · exact absurd (by decide) c_12922
