theorem dL_law_1633 : decode cL_law 1633 = .ok (.aload_n 1, 1) := by decide +kernel
theorem dL_law_1634 : decode cL_law 1634 = .ok (.aload_n 0, 1) := by decide +kernel
theorem dL_law_1635 : decode cL_law 1635 = .ok (.iload 4, 2) := by decide +kernel
theorem dL_law_1637 : decode cL_law 1637 = .ok (.iconst 1, 1) := by decide +kernel
theorem dL_law_1638 : decode cL_law 1638 = .ok (.iadd, 1) := by decide +kernel
theorem dL_law_1639 : decode cL_law 1639 = .ok (.iaload, 1) := by decide +kernel
theorem dL_law_1640 : decode cL_law 1640 = .ok (.aload_n 0, 1) := by decide +kernel
theorem dL_law_1641 : decode cL_law 1641 = .ok (.iload 4, 2) := by decide +kernel
theorem dL_law_1643 : decode cL_law 1643 = .ok (.iconst 2, 1) := by decide +kernel
theorem dL_law_1644 : decode cL_law 1644 = .ok (.iadd, 1) := by decide +kernel
theorem dL_law_1645 : decode cL_law 1645 = .ok (.iaload, 1) := by decide +kernel
theorem dL_law_1646 : decode cL_law 1646 = .ok (.aload_n 0, 1) := by decide +kernel
theorem dL_law_1647 : decode cL_law 1647 = .ok (.iload 4, 2) := by decide +kernel
theorem dL_law_1649 : decode cL_law 1649 = .ok (.iconst 3, 1) := by decide +kernel
theorem dL_law_1650 : decode cL_law 1650 = .ok (.iadd, 1) := by decide +kernel
theorem dL_law_1651 : decode cL_law 1651 = .ok (.iaload, 1) := by decide +kernel
theorem dL_law_1652 : decode cL_law 1652 = .ok (.aload_n 0, 1) := by decide +kernel
theorem dL_law_1653 : decode cL_law 1653 = .ok (.iload 4, 2) := by decide +kernel
theorem dL_law_1655 : decode cL_law 1655 = .ok (.iconst 4, 1) := by decide +kernel
theorem dL_law_1656 : decode cL_law 1656 = .ok (.iadd, 1) := by decide +kernel
theorem dL_law_1657 : decode cL_law 1657 = .ok (.iaload, 1) := by decide +kernel
theorem dL_law_1658 : decode cL_law 1658 = .ok (.i2l, 1) := by decide +kernel
theorem dL_law_1659 : decode cL_law 1659 = .ok (.bipush 32, 2) := by decide +kernel
theorem dL_law_1661 : decode cL_law 1661 = .ok (.lshl, 1) := by decide +kernel
theorem dL_law_1662 : decode cL_law 1662 = .ok (.aload_n 0, 1) := by decide +kernel
theorem dL_law_1663 : decode cL_law 1663 = .ok (.iload 4, 2) := by decide +kernel
theorem dL_law_1665 : decode cL_law 1665 = .ok (.iconst 5, 1) := by decide +kernel
theorem dL_law_1666 : decode cL_law 1666 = .ok (.iadd, 1) := by decide +kernel
theorem dL_law_1667 : decode cL_law 1667 = .ok (.iaload, 1) := by decide +kernel
theorem dL_law_1668 : decode cL_law 1668 = .ok (.i2l, 1) := by decide +kernel
theorem dL_law_1669 : decode cL_law 1669 = .ok (.ldc2_w 148, 3) := by decide +kernel
theorem dL_law_1672 : decode cL_law 1672 = .ok (.land, 1) := by decide +kernel
theorem dL_law_1673 : decode cL_law 1673 = .ok (.lor, 1) := by decide +kernel
theorem dL_law_1674 : decode cL_law 1674 = .ok (.aload_n 0, 1) := by decide +kernel
theorem dL_law_1675 : decode cL_law 1675 = .ok (.iload 4, 2) := by decide +kernel
theorem dL_law_1677 : decode cL_law 1677 = .ok (.bipush 6, 2) := by decide +kernel
theorem dL_law_1679 : decode cL_law 1679 = .ok (.iadd, 1) := by decide +kernel
theorem dL_law_1680 : decode cL_law 1680 = .ok (.iaload, 1) := by decide +kernel
theorem dL_law_1681 : decode cL_law 1681 = .ok (.i2l, 1) := by decide +kernel
theorem dL_law_1682 : decode cL_law 1682 = .ok (.bipush 32, 2) := by decide +kernel
theorem dL_law_1684 : decode cL_law 1684 = .ok (.lshl, 1) := by decide +kernel
theorem dL_law_1685 : decode cL_law 1685 = .ok (.aload_n 0, 1) := by decide +kernel
theorem dL_law_1686 : decode cL_law 1686 = .ok (.iload 4, 2) := by decide +kernel
theorem dL_law_1688 : decode cL_law 1688 = .ok (.bipush 7, 2) := by decide +kernel
theorem dL_law_1690 : decode cL_law 1690 = .ok (.iadd, 1) := by decide +kernel
theorem dL_law_1691 : decode cL_law 1691 = .ok (.iaload, 1) := by decide +kernel
theorem dL_law_1692 : decode cL_law 1692 = .ok (.i2l, 1) := by decide +kernel
theorem dL_law_1693 : decode cL_law 1693 = .ok (.ldc2_w 148, 3) := by decide +kernel
theorem dL_law_1696 : decode cL_law 1696 = .ok (.land, 1) := by decide +kernel
theorem dL_law_1697 : decode cL_law 1697 = .ok (.lor, 1) := by decide +kernel
theorem dL_law_1698 : decode cL_law 1698 = .ok (.aload_n 3, 1) := by decide +kernel
theorem dL_law_1699 : decode cL_law 1699 = .ok (.invokestatic 187, 3) := by decide +kernel
theorem dL_law_1702 : decode cL_law 1702 = .ok (.istore 5, 2) := by decide +kernel
theorem dL_law_1704 : decode cL_law 1704 = .ok (.aload_n 2, 1) := by decide +kernel
theorem dL_law_1705 : decode cL_law 1705 = .ok (.aload_n 0, 1) := by decide +kernel
theorem dL_law_1706 : decode cL_law 1706 = .ok (.iload 4, 2) := by decide +kernel
theorem dL_law_1708 : decode cL_law 1708 = .ok (.iconst 1, 1) := by decide +kernel
theorem dL_law_1709 : decode cL_law 1709 = .ok (.iadd, 1) := by decide +kernel
theorem dL_law_1710 : decode cL_law 1710 = .ok (.iaload, 1) := by decide +kernel
theorem dL_law_1711 : decode cL_law 1711 = .ok (.aload_n 0, 1) := by decide +kernel
theorem dL_law_1712 : decode cL_law 1712 = .ok (.iload 4, 2) := by decide +kernel
theorem dL_law_1714 : decode cL_law 1714 = .ok (.iconst 2, 1) := by decide +kernel
theorem dL_law_1715 : decode cL_law 1715 = .ok (.iadd, 1) := by decide +kernel
theorem dL_law_1716 : decode cL_law 1716 = .ok (.iaload, 1) := by decide +kernel
theorem dL_law_1717 : decode cL_law 1717 = .ok (.aload_n 0, 1) := by decide +kernel
theorem dL_law_1718 : decode cL_law 1718 = .ok (.iload 4, 2) := by decide +kernel
theorem dL_law_1720 : decode cL_law 1720 = .ok (.iconst 3, 1) := by decide +kernel
theorem dL_law_1721 : decode cL_law 1721 = .ok (.iadd, 1) := by decide +kernel
theorem dL_law_1722 : decode cL_law 1722 = .ok (.iaload, 1) := by decide +kernel
theorem dL_law_1723 : decode cL_law 1723 = .ok (.aload_n 0, 1) := by decide +kernel
theorem dL_law_1724 : decode cL_law 1724 = .ok (.iload 4, 2) := by decide +kernel
theorem dL_law_1726 : decode cL_law 1726 = .ok (.iconst 4, 1) := by decide +kernel
theorem dL_law_1727 : decode cL_law 1727 = .ok (.iadd, 1) := by decide +kernel
theorem dL_law_1728 : decode cL_law 1728 = .ok (.iaload, 1) := by decide +kernel
theorem dL_law_1729 : decode cL_law 1729 = .ok (.i2l, 1) := by decide +kernel
theorem dL_law_1730 : decode cL_law 1730 = .ok (.bipush 32, 2) := by decide +kernel
theorem dL_law_1732 : decode cL_law 1732 = .ok (.lshl, 1) := by decide +kernel
theorem dL_law_1733 : decode cL_law 1733 = .ok (.aload_n 0, 1) := by decide +kernel
theorem dL_law_1734 : decode cL_law 1734 = .ok (.iload 4, 2) := by decide +kernel
theorem dL_law_1736 : decode cL_law 1736 = .ok (.iconst 5, 1) := by decide +kernel
theorem dL_law_1737 : decode cL_law 1737 = .ok (.iadd, 1) := by decide +kernel
theorem dL_law_1738 : decode cL_law 1738 = .ok (.iaload, 1) := by decide +kernel
theorem dL_law_1739 : decode cL_law 1739 = .ok (.i2l, 1) := by decide +kernel
theorem dL_law_1740 : decode cL_law 1740 = .ok (.ldc2_w 148, 3) := by decide +kernel
theorem dL_law_1743 : decode cL_law 1743 = .ok (.land, 1) := by decide +kernel
theorem dL_law_1744 : decode cL_law 1744 = .ok (.lor, 1) := by decide +kernel
theorem dL_law_1745 : decode cL_law 1745 = .ok (.aload_n 0, 1) := by decide +kernel
theorem dL_law_1746 : decode cL_law 1746 = .ok (.iload 4, 2) := by decide +kernel
theorem dL_law_1748 : decode cL_law 1748 = .ok (.bipush 6, 2) := by decide +kernel
theorem dL_law_1750 : decode cL_law 1750 = .ok (.iadd, 1) := by decide +kernel
theorem dL_law_1751 : decode cL_law 1751 = .ok (.iaload, 1) := by decide +kernel
theorem dL_law_1752 : decode cL_law 1752 = .ok (.i2l, 1) := by decide +kernel
theorem dL_law_1753 : decode cL_law 1753 = .ok (.bipush 32, 2) := by decide +kernel
theorem dL_law_1755 : decode cL_law 1755 = .ok (.lshl, 1) := by decide +kernel
theorem dL_law_1756 : decode cL_law 1756 = .ok (.aload_n 0, 1) := by decide +kernel
theorem dL_law_1757 : decode cL_law 1757 = .ok (.iload 4, 2) := by decide +kernel
theorem dL_law_1759 : decode cL_law 1759 = .ok (.bipush 7, 2) := by decide +kernel
theorem dL_law_1761 : decode cL_law 1761 = .ok (.iadd, 1) := by decide +kernel
theorem dL_law_1762 : decode cL_law 1762 = .ok (.iaload, 1) := by decide +kernel
theorem dL_law_1763 : decode cL_law 1763 = .ok (.i2l, 1) := by decide +kernel
theorem dL_law_1764 : decode cL_law 1764 = .ok (.ldc2_w 148, 3) := by decide +kernel
theorem dL_law_1767 : decode cL_law 1767 = .ok (.land, 1) := by decide +kernel
theorem dL_law_1768 : decode cL_law 1768 = .ok (.lor, 1) := by decide +kernel
theorem dL_law_1769 : decode cL_law 1769 = .ok (.invokevirtual 189, 3) := by decide +kernel
theorem dL_law_1772 : decode cL_law 1772 = .ok (.lstore 6, 2) := by decide +kernel
theorem dL_law_1774 : decode cL_law 1774 = .ok (.aload_n 2, 1) := by decide +kernel
theorem dL_law_1775 : decode cL_law 1775 = .ok (.invokevirtual 116, 3) := by decide +kernel
theorem dL_law_1778 : decode cL_law 1778 = .ok (.iload 5, 2) := by decide +kernel
theorem dL_law_1780 : decode cL_law 1780 = .ok (.if_icmp .eq 5, 3) := by decide +kernel
theorem dL_law_1785 : decode cL_law 1785 = .ok (.iload 5, 2) := by decide +kernel
theorem dL_law_1787 : decode cL_law 1787 = .ok (.ifCond .ne 14, 3) := by decide +kernel
theorem dL_law_1790 : decode cL_law 1790 = .ok (.aload_n 3, 1) := by decide +kernel
theorem dL_law_1791 : decode cL_law 1791 = .ok (.iconst 0, 1) := by decide +kernel
theorem dL_law_1792 : decode cL_law 1792 = .ok (.laload, 1) := by decide +kernel
theorem dL_law_1793 : decode cL_law 1793 = .ok (.lload 6, 2) := by decide +kernel
theorem dL_law_1795 : decode cL_law 1795 = .ok (.lcmp, 1) := by decide +kernel
theorem dL_law_1796 : decode cL_law 1796 = .ok (.ifCond .eq 5, 3) := by decide +kernel
theorem dL_law_1801 : decode cL_law 1801 = .ok (.goto 3, 3) := by decide +kernel
set_option maxHeartbeats 4000000 in
set_option maxRecDepth 100000 in
theorem lk_23 {p : Program} {l : Launch} {e : Env} {s : State} {m : MethodId} {below : List Frame} {meth : Method} {c : Code} {D : va_G} {kA : Nat → ClassId} {V : Nat → Nat} {b : Nat} {xs : Nat → Int32} {A : Nat → Prop} (hC : lw_C p l s m meth c b 8 xs D kA V A) (hA2 : ∀ q, A q → s.heap.size ≤ q) (h0 : Nat) (m0 : Nat) (o0 : Nat) (x0 : Nat) (x1 : Nat) (x2 : Nat) (x3 : Nat) (x4 : Nat) (x5 : Nat) (x6 : Nat) (x7 : Nat) (x8 : Nat) (y0 : List Value) (hq : ∀ k, k < 121 → k < y0.length) (hq9 : y0[9]? = some (.int 0)) {H : Heap} {locs : List Loc} {ls : Array Slot} (hl : lv_has ls 8 [(0, .ref b), (1, .ref h0), (2, .ref m0), (3, .ref o0), (4, .int 0)]) (hS : va_S A s.heap H locs) (hP : va_P D vwCl [(h0, .inr (10, [.ref x0, .int 0, .ref x1, .ref x2, .ref x3, .ref x4, .ref x5, .ref x6, .ref x7, .ref x8, .int 0, .int 3000])), (m0, .inr (11, y0)), (o0, .inl (kA 1, 1, .inr (.inl (fun _ => 0))))] H) (hD : va_D A [(h0, .inr (10, [.ref x0, .int 0, .ref x1, .ref x2, .ref x3, .ref x4, .ref x5, .ref x6, .ref x7, .ref x8, .int 0, .int 3000])), (m0, .inr (11, y0)), (o0, .inl (kA 1, 1, .inr (.inl (fun _ => 0))))]) : W p l e room_1 s m #[Value.ref b] below meth c H locs 514 172793 (lw_Z below #[Value.ref b] s) (F0 m 1633 ls []) := by
  have ⟨hst, hx, hb, hr, hml, hown, hts, hG, hX, hbl, hbA, hlocks, hE, hK, hA⟩ := hC
  refine lv_aload_n hx hb dL_law_1633 rfl (lv_at hl 1 rfl) ?_
  refine lv_aload_n hx hb dL_law_1634 rfl (lv_at hl 0 rfl) ?_
  refine lv_iload hx hb dL_law_1635 (lv_at hl 4 rfl) ?_
  refine lv_iconst (v := 1) hx hb dL_law_1637 (by decide) ?_
  refine lv_iadd hx hb dL_law_1638 ?_
  refine W.eq (g2 := F0 m 1639 ls [.int 1, .ref b, .ref h0]) rfl ?_
  refine va_sld hx hb hX hbl hbA hS (show vp_in 1 8 by unfold vp_in; decide) dL_law_1639 ?_
  refine W.eq (g2 := F0 m 1640 ls [.int (xs 1), .ref h0]) rfl ?_
  refine lv_aload_n hx hb dL_law_1640 rfl (lv_at hl 0 rfl) ?_
  refine lv_iload hx hb dL_law_1641 (lv_at hl 4 rfl) ?_
  refine lv_iconst (v := 2) hx hb dL_law_1643 (by decide) ?_
  refine lv_iadd hx hb dL_law_1644 ?_
  refine W.eq (g2 := F0 m 1645 ls [.int 2, .ref b, .int (xs 1), .ref h0]) rfl ?_
  refine va_sld hx hb hX hbl hbA hS (show vp_in 2 8 by unfold vp_in; decide) dL_law_1645 ?_
  refine W.eq (g2 := F0 m 1646 ls [.int (xs 2), .int (xs 1), .ref h0]) rfl ?_
  refine lv_aload_n hx hb dL_law_1646 rfl (lv_at hl 0 rfl) ?_
  refine lv_iload hx hb dL_law_1647 (lv_at hl 4 rfl) ?_
  refine lv_iconst (v := 3) hx hb dL_law_1649 (by decide) ?_
  refine lv_iadd hx hb dL_law_1650 ?_
  refine W.eq (g2 := F0 m 1651 ls [.int 3, .ref b, .int (xs 2), .int (xs 1), .ref h0]) rfl ?_
  refine va_sld hx hb hX hbl hbA hS (show vp_in 3 8 by unfold vp_in; decide) dL_law_1651 ?_
  refine W.eq (g2 := F0 m 1652 ls [.int (xs 3), .int (xs 2), .int (xs 1), .ref h0]) rfl ?_
  refine lv_aload_n hx hb dL_law_1652 rfl (lv_at hl 0 rfl) ?_
  refine lv_iload hx hb dL_law_1653 (lv_at hl 4 rfl) ?_
  refine lv_iconst (v := 4) hx hb dL_law_1655 (by decide) ?_
  refine lv_iadd hx hb dL_law_1656 ?_
  refine W.eq (g2 := F0 m 1657 ls [.int 4, .ref b, .int (xs 3), .int (xs 2), .int (xs 1), .ref h0]) rfl ?_
  refine va_sld hx hb hX hbl hbA hS (show vp_in 4 8 by unfold vp_in; decide) dL_law_1657 ?_
  refine W.eq (g2 := F0 m 1658 ls [.int (xs 4), .int (xs 3), .int (xs 2), .int (xs 1), .ref h0]) rfl ?_
  refine lv_i2l (v := (xs 4).toInt64) hx hb dL_law_1658 rfl ?_
  refine lv_bipush (v := 32) hx hb dL_law_1659 (by decide) ?_
  refine lv_lshl (v := ((xs 4).toInt64) <<< ((32 : Int32).toInt64 &&& 63)) hx hb dL_law_1661 rfl ?_
  refine lv_aload_n hx hb dL_law_1662 rfl (lv_at hl 0 rfl) ?_
  refine lv_iload hx hb dL_law_1663 (lv_at hl 4 rfl) ?_
  refine lv_iconst (v := 5) hx hb dL_law_1665 (by decide) ?_
  refine lv_iadd hx hb dL_law_1666 ?_
  refine W.eq (g2 := F0 m 1667 ls [.int 5, .ref b, .long (((xs 4).toInt64) <<< ((32 : Int32).toInt64 &&& 63)), .int (xs 3), .int (xs 2), .int (xs 1), .ref h0]) rfl ?_
  refine va_sld hx hb hX hbl hbA hS (show vp_in 5 8 by unfold vp_in; decide) dL_law_1667 ?_
  refine W.eq (g2 := F0 m 1668 ls [.int (xs 5), .long (((xs 4).toInt64) <<< ((32 : Int32).toInt64 &&& 63)), .int (xs 3), .int (xs 2), .int (xs 1), .ref h0]) rfl ?_
  refine lv_i2l (v := (xs 5).toInt64) hx hb dL_law_1668 rfl ?_
  refine lv_ldc2 (v := 4294967295) hx hb hown (hG _ gw_2764) dL_law_1669 ?_
  refine lv_land hx hb dL_law_1672 ?_
  refine lv_lor hx hb dL_law_1673 ?_
  refine lv_aload_n hx hb dL_law_1674 rfl (lv_at hl 0 rfl) ?_
  refine lv_iload hx hb dL_law_1675 (lv_at hl 4 rfl) ?_
  refine lv_bipush (v := 6) hx hb dL_law_1677 (by decide) ?_
  refine lv_iadd hx hb dL_law_1679 ?_
  refine W.eq (g2 := F0 m 1680 ls [.int 6, .ref b, .long ((((xs 4).toInt64) <<< ((32 : Int32).toInt64 &&& 63)) ||| (((xs 5).toInt64) &&& 4294967295)), .int (xs 3), .int (xs 2), .int (xs 1), .ref h0]) rfl ?_
  refine va_sld hx hb hX hbl hbA hS (show vp_in 6 8 by unfold vp_in; decide) dL_law_1680 ?_
  refine W.eq (g2 := F0 m 1681 ls [.int (xs 6), .long ((((xs 4).toInt64) <<< ((32 : Int32).toInt64 &&& 63)) ||| (((xs 5).toInt64) &&& 4294967295)), .int (xs 3), .int (xs 2), .int (xs 1), .ref h0]) rfl ?_
  refine lv_i2l (v := (xs 6).toInt64) hx hb dL_law_1681 rfl ?_
  refine lv_bipush (v := 32) hx hb dL_law_1682 (by decide) ?_
  refine lv_lshl (v := ((xs 6).toInt64) <<< ((32 : Int32).toInt64 &&& 63)) hx hb dL_law_1684 rfl ?_
  refine lv_aload_n hx hb dL_law_1685 rfl (lv_at hl 0 rfl) ?_
  refine lv_iload hx hb dL_law_1686 (lv_at hl 4 rfl) ?_
  refine lv_bipush (v := 7) hx hb dL_law_1688 (by decide) ?_
  refine lv_iadd hx hb dL_law_1690 ?_
  refine W.eq (g2 := F0 m 1691 ls [.int 7, .ref b, .long (((xs 6).toInt64) <<< ((32 : Int32).toInt64 &&& 63)), .long ((((xs 4).toInt64) <<< ((32 : Int32).toInt64 &&& 63)) ||| (((xs 5).toInt64) &&& 4294967295)), .int (xs 3), .int (xs 2), .int (xs 1), .ref h0]) rfl ?_
  refine va_sld hx hb hX hbl hbA hS (show vp_in 7 8 by unfold vp_in; decide) dL_law_1691 ?_
  refine W.eq (g2 := F0 m 1692 ls [.int (xs 7), .long (((xs 6).toInt64) <<< ((32 : Int32).toInt64 &&& 63)), .long ((((xs 4).toInt64) <<< ((32 : Int32).toInt64 &&& 63)) ||| (((xs 5).toInt64) &&& 4294967295)), .int (xs 3), .int (xs 2), .int (xs 1), .ref h0]) rfl ?_
  refine lv_i2l (v := (xs 7).toInt64) hx hb dL_law_1692 rfl ?_
  refine lv_ldc2 (v := 4294967295) hx hb hown (hG _ gw_2764) dL_law_1693 ?_
  refine lv_land hx hb dL_law_1696 ?_
  refine lv_lor hx hb dL_law_1697 ?_
  refine lv_aload_n hx hb dL_law_1698 rfl (lv_at hl 3 rfl) ?_
  have hPc := hP.sub (ws' := [(h0, .inr (10, [.ref x0, .int 0, .ref x1, .ref x2, .ref x3, .ref x4, .ref x5, .ref x6, .ref x7, .ref x8, .int 0, .int 3000])), (o0, .inl (kA 1, 1, .inr (.inl (fun _ => 0))))]) [0, 2] rfl
  have hDc := hD.sub (ws' := [(h0, .inr (10, [.ref x0, .int 0, .ref x1, .ref x2, .ref x3, .ref x4, .ref x5, .ref x6, .ref x7, .ref x8, .int 0, .int 3000])), (o0, .inl (kA 1, 1, .inr (.inl (fun _ => 0))))]) [0, 2] (by decide) rfl
  have hFc := va_free (wc := [(h0, .inr (10, [.ref x0, .int 0, .ref x1, .ref x2, .ref x3, .ref x4, .ref x5, .ref x6, .ref x7, .ref x8, .int 0, .int 3000])), (o0, .inl (kA 1, 1, .inr (.inl (fun _ => 0))))]) hD hS hA [0, 2] rfl
  refine va_calli (vx_runSW (As := [.ref h0, .int (xs 1), .int (xs 2), .int (xs 3), .long ((((xs 4).toInt64) <<< ((32 : Int32).toInt64 &&& 63)) ||| (((xs 5).toInt64) &&& 4294967295)), .long ((((xs 6).toInt64) <<< ((32 : Int32).toInt64 &&& 63)) ||| (((xs 7).toInt64) &&& 4294967295)), .ref o0]) (rest := []) ⟨hx, hb, hml, hown, hts⟩ (a173_L_tell l hst D kA V H.size h0 (xs 1) (xs 2) (xs 3) ((((xs 4).toInt64) <<< ((32 : Int32).toInt64 &&& 63)) ||| (((xs 5).toInt64) &&& 4294967295)) ((((xs 6).toInt64) <<< ((32 : Int32).toInt64 &&& 63)) ||| (((xs 7).toInt64) &&& 4294967295)) o0 x0 x1 x2 x3 x4 x5 x6 x7 x8) (vx_cwSW 7 hts (gw_SW gw_1871 gw_1872 gw_0 gw_1873) rfl rfl rfl (by decide +kernel) ⟨(Nat.le_of_ble_eq_true rfl), (Nat.le_of_ble_eq_true rfl)⟩) ⟨aP.blind, aP.pre hE hS hPc hK hDc hFc⟩ rfl rfl hl.1 rfl (lv_room (Nat.le_of_ble_eq_true rfl)) dL_law_1699 ⟨(Nat.le_of_ble_eq_true rfl), (Nat.le_of_ble_eq_true rfl)⟩) hS (fun q _ h => hFc q h) hFc (fun r_1 u t H1 locs ht hvm hw hB hz1 hk1 hS => ?_)
  obtain ⟨u_2, rfl⟩ : ∃ z, z = u := ⟨u, rfl⟩
  obtain ⟨hP1, hD1⟩ := hB
  rw [ht] at hP1
  try dsimp only at hw hP1 hD1
  rcases hw with ⟨c_3, w_4, w_5⟩ | ⟨c_6, c_7, w_8, w_9⟩ | ⟨c_10, c_11, c_12, w_13, w_14⟩ | ⟨c_15, c_16, c_17, c_18, w_19, w_20⟩ | ⟨c_21, c_22, c_23, c_24, c_25, w_26, w_27⟩ | ⟨c_28, c_29, c_30, c_31, c_32, c_33, w_34, w_35⟩ | ⟨c_36, c_37, c_38, c_39, c_40, c_41, c_42, w_43, w_44⟩ | ⟨c_45, c_46, c_47, c_48, c_49, c_50, c_51, w_52, w_53⟩
  · skip
    subst w_4
    subst w_5
    obtain ⟨hP, hD⟩ := va_join (wr := [(m0, .inr (11, y0))]) (w1 := [(h0, .inr (10, [.ref x0, .int 0, .ref x1, .ref x2, .ref x3, .ref x4, .ref x5, .ref x6, .ref x7, .ref x8, .int 0, .int 3000])), (o0, .inl (kA 1, 1, .inr (.inl (fun _ => 0))))]) hP hD [0, 2] [1] rfl rfl (by decide) (by decide) hk1 hFc hP1 hD1
    generalize H1 = H at hP hS ⊢
    have hP : va_P D vwCl [(m0, .inr (11, y0)), (h0, .inr (10, [.ref x0, .int 0, .ref x1, .ref x2, .ref x3, .ref x4, .ref x5, .ref x6, .ref x7, .ref x8, .int 0, .int 3000])), (o0, .inl (kA 1, 1, .inr (.inl (fun _ => 0))))] H := hP
    have hD : va_D A [(m0, .inr (11, y0)), (h0, .inr (10, [.ref x0, .int 0, .ref x1, .ref x2, .ref x3, .ref x4, .ref x5, .ref x6, .ref x7, .ref x8, .int 0, .int 3000])), (o0, .inl (kA 1, 1, .inr (.inl (fun _ => 0))))] := hD
    refine lv_istore (lv' := [(5, .int 1), (0, .ref b), (1, .ref h0), (2, .ref m0), (3, .ref o0), (4, .int 0)]) hx hb dL_law_1702 hl (by decide) rfl (fun ls hl => ?_)
    refine lv_aload_n hx hb dL_law_1704 rfl (lv_at hl 3 rfl) ?_
    refine lv_aload_n hx hb dL_law_1705 rfl (lv_at hl 1 rfl) ?_
    refine lv_iload hx hb dL_law_1706 (lv_at hl 5 rfl) ?_
    refine lv_iconst (v := 1) hx hb dL_law_1708 (by decide) ?_
    refine lv_iadd hx hb dL_law_1709 ?_
    refine W.eq (g2 := F0 m 1710 ls [.int 1, .ref b, .ref m0]) rfl ?_
    refine va_sld hx hb hX hbl hbA hS (show vp_in 1 8 by unfold vp_in; decide) dL_law_1710 ?_
    refine W.eq (g2 := F0 m 1711 ls [.int (xs 1), .ref m0]) rfl ?_
    refine lv_aload_n hx hb dL_law_1711 rfl (lv_at hl 1 rfl) ?_
    refine lv_iload hx hb dL_law_1712 (lv_at hl 5 rfl) ?_
    refine lv_iconst (v := 2) hx hb dL_law_1714 (by decide) ?_
    refine lv_iadd hx hb dL_law_1715 ?_
    refine W.eq (g2 := F0 m 1716 ls [.int 2, .ref b, .int (xs 1), .ref m0]) rfl ?_
    refine va_sld hx hb hX hbl hbA hS (show vp_in 2 8 by unfold vp_in; decide) dL_law_1716 ?_
    refine W.eq (g2 := F0 m 1717 ls [.int (xs 2), .int (xs 1), .ref m0]) rfl ?_
    refine lv_aload_n hx hb dL_law_1717 rfl (lv_at hl 1 rfl) ?_
    refine lv_iload hx hb dL_law_1718 (lv_at hl 5 rfl) ?_
    refine lv_iconst (v := 3) hx hb dL_law_1720 (by decide) ?_
    refine lv_iadd hx hb dL_law_1721 ?_
    refine W.eq (g2 := F0 m 1722 ls [.int 3, .ref b, .int (xs 2), .int (xs 1), .ref m0]) rfl ?_
    refine va_sld hx hb hX hbl hbA hS (show vp_in 3 8 by unfold vp_in; decide) dL_law_1722 ?_
    refine W.eq (g2 := F0 m 1723 ls [.int (xs 3), .int (xs 2), .int (xs 1), .ref m0]) rfl ?_
    refine lv_aload_n hx hb dL_law_1723 rfl (lv_at hl 1 rfl) ?_
    refine lv_iload hx hb dL_law_1724 (lv_at hl 5 rfl) ?_
    refine lv_iconst (v := 4) hx hb dL_law_1726 (by decide) ?_
    refine lv_iadd hx hb dL_law_1727 ?_
    refine W.eq (g2 := F0 m 1728 ls [.int 4, .ref b, .int (xs 3), .int (xs 2), .int (xs 1), .ref m0]) rfl ?_
    refine va_sld hx hb hX hbl hbA hS (show vp_in 4 8 by unfold vp_in; decide) dL_law_1728 ?_
    refine W.eq (g2 := F0 m 1729 ls [.int (xs 4), .int (xs 3), .int (xs 2), .int (xs 1), .ref m0]) rfl ?_
    refine lv_i2l (v := (xs 4).toInt64) hx hb dL_law_1729 rfl ?_
    refine lv_bipush (v := 32) hx hb dL_law_1730 (by decide) ?_
    refine lv_lshl (v := ((xs 4).toInt64) <<< ((32 : Int32).toInt64 &&& 63)) hx hb dL_law_1732 rfl ?_
    refine lv_aload_n hx hb dL_law_1733 rfl (lv_at hl 1 rfl) ?_
    refine lv_iload hx hb dL_law_1734 (lv_at hl 5 rfl) ?_
    refine lv_iconst (v := 5) hx hb dL_law_1736 (by decide) ?_
    refine lv_iadd hx hb dL_law_1737 ?_
    refine W.eq (g2 := F0 m 1738 ls [.int 5, .ref b, .long (((xs 4).toInt64) <<< ((32 : Int32).toInt64 &&& 63)), .int (xs 3), .int (xs 2), .int (xs 1), .ref m0]) rfl ?_
    refine va_sld hx hb hX hbl hbA hS (show vp_in 5 8 by unfold vp_in; decide) dL_law_1738 ?_
    refine W.eq (g2 := F0 m 1739 ls [.int (xs 5), .long (((xs 4).toInt64) <<< ((32 : Int32).toInt64 &&& 63)), .int (xs 3), .int (xs 2), .int (xs 1), .ref m0]) rfl ?_
    refine lv_i2l (v := (xs 5).toInt64) hx hb dL_law_1739 rfl ?_
    refine lv_ldc2 (v := 4294967295) hx hb hown (hG _ gw_2764) dL_law_1740 ?_
    refine lv_land hx hb dL_law_1743 ?_
    refine lv_lor hx hb dL_law_1744 ?_
    refine lv_aload_n hx hb dL_law_1745 rfl (lv_at hl 1 rfl) ?_
    refine lv_iload hx hb dL_law_1746 (lv_at hl 5 rfl) ?_
    refine lv_bipush (v := 6) hx hb dL_law_1748 (by decide) ?_
    refine lv_iadd hx hb dL_law_1750 ?_
    refine W.eq (g2 := F0 m 1751 ls [.int 6, .ref b, .long ((((xs 4).toInt64) <<< ((32 : Int32).toInt64 &&& 63)) ||| (((xs 5).toInt64) &&& 4294967295)), .int (xs 3), .int (xs 2), .int (xs 1), .ref m0]) rfl ?_
    refine va_sld hx hb hX hbl hbA hS (show vp_in 6 8 by unfold vp_in; decide) dL_law_1751 ?_
    refine W.eq (g2 := F0 m 1752 ls [.int (xs 6), .long ((((xs 4).toInt64) <<< ((32 : Int32).toInt64 &&& 63)) ||| (((xs 5).toInt64) &&& 4294967295)), .int (xs 3), .int (xs 2), .int (xs 1), .ref m0]) rfl ?_
    refine lv_i2l (v := (xs 6).toInt64) hx hb dL_law_1752 rfl ?_
    refine lv_bipush (v := 32) hx hb dL_law_1753 (by decide) ?_
    refine lv_lshl (v := ((xs 6).toInt64) <<< ((32 : Int32).toInt64 &&& 63)) hx hb dL_law_1755 rfl ?_
    refine lv_aload_n hx hb dL_law_1756 rfl (lv_at hl 1 rfl) ?_
    refine lv_iload hx hb dL_law_1757 (lv_at hl 5 rfl) ?_
    refine lv_bipush (v := 7) hx hb dL_law_1759 (by decide) ?_
    refine lv_iadd hx hb dL_law_1761 ?_
    refine W.eq (g2 := F0 m 1762 ls [.int 7, .ref b, .long (((xs 6).toInt64) <<< ((32 : Int32).toInt64 &&& 63)), .long ((((xs 4).toInt64) <<< ((32 : Int32).toInt64 &&& 63)) ||| (((xs 5).toInt64) &&& 4294967295)), .int (xs 3), .int (xs 2), .int (xs 1), .ref m0]) rfl ?_
    refine va_sld hx hb hX hbl hbA hS (show vp_in 7 8 by unfold vp_in; decide) dL_law_1762 ?_
    refine W.eq (g2 := F0 m 1763 ls [.int (xs 7), .long (((xs 6).toInt64) <<< ((32 : Int32).toInt64 &&& 63)), .long ((((xs 4).toInt64) <<< ((32 : Int32).toInt64 &&& 63)) ||| (((xs 5).toInt64) &&& 4294967295)), .int (xs 3), .int (xs 2), .int (xs 1), .ref m0]) rfl ?_
    refine lv_i2l (v := (xs 7).toInt64) hx hb dL_law_1763 rfl ?_
    refine lv_ldc2 (v := 4294967295) hx hb hown (hG _ gw_2764) dL_law_1764 ?_
    refine lv_land hx hb dL_law_1767 ?_
    refine lv_lor hx hb dL_law_1768 ?_
    have hPc := hP.sub (ws' := [(m0, .inr (11, y0))]) [0] rfl
    have hDc := hD.sub (ws' := [(m0, .inr (11, y0))]) [0] (by decide) rfl
    have hFc := va_free (wc := [(m0, .inr (11, y0))]) hD hS hA [0] rfl
    refine va_calll (va_runV (As := [.int (xs 1), .int (xs 2), .int (xs 3), .long ((((xs 4).toInt64) <<< ((32 : Int32).toInt64 &&& 63)) ||| (((xs 5).toInt64) &&& 4294967295)), .long ((((xs 6).toInt64) <<< ((32 : Int32).toInt64 &&& 63)) ||| (((xs 7).toInt64) &&& 4294967295))]) (rest := []) ⟨hx, hb, hml, hown, hts⟩ (a155_X12_tell l  D kA V H.size m0 (xs 1) (xs 2) (xs 3) ((((xs 4).toInt64) <<< ((32 : Int32).toInt64 &&& 63)) ||| (((xs 5).toInt64) &&& 4294967295)) ((((xs 6).toInt64) <<< ((32 : Int32).toInt64 &&& 63)) ||| (((xs 7).toInt64) &&& 4294967295)) y0 (fun k hk => (hq k hk)) hq9) (cwV 5 hts (gw_V gw_2760 gw_2761 gw_2762 gw_16 gw_2763) rfl rfl rfl (by decide +kernel) ⟨(Nat.le_of_ble_eq_true rfl), (Nat.le_of_ble_eq_true rfl)⟩) ⟨aP.blind, va_recv hK hP (ci := 11) (q0 := 0) rfl rfl, aP.pre hE hS hPc hK hDc hFc⟩ rfl rfl hl.1 rfl (lv_room (Nat.le_of_ble_eq_true rfl)) dL_law_1769 ⟨(Nat.le_of_ble_eq_true rfl), (Nat.le_of_ble_eq_true rfl)⟩) hS (fun q _ h => hFc q h) hFc (fun r_54 u t H1 locs ht hvm hw hB hz1 hk1 hS => ?_)
    obtain ⟨u_55, rfl⟩ : ∃ z, z = u := ⟨u, rfl⟩
    obtain ⟨hP1, hD1⟩ := hB
    rw [ht] at hP1
    try dsimp only at hw hP1 hD1
    rcases hw with ⟨c_56, c_57, w_58, w_59⟩ | ⟨c_60, c_61, c_62, w_63, w_64⟩ | ⟨c_65, c_66, c_67, c_68, w_69, w_70⟩ | ⟨c_71, c_72, c_73, c_74, c_75, w_76, w_77⟩ | ⟨c_78, c_79, c_80, c_81, c_82, w_83, w_84⟩ | ⟨c_85, c_86, c_87, w_88, w_89⟩ | ⟨c_90, c_91, c_92, c_93, w_94, w_95⟩ | ⟨c_96, c_97, c_98, c_99, c_100, w_101, w_102⟩ | ⟨c_103, c_104, c_105, c_106, c_107, c_108, w_109, w_110⟩ | ⟨c_111, c_112, c_113, c_114, c_115, c_116, w_117, w_118⟩ | ⟨c_119, c_120, c_121, w_122, w_123⟩ | ⟨c_124, c_125, c_126, c_127, w_128, w_129⟩ | ⟨c_130, c_131, c_132, c_133, c_134, w_135, w_136⟩ | ⟨c_137, c_138, c_139, c_140, c_141, c_142, w_143, w_144⟩ | ⟨c_145, c_146, c_147, c_148, c_149, c_150, c_151, c_152, c_153, c_154, c_155, c_156, c_157, c_158, c_159, w_160, w_161⟩ | ⟨c_162, c_163, c_164, c_165, c_166, c_167, c_168, c_169, c_170, c_171, c_172, c_173, c_174, c_175, c_176, w_177, w_178⟩ | ⟨c_179, c_180, c_181, c_182, c_183, c_184, c_185, c_186, c_187, c_188, c_189, c_190, c_191, c_192, w_193, w_194⟩ | ⟨c_195, c_196, c_197, c_198, c_199, c_200, c_201, c_202, c_203, c_204, c_205, c_206, c_207, w_208, w_209⟩ | ⟨c_210, c_211, c_212, c_213, c_214, c_215, c_216, c_217, c_218, c_219, c_220, c_221, w_222, w_223⟩ | ⟨c_224, c_225, c_226, c_227, c_228, c_229, c_230, c_231, c_232, c_233, c_234, w_235, w_236⟩ | ⟨c_237, c_238, c_239, c_240, c_241, c_242, c_243, c_244, c_245, c_246, w_247, w_248⟩ | ⟨c_249, c_250, c_251, c_252, c_253, c_254, c_255, c_256, c_257, w_258, w_259⟩ | ⟨c_260, c_261, c_262, c_263, c_264, c_265, c_266, c_267, c_268, c_269, c_270, c_271, c_272, w_273, w_274⟩ | ⟨c_275, c_276, c_277, c_278, c_279, c_280, c_281, c_282, c_283, c_284, c_285, c_286, c_287, w_288, w_289⟩ | ⟨c_290, c_291, c_292, c_293, c_294, c_295, c_296, c_297, c_298, c_299, c_300, c_301, w_302, w_303⟩ | ⟨c_304, c_305, c_306, c_307, c_308, c_309, c_310, c_311, c_312, c_313, c_314, w_315, w_316⟩ | ⟨c_317, c_318, c_319, c_320, c_321, c_322, c_323, c_324, c_325, c_326, w_327, w_328⟩ | ⟨c_329, c_330, c_331, c_332, c_333, c_334, c_335, c_336, c_337, w_338, w_339⟩ | ⟨c_340, c_341, c_342, c_343, c_344, c_345, c_346, c_347, c_348, c_349, c_350, c_351, c_352, c_353, c_354, w_355, w_356⟩ | ⟨c_357, c_358, c_359, c_360, c_361, c_362, c_363, c_364, c_365, c_366, c_367, c_368, c_369, c_370, c_371, w_372, w_373⟩ | ⟨c_374, c_375, c_376, c_377, c_378, c_379, c_380, c_381, c_382, c_383, c_384, c_385, c_386, c_387, w_388, w_389⟩ | ⟨c_390, c_391, c_392, c_393, c_394, c_395, c_396, c_397, c_398, c_399, c_400, c_401, c_402, w_403, w_404⟩ | ⟨c_405, c_406, c_407, c_408, c_409, c_410, c_411, c_412, c_413, c_414, c_415, c_416, w_417, w_418⟩ | ⟨c_419, c_420, c_421, c_422, c_423, c_424, c_425, c_426, c_427, c_428, c_429, w_430, w_431⟩ | ⟨c_432, c_433, c_434, c_435, c_436, c_437, c_438, c_439, c_440, c_441, w_442, w_443⟩ | ⟨c_444, c_445, c_446, c_447, c_448, c_449, c_450, c_451, c_452, w_453, w_454⟩ | ⟨c_455, c_456, c_457, c_458, c_459, c_460, c_461, c_462, c_463, c_464, c_465, c_466, c_467, w_468, w_469⟩ | ⟨c_470, c_471, c_472, c_473, c_474, c_475, c_476, c_477, c_478, c_479, c_480, c_481, c_482, w_483, w_484⟩ | ⟨c_485, c_486, c_487, c_488, c_489, c_490, c_491, c_492, c_493, c_494, c_495, c_496, w_497, w_498⟩ | ⟨c_499, c_500, c_501, c_502, c_503, c_504, c_505, c_506, c_507, c_508, c_509, w_510, w_511⟩ | ⟨c_512, c_513, c_514, c_515, c_516, c_517, c_518, c_519, c_520, c_521, w_522, w_523⟩ | ⟨c_524, c_525, c_526, c_527, c_528, c_529, c_530, c_531, c_532, w_533, w_534⟩
    · skip
      subst w_58
      subst w_59
      obtain ⟨hP, hD⟩ := va_join (wr := [(h0, .inr (10, [.ref x0, .int 0, .ref x1, .ref x2, .ref x3, .ref x4, .ref x5, .ref x6, .ref x7, .ref x8, .int 0, .int 3000])), (o0, .inl (kA 1, 1, .inr (.inl (fun _ => 0))))]) (w1 := [(m0, .inr (11, y0.set 9 (.int 1)))]) hP hD [0] [1, 2] rfl rfl (by decide) (by decide) hk1 hFc hP1 hD1
      generalize H1 = H at hP hS ⊢
      have hP : va_P D vwCl [(h0, .inr (10, [.ref x0, .int 0, .ref x1, .ref x2, .ref x3, .ref x4, .ref x5, .ref x6, .ref x7, .ref x8, .int 0, .int 3000])), (o0, .inl (kA 1, 1, .inr (.inl (fun _ => 0)))), (m0, .inr (11, y0.set 9 (.int 1)))] H := hP
      have hD : va_D A [(h0, .inr (10, [.ref x0, .int 0, .ref x1, .ref x2, .ref x3, .ref x4, .ref x5, .ref x6, .ref x7, .ref x8, .int 0, .int 3000])), (o0, .inl (kA 1, 1, .inr (.inl (fun _ => 0)))), (m0, .inr (11, y0.set 9 (.int 1)))] := hD
      refine lv_lstore (lv' := [(6, .long 0), (5, .int 1), (0, .ref b), (1, .ref h0), (2, .ref m0), (3, .ref o0), (4, .int 0)]) hx hb dL_law_1772 hl (by decide) rfl (fun ls hl => ?_)
      refine lv_aload_n hx hb dL_law_1774 rfl (lv_at hl 4 rfl) ?_
      have hPc := hP.sub (ws' := [(m0, .inr (11, y0.set 9 (.int 1)))]) [2] rfl
      have hDc := hD.sub (ws' := [(m0, .inr (11, y0.set 9 (.int 1)))]) [2] (by decide) rfl
      have hFc := va_free (wc := [(m0, .inr (11, y0.set 9 (.int 1)))]) hD hS hA [2] rfl
      refine va_calli (va_runV (As := []) (rest := []) ⟨hx, hb, hml, hown, hts⟩ (a174_X12_thrown l  D kA V H.size m0 (y0.set 9 (.int 1)) (fun k hk => (by rw [List.length_set]; exact (hq k hk))) (List.getElem?_set_self (hq 9 (by decide)))) (cwV 0 hts (gw_V gw_1879 gw_1880 gw_1881 gw_16 gw_1882) rfl rfl rfl (by decide +kernel) ⟨(Nat.le_of_ble_eq_true rfl), (Nat.le_of_ble_eq_true rfl)⟩) ⟨aP.blind, va_recv hK hP (ci := 11) (q0 := 2) rfl rfl, aP.pre hE hS hPc hK hDc hFc⟩ rfl rfl hl.1 rfl (lv_room (Nat.le_of_ble_eq_true rfl)) dL_law_1775 ⟨(Nat.le_of_ble_eq_true rfl), (Nat.le_of_ble_eq_true rfl)⟩) hS (fun q _ h => hFc q h) hFc (fun r_535 u t H1 locs ht hvm hw hB hz1 hk1 hS => ?_)
      obtain ⟨hP1, hD1⟩ := hB
      rw [ht] at hP1
      try dsimp only at hw hP1 hD1
      have w_536 := hw
      subst w_536
      obtain ⟨hP, hD⟩ := va_join (wr := [(h0, .inr (10, [.ref x0, .int 0, .ref x1, .ref x2, .ref x3, .ref x4, .ref x5, .ref x6, .ref x7, .ref x8, .int 0, .int 3000])), (o0, .inl (kA 1, 1, .inr (.inl (fun _ => 0))))]) (w1 := [(m0, .inr (11, (y0.set 9 (.int 1))))]) hP hD [2] [0, 1] rfl rfl (by decide) (by decide) hk1 hFc hP1 hD1
      generalize H1 = H at hP hS ⊢
      have hP : va_P D vwCl [(h0, .inr (10, [.ref x0, .int 0, .ref x1, .ref x2, .ref x3, .ref x4, .ref x5, .ref x6, .ref x7, .ref x8, .int 0, .int 3000])), (o0, .inl (kA 1, 1, .inr (.inl (fun _ => 0)))), (m0, .inr (11, (y0.set 9 (.int 1))))] H := hP
      have hD : va_D A [(h0, .inr (10, [.ref x0, .int 0, .ref x1, .ref x2, .ref x3, .ref x4, .ref x5, .ref x6, .ref x7, .ref x8, .int 0, .int 3000])), (o0, .inl (kA 1, 1, .inr (.inl (fun _ => 0)))), (m0, .inr (11, (y0.set 9 (.int 1))))] := hD
      refine lv_iload hx hb dL_law_1778 (lv_at hl 1 rfl) ?_
      refine lv_icmp_eq (tgt := 1785) hx hb dL_law_1780 (by decide) (fun c_537 => ?_) (fun c_537 => ?_)
      · skip
        refine lv_iload hx hb dL_law_1785 (lv_at hl 1 rfl) ?_
        refine lv_if_ne (tgt := 1801) hx hb dL_law_1787 (by decide) (fun c_538 => ?_) (fun c_538 => ?_)
        · skip
          refine lv_goto (tgt := 1804) hx hb dL_law_1801 (by decide) ?_
          exact lk_tail hC hA2 (lv_sub hl [2, 6] rfl) hS (Nat.le_of_ble_eq_true rfl) (Nat.le_of_ble_eq_true rfl)
        · exact absurd c_538 (by decide)
      · exact absurd (by decide) c_537
    · skip
      subst w_63
      subst w_64
      exact absurd c_3 c_61
    · skip
      subst w_69
      subst w_70
      exact absurd c_3 c_66
    · skip
      subst w_76
      subst w_77
      exact absurd c_3 c_72
    · skip
      subst w_83
      subst w_84
      exact absurd c_3 c_79
    · skip
      subst w_88
      subst w_89
      obtain ⟨hP, hD⟩ := va_join (wr := [(h0, .inr (10, [.ref x0, .int 0, .ref x1, .ref x2, .ref x3, .ref x4, .ref x5, .ref x6, .ref x7, .ref x8, .int 0, .int 3000])), (o0, .inl (kA 1, 1, .inr (.inl (fun _ => 0))))]) (w1 := [(m0, .inr (11, y0.set 9 (.int 1)))]) hP hD [0] [1, 2] rfl rfl (by decide) (by decide) hk1 hFc hP1 hD1
      generalize H1 = H at hP hS ⊢
      have hP : va_P D vwCl [(h0, .inr (10, [.ref x0, .int 0, .ref x1, .ref x2, .ref x3, .ref x4, .ref x5, .ref x6, .ref x7, .ref x8, .int 0, .int 3000])), (o0, .inl (kA 1, 1, .inr (.inl (fun _ => 0)))), (m0, .inr (11, y0.set 9 (.int 1)))] H := hP
      have hD : va_D A [(h0, .inr (10, [.ref x0, .int 0, .ref x1, .ref x2, .ref x3, .ref x4, .ref x5, .ref x6, .ref x7, .ref x8, .int 0, .int 3000])), (o0, .inl (kA 1, 1, .inr (.inl (fun _ => 0)))), (m0, .inr (11, y0.set 9 (.int 1)))] := hD
      refine lv_lstore (lv' := [(6, .long 0), (5, .int 1), (0, .ref b), (1, .ref h0), (2, .ref m0), (3, .ref o0), (4, .int 0)]) hx hb dL_law_1772 hl (by decide) rfl (fun ls hl => ?_)
      refine lv_aload_n hx hb dL_law_1774 rfl (lv_at hl 4 rfl) ?_
      have hPc := hP.sub (ws' := [(m0, .inr (11, y0.set 9 (.int 1)))]) [2] rfl
      have hDc := hD.sub (ws' := [(m0, .inr (11, y0.set 9 (.int 1)))]) [2] (by decide) rfl
      have hFc := va_free (wc := [(m0, .inr (11, y0.set 9 (.int 1)))]) hD hS hA [2] rfl
      refine va_calli (va_runV (As := []) (rest := []) ⟨hx, hb, hml, hown, hts⟩ (a174_X12_thrown l  D kA V H.size m0 (y0.set 9 (.int 1)) (fun k hk => (by rw [List.length_set]; exact (hq k hk))) (List.getElem?_set_self (hq 9 (by decide)))) (cwV 0 hts (gw_V gw_1879 gw_1880 gw_1881 gw_16 gw_1882) rfl rfl rfl (by decide +kernel) ⟨(Nat.le_of_ble_eq_true rfl), (Nat.le_of_ble_eq_true rfl)⟩) ⟨aP.blind, va_recv hK hP (ci := 11) (q0 := 2) rfl rfl, aP.pre hE hS hPc hK hDc hFc⟩ rfl rfl hl.1 rfl (lv_room (Nat.le_of_ble_eq_true rfl)) dL_law_1775 ⟨(Nat.le_of_ble_eq_true rfl), (Nat.le_of_ble_eq_true rfl)⟩) hS (fun q _ h => hFc q h) hFc (fun r_539 u t H1 locs ht hvm hw hB hz1 hk1 hS => ?_)
      obtain ⟨hP1, hD1⟩ := hB
      rw [ht] at hP1
      try dsimp only at hw hP1 hD1
      have w_540 := hw
      subst w_540
      obtain ⟨hP, hD⟩ := va_join (wr := [(h0, .inr (10, [.ref x0, .int 0, .ref x1, .ref x2, .ref x3, .ref x4, .ref x5, .ref x6, .ref x7, .ref x8, .int 0, .int 3000])), (o0, .inl (kA 1, 1, .inr (.inl (fun _ => 0))))]) (w1 := [(m0, .inr (11, (y0.set 9 (.int 1))))]) hP hD [2] [0, 1] rfl rfl (by decide) (by decide) hk1 hFc hP1 hD1
      generalize H1 = H at hP hS ⊢
      have hP : va_P D vwCl [(h0, .inr (10, [.ref x0, .int 0, .ref x1, .ref x2, .ref x3, .ref x4, .ref x5, .ref x6, .ref x7, .ref x8, .int 0, .int 3000])), (o0, .inl (kA 1, 1, .inr (.inl (fun _ => 0)))), (m0, .inr (11, (y0.set 9 (.int 1))))] H := hP
      have hD : va_D A [(h0, .inr (10, [.ref x0, .int 0, .ref x1, .ref x2, .ref x3, .ref x4, .ref x5, .ref x6, .ref x7, .ref x8, .int 0, .int 3000])), (o0, .inl (kA 1, 1, .inr (.inl (fun _ => 0)))), (m0, .inr (11, (y0.set 9 (.int 1))))] := hD
      refine lv_iload hx hb dL_law_1778 (lv_at hl 1 rfl) ?_
      refine lv_icmp_eq (tgt := 1785) hx hb dL_law_1780 (by decide) (fun c_541 => ?_) (fun c_541 => ?_)
      · skip
        refine lv_iload hx hb dL_law_1785 (lv_at hl 1 rfl) ?_
        refine lv_if_ne (tgt := 1801) hx hb dL_law_1787 (by decide) (fun c_542 => ?_) (fun c_542 => ?_)
        · skip
          refine lv_goto (tgt := 1804) hx hb dL_law_1801 (by decide) ?_
          exact lk_tail hC hA2 (lv_sub hl [2, 6] rfl) hS (Nat.le_of_ble_eq_true rfl) (Nat.le_of_ble_eq_true rfl)
        · exact absurd c_542 (by decide)
      · exact absurd (by decide) c_541
    · skip
      subst w_94
      subst w_95
      exact absurd c_3 c_92
    · skip
      subst w_101
      subst w_102
      exact absurd c_3 c_98
    · skip
      subst w_109
      subst w_110
      exact absurd c_3 c_105
    · skip
      subst w_117
      subst w_118
      exact absurd c_3 c_113
    · skip
      subst w_122
      subst w_123
      obtain ⟨hP, hD⟩ := va_join (wr := [(h0, .inr (10, [.ref x0, .int 0, .ref x1, .ref x2, .ref x3, .ref x4, .ref x5, .ref x6, .ref x7, .ref x8, .int 0, .int 3000])), (o0, .inl (kA 1, 1, .inr (.inl (fun _ => 0))))]) (w1 := [(m0, .inr (11, y0.set 9 (.int 1)))]) hP hD [0] [1, 2] rfl rfl (by decide) (by decide) hk1 hFc hP1 hD1
      generalize H1 = H at hP hS ⊢
      have hP : va_P D vwCl [(h0, .inr (10, [.ref x0, .int 0, .ref x1, .ref x2, .ref x3, .ref x4, .ref x5, .ref x6, .ref x7, .ref x8, .int 0, .int 3000])), (o0, .inl (kA 1, 1, .inr (.inl (fun _ => 0)))), (m0, .inr (11, y0.set 9 (.int 1)))] H := hP
      have hD : va_D A [(h0, .inr (10, [.ref x0, .int 0, .ref x1, .ref x2, .ref x3, .ref x4, .ref x5, .ref x6, .ref x7, .ref x8, .int 0, .int 3000])), (o0, .inl (kA 1, 1, .inr (.inl (fun _ => 0)))), (m0, .inr (11, y0.set 9 (.int 1)))] := hD
      refine lv_lstore (lv' := [(6, .long 0), (5, .int 1), (0, .ref b), (1, .ref h0), (2, .ref m0), (3, .ref o0), (4, .int 0)]) hx hb dL_law_1772 hl (by decide) rfl (fun ls hl => ?_)
      refine lv_aload_n hx hb dL_law_1774 rfl (lv_at hl 4 rfl) ?_
      have hPc := hP.sub (ws' := [(m0, .inr (11, y0.set 9 (.int 1)))]) [2] rfl
      have hDc := hD.sub (ws' := [(m0, .inr (11, y0.set 9 (.int 1)))]) [2] (by decide) rfl
      have hFc := va_free (wc := [(m0, .inr (11, y0.set 9 (.int 1)))]) hD hS hA [2] rfl
      refine va_calli (va_runV (As := []) (rest := []) ⟨hx, hb, hml, hown, hts⟩ (a174_X12_thrown l  D kA V H.size m0 (y0.set 9 (.int 1)) (fun k hk => (by rw [List.length_set]; exact (hq k hk))) (List.getElem?_set_self (hq 9 (by decide)))) (cwV 0 hts (gw_V gw_1879 gw_1880 gw_1881 gw_16 gw_1882) rfl rfl rfl (by decide +kernel) ⟨(Nat.le_of_ble_eq_true rfl), (Nat.le_of_ble_eq_true rfl)⟩) ⟨aP.blind, va_recv hK hP (ci := 11) (q0 := 2) rfl rfl, aP.pre hE hS hPc hK hDc hFc⟩ rfl rfl hl.1 rfl (lv_room (Nat.le_of_ble_eq_true rfl)) dL_law_1775 ⟨(Nat.le_of_ble_eq_true rfl), (Nat.le_of_ble_eq_true rfl)⟩) hS (fun q _ h => hFc q h) hFc (fun r_543 u t H1 locs ht hvm hw hB hz1 hk1 hS => ?_)
      obtain ⟨hP1, hD1⟩ := hB
      rw [ht] at hP1
      try dsimp only at hw hP1 hD1
      have w_544 := hw
      subst w_544
      obtain ⟨hP, hD⟩ := va_join (wr := [(h0, .inr (10, [.ref x0, .int 0, .ref x1, .ref x2, .ref x3, .ref x4, .ref x5, .ref x6, .ref x7, .ref x8, .int 0, .int 3000])), (o0, .inl (kA 1, 1, .inr (.inl (fun _ => 0))))]) (w1 := [(m0, .inr (11, (y0.set 9 (.int 1))))]) hP hD [2] [0, 1] rfl rfl (by decide) (by decide) hk1 hFc hP1 hD1
      generalize H1 = H at hP hS ⊢
      have hP : va_P D vwCl [(h0, .inr (10, [.ref x0, .int 0, .ref x1, .ref x2, .ref x3, .ref x4, .ref x5, .ref x6, .ref x7, .ref x8, .int 0, .int 3000])), (o0, .inl (kA 1, 1, .inr (.inl (fun _ => 0)))), (m0, .inr (11, (y0.set 9 (.int 1))))] H := hP
      have hD : va_D A [(h0, .inr (10, [.ref x0, .int 0, .ref x1, .ref x2, .ref x3, .ref x4, .ref x5, .ref x6, .ref x7, .ref x8, .int 0, .int 3000])), (o0, .inl (kA 1, 1, .inr (.inl (fun _ => 0)))), (m0, .inr (11, (y0.set 9 (.int 1))))] := hD
      refine lv_iload hx hb dL_law_1778 (lv_at hl 1 rfl) ?_
      refine lv_icmp_eq (tgt := 1785) hx hb dL_law_1780 (by decide) (fun c_545 => ?_) (fun c_545 => ?_)
      · skip
        refine lv_iload hx hb dL_law_1785 (lv_at hl 1 rfl) ?_
        refine lv_if_ne (tgt := 1801) hx hb dL_law_1787 (by decide) (fun c_546 => ?_) (fun c_546 => ?_)
        · skip
          refine lv_goto (tgt := 1804) hx hb dL_law_1801 (by decide) ?_
          exact lk_tail hC hA2 (lv_sub hl [2, 6] rfl) hS (Nat.le_of_ble_eq_true rfl) (Nat.le_of_ble_eq_true rfl)
        · exact absurd c_546 (by decide)
      · exact absurd (by decide) c_545
    · skip
      subst w_128
      subst w_129
      exact absurd c_3 c_126
    · skip
      subst w_135
      subst w_136
      exact absurd c_3 c_132
    · skip
      subst w_143
      subst w_144
      exact absurd c_3 c_139
    · skip
      subst w_160
      subst w_161
      exact absurd c_3 c_147
    · skip
      subst w_177
      subst w_178
      exact absurd c_3 c_164
    · skip
      subst w_193
      subst w_194
      exact absurd c_3 c_181
    · skip
      subst w_208
      subst w_209
      exact absurd c_3 c_197
    · skip
      subst w_222
      subst w_223
      exact absurd c_3 c_212
    · skip
      subst w_235
      subst w_236
      exact absurd c_3 c_226
    · skip
      subst w_247
      subst w_248
      exact absurd c_3 c_239
    · skip
      subst w_258
      subst w_259
      exact absurd c_3 c_251
    · skip
      subst w_273
      subst w_274
      exact absurd c_3 c_262
    · skip
      subst w_288
      subst w_289
      exact absurd c_3 c_277
    · skip
      subst w_302
      subst w_303
      exact absurd c_3 c_292
    · skip
      subst w_315
      subst w_316
      exact absurd c_3 c_306
    · skip
      subst w_327
      subst w_328
      exact absurd c_3 c_319
    · skip
      subst w_338
      subst w_339
      exact absurd c_3 c_331
    · skip
      subst w_355
      subst w_356
      exact absurd c_3 c_342
    · skip
      subst w_372
      subst w_373
      exact absurd c_3 c_359
    · skip
      subst w_388
      subst w_389
      exact absurd c_3 c_376
    · skip
      subst w_403
      subst w_404
      exact absurd c_3 c_392
    · skip
      subst w_417
      subst w_418
      exact absurd c_3 c_407
    · skip
      subst w_430
      subst w_431
      exact absurd c_3 c_421
    · skip
      subst w_442
      subst w_443
      exact absurd c_3 c_434
    · skip
      subst w_453
      subst w_454
      exact absurd c_3 c_446
    · skip
      subst w_468
      subst w_469
      exact absurd c_3 c_457
    · skip
      subst w_483
      subst w_484
      exact absurd c_3 c_472
    · skip
      subst w_497
      subst w_498
      exact absurd c_3 c_487
    · skip
      subst w_510
      subst w_511
      exact absurd c_3 c_501
    · skip
      subst w_522
      subst w_523
      exact absurd c_3 c_514
    · skip
      subst w_533
      subst w_534
      exact absurd c_3 c_526
  · skip
    subst w_8
    subst w_9
    obtain ⟨hP, hD⟩ := va_join (wr := [(m0, .inr (11, y0))]) (w1 := [(h0, .inr (10, [.ref x0, .int 0, .ref x1, .ref x2, .ref x3, .ref x4, .ref x5, .ref x6, .ref x7, .ref x8, .int 0, .int 3000])), (o0, .inl (kA 1, 1, .inr (.inl (fun _ => 0))))]) hP hD [0, 2] [1] rfl rfl (by decide) (by decide) hk1 hFc hP1 hD1
    generalize H1 = H at hP hS ⊢
    have hP : va_P D vwCl [(m0, .inr (11, y0)), (h0, .inr (10, [.ref x0, .int 0, .ref x1, .ref x2, .ref x3, .ref x4, .ref x5, .ref x6, .ref x7, .ref x8, .int 0, .int 3000])), (o0, .inl (kA 1, 1, .inr (.inl (fun _ => 0))))] H := hP
    have hD : va_D A [(m0, .inr (11, y0)), (h0, .inr (10, [.ref x0, .int 0, .ref x1, .ref x2, .ref x3, .ref x4, .ref x5, .ref x6, .ref x7, .ref x8, .int 0, .int 3000])), (o0, .inl (kA 1, 1, .inr (.inl (fun _ => 0))))] := hD
    refine lv_istore (lv' := [(5, .int 1), (0, .ref b), (1, .ref h0), (2, .ref m0), (3, .ref o0), (4, .int 0)]) hx hb dL_law_1702 hl (by decide) rfl (fun ls hl => ?_)
    refine lv_aload_n hx hb dL_law_1704 rfl (lv_at hl 3 rfl) ?_
    refine lv_aload_n hx hb dL_law_1705 rfl (lv_at hl 1 rfl) ?_
    refine lv_iload hx hb dL_law_1706 (lv_at hl 5 rfl) ?_
    refine lv_iconst (v := 1) hx hb dL_law_1708 (by decide) ?_
    refine lv_iadd hx hb dL_law_1709 ?_
    refine W.eq (g2 := F0 m 1710 ls [.int 1, .ref b, .ref m0]) rfl ?_
    refine va_sld hx hb hX hbl hbA hS (show vp_in 1 8 by unfold vp_in; decide) dL_law_1710 ?_
    refine W.eq (g2 := F0 m 1711 ls [.int (xs 1), .ref m0]) rfl ?_
    refine lv_aload_n hx hb dL_law_1711 rfl (lv_at hl 1 rfl) ?_
    refine lv_iload hx hb dL_law_1712 (lv_at hl 5 rfl) ?_
    refine lv_iconst (v := 2) hx hb dL_law_1714 (by decide) ?_
    refine lv_iadd hx hb dL_law_1715 ?_
    refine W.eq (g2 := F0 m 1716 ls [.int 2, .ref b, .int (xs 1), .ref m0]) rfl ?_
    refine va_sld hx hb hX hbl hbA hS (show vp_in 2 8 by unfold vp_in; decide) dL_law_1716 ?_
    refine W.eq (g2 := F0 m 1717 ls [.int (xs 2), .int (xs 1), .ref m0]) rfl ?_
    refine lv_aload_n hx hb dL_law_1717 rfl (lv_at hl 1 rfl) ?_
    refine lv_iload hx hb dL_law_1718 (lv_at hl 5 rfl) ?_
    refine lv_iconst (v := 3) hx hb dL_law_1720 (by decide) ?_
    refine lv_iadd hx hb dL_law_1721 ?_
    refine W.eq (g2 := F0 m 1722 ls [.int 3, .ref b, .int (xs 2), .int (xs 1), .ref m0]) rfl ?_
    refine va_sld hx hb hX hbl hbA hS (show vp_in 3 8 by unfold vp_in; decide) dL_law_1722 ?_
    refine W.eq (g2 := F0 m 1723 ls [.int (xs 3), .int (xs 2), .int (xs 1), .ref m0]) rfl ?_
    refine lv_aload_n hx hb dL_law_1723 rfl (lv_at hl 1 rfl) ?_
    refine lv_iload hx hb dL_law_1724 (lv_at hl 5 rfl) ?_
    refine lv_iconst (v := 4) hx hb dL_law_1726 (by decide) ?_
    refine lv_iadd hx hb dL_law_1727 ?_
    refine W.eq (g2 := F0 m 1728 ls [.int 4, .ref b, .int (xs 3), .int (xs 2), .int (xs 1), .ref m0]) rfl ?_
    refine va_sld hx hb hX hbl hbA hS (show vp_in 4 8 by unfold vp_in; decide) dL_law_1728 ?_
    refine W.eq (g2 := F0 m 1729 ls [.int (xs 4), .int (xs 3), .int (xs 2), .int (xs 1), .ref m0]) rfl ?_
    refine lv_i2l (v := (xs 4).toInt64) hx hb dL_law_1729 rfl ?_
    refine lv_bipush (v := 32) hx hb dL_law_1730 (by decide) ?_
    refine lv_lshl (v := ((xs 4).toInt64) <<< ((32 : Int32).toInt64 &&& 63)) hx hb dL_law_1732 rfl ?_
    refine lv_aload_n hx hb dL_law_1733 rfl (lv_at hl 1 rfl) ?_
    refine lv_iload hx hb dL_law_1734 (lv_at hl 5 rfl) ?_
    refine lv_iconst (v := 5) hx hb dL_law_1736 (by decide) ?_
    refine lv_iadd hx hb dL_law_1737 ?_
    refine W.eq (g2 := F0 m 1738 ls [.int 5, .ref b, .long (((xs 4).toInt64) <<< ((32 : Int32).toInt64 &&& 63)), .int (xs 3), .int (xs 2), .int (xs 1), .ref m0]) rfl ?_
    refine va_sld hx hb hX hbl hbA hS (show vp_in 5 8 by unfold vp_in; decide) dL_law_1738 ?_
    refine W.eq (g2 := F0 m 1739 ls [.int (xs 5), .long (((xs 4).toInt64) <<< ((32 : Int32).toInt64 &&& 63)), .int (xs 3), .int (xs 2), .int (xs 1), .ref m0]) rfl ?_
    refine lv_i2l (v := (xs 5).toInt64) hx hb dL_law_1739 rfl ?_
    refine lv_ldc2 (v := 4294967295) hx hb hown (hG _ gw_2764) dL_law_1740 ?_
    refine lv_land hx hb dL_law_1743 ?_
    refine lv_lor hx hb dL_law_1744 ?_
    refine lv_aload_n hx hb dL_law_1745 rfl (lv_at hl 1 rfl) ?_
    refine lv_iload hx hb dL_law_1746 (lv_at hl 5 rfl) ?_
    refine lv_bipush (v := 6) hx hb dL_law_1748 (by decide) ?_
    refine lv_iadd hx hb dL_law_1750 ?_
    refine W.eq (g2 := F0 m 1751 ls [.int 6, .ref b, .long ((((xs 4).toInt64) <<< ((32 : Int32).toInt64 &&& 63)) ||| (((xs 5).toInt64) &&& 4294967295)), .int (xs 3), .int (xs 2), .int (xs 1), .ref m0]) rfl ?_
    refine va_sld hx hb hX hbl hbA hS (show vp_in 6 8 by unfold vp_in; decide) dL_law_1751 ?_
    refine W.eq (g2 := F0 m 1752 ls [.int (xs 6), .long ((((xs 4).toInt64) <<< ((32 : Int32).toInt64 &&& 63)) ||| (((xs 5).toInt64) &&& 4294967295)), .int (xs 3), .int (xs 2), .int (xs 1), .ref m0]) rfl ?_
    refine lv_i2l (v := (xs 6).toInt64) hx hb dL_law_1752 rfl ?_
    refine lv_bipush (v := 32) hx hb dL_law_1753 (by decide) ?_
    refine lv_lshl (v := ((xs 6).toInt64) <<< ((32 : Int32).toInt64 &&& 63)) hx hb dL_law_1755 rfl ?_
    refine lv_aload_n hx hb dL_law_1756 rfl (lv_at hl 1 rfl) ?_
    refine lv_iload hx hb dL_law_1757 (lv_at hl 5 rfl) ?_
    refine lv_bipush (v := 7) hx hb dL_law_1759 (by decide) ?_
    refine lv_iadd hx hb dL_law_1761 ?_
    refine W.eq (g2 := F0 m 1762 ls [.int 7, .ref b, .long (((xs 6).toInt64) <<< ((32 : Int32).toInt64 &&& 63)), .long ((((xs 4).toInt64) <<< ((32 : Int32).toInt64 &&& 63)) ||| (((xs 5).toInt64) &&& 4294967295)), .int (xs 3), .int (xs 2), .int (xs 1), .ref m0]) rfl ?_
    refine va_sld hx hb hX hbl hbA hS (show vp_in 7 8 by unfold vp_in; decide) dL_law_1762 ?_
    refine W.eq (g2 := F0 m 1763 ls [.int (xs 7), .long (((xs 6).toInt64) <<< ((32 : Int32).toInt64 &&& 63)), .long ((((xs 4).toInt64) <<< ((32 : Int32).toInt64 &&& 63)) ||| (((xs 5).toInt64) &&& 4294967295)), .int (xs 3), .int (xs 2), .int (xs 1), .ref m0]) rfl ?_
    refine lv_i2l (v := (xs 7).toInt64) hx hb dL_law_1763 rfl ?_
    refine lv_ldc2 (v := 4294967295) hx hb hown (hG _ gw_2764) dL_law_1764 ?_
    refine lv_land hx hb dL_law_1767 ?_
    refine lv_lor hx hb dL_law_1768 ?_
    have hPc := hP.sub (ws' := [(m0, .inr (11, y0))]) [0] rfl
    have hDc := hD.sub (ws' := [(m0, .inr (11, y0))]) [0] (by decide) rfl
    have hFc := va_free (wc := [(m0, .inr (11, y0))]) hD hS hA [0] rfl
    refine va_calll (va_runV (As := [.int (xs 1), .int (xs 2), .int (xs 3), .long ((((xs 4).toInt64) <<< ((32 : Int32).toInt64 &&& 63)) ||| (((xs 5).toInt64) &&& 4294967295)), .long ((((xs 6).toInt64) <<< ((32 : Int32).toInt64 &&& 63)) ||| (((xs 7).toInt64) &&& 4294967295))]) (rest := []) ⟨hx, hb, hml, hown, hts⟩ (a155_X12_tell l  D kA V H.size m0 (xs 1) (xs 2) (xs 3) ((((xs 4).toInt64) <<< ((32 : Int32).toInt64 &&& 63)) ||| (((xs 5).toInt64) &&& 4294967295)) ((((xs 6).toInt64) <<< ((32 : Int32).toInt64 &&& 63)) ||| (((xs 7).toInt64) &&& 4294967295)) y0 (fun k hk => (hq k hk)) hq9) (cwV 5 hts (gw_V gw_2760 gw_2761 gw_2762 gw_16 gw_2763) rfl rfl rfl (by decide +kernel) ⟨(Nat.le_of_ble_eq_true rfl), (Nat.le_of_ble_eq_true rfl)⟩) ⟨aP.blind, va_recv hK hP (ci := 11) (q0 := 0) rfl rfl, aP.pre hE hS hPc hK hDc hFc⟩ rfl rfl hl.1 rfl (lv_room (Nat.le_of_ble_eq_true rfl)) dL_law_1769 ⟨(Nat.le_of_ble_eq_true rfl), (Nat.le_of_ble_eq_true rfl)⟩) hS (fun q _ h => hFc q h) hFc (fun r_547 u t H1 locs ht hvm hw hB hz1 hk1 hS => ?_)
    obtain ⟨u_548, rfl⟩ : ∃ z, z = u := ⟨u, rfl⟩
    obtain ⟨hP1, hD1⟩ := hB
    rw [ht] at hP1
    try dsimp only at hw hP1 hD1
    rcases hw with ⟨c_549, c_550, w_551, w_552⟩ | ⟨c_553, c_554, c_555, w_556, w_557⟩ | ⟨c_558, c_559, c_560, c_561, w_562, w_563⟩ | ⟨c_564, c_565, c_566, c_567, c_568, w_569, w_570⟩ | ⟨c_571, c_572, c_573, c_574, c_575, w_576, w_577⟩ | ⟨c_578, c_579, c_580, w_581, w_582⟩ | ⟨c_583, c_584, c_585, c_586, w_587, w_588⟩ | ⟨c_589, c_590, c_591, c_592, c_593, w_594, w_595⟩ | ⟨c_596, c_597, c_598, c_599, c_600, c_601, w_602, w_603⟩ | ⟨c_604, c_605, c_606, c_607, c_608, c_609, w_610, w_611⟩ | ⟨c_612, c_613, c_614, w_615, w_616⟩ | ⟨c_617, c_618, c_619, c_620, w_621, w_622⟩ | ⟨c_623, c_624, c_625, c_626, c_627, w_628, w_629⟩ | ⟨c_630, c_631, c_632, c_633, c_634, c_635, w_636, w_637⟩ | ⟨c_638, c_639, c_640, c_641, c_642, c_643, c_644, c_645, c_646, c_647, c_648, c_649, c_650, c_651, c_652, w_653, w_654⟩ | ⟨c_655, c_656, c_657, c_658, c_659, c_660, c_661, c_662, c_663, c_664, c_665, c_666, c_667, c_668, c_669, w_670, w_671⟩ | ⟨c_672, c_673, c_674, c_675, c_676, c_677, c_678, c_679, c_680, c_681, c_682, c_683, c_684, c_685, w_686, w_687⟩ | ⟨c_688, c_689, c_690, c_691, c_692, c_693, c_694, c_695, c_696, c_697, c_698, c_699, c_700, w_701, w_702⟩ | ⟨c_703, c_704, c_705, c_706, c_707, c_708, c_709, c_710, c_711, c_712, c_713, c_714, w_715, w_716⟩ | ⟨c_717, c_718, c_719, c_720, c_721, c_722, c_723, c_724, c_725, c_726, c_727, w_728, w_729⟩ | ⟨c_730, c_731, c_732, c_733, c_734, c_735, c_736, c_737, c_738, c_739, w_740, w_741⟩ | ⟨c_742, c_743, c_744, c_745, c_746, c_747, c_748, c_749, c_750, w_751, w_752⟩ | ⟨c_753, c_754, c_755, c_756, c_757, c_758, c_759, c_760, c_761, c_762, c_763, c_764, c_765, w_766, w_767⟩ | ⟨c_768, c_769, c_770, c_771, c_772, c_773, c_774, c_775, c_776, c_777, c_778, c_779, c_780, w_781, w_782⟩ | ⟨c_783, c_784, c_785, c_786, c_787, c_788, c_789, c_790, c_791, c_792, c_793, c_794, w_795, w_796⟩ | ⟨c_797, c_798, c_799, c_800, c_801, c_802, c_803, c_804, c_805, c_806, c_807, w_808, w_809⟩ | ⟨c_810, c_811, c_812, c_813, c_814, c_815, c_816, c_817, c_818, c_819, w_820, w_821⟩ | ⟨c_822, c_823, c_824, c_825, c_826, c_827, c_828, c_829, c_830, w_831, w_832⟩ | ⟨c_833, c_834, c_835, c_836, c_837, c_838, c_839, c_840, c_841, c_842, c_843, c_844, c_845, c_846, c_847, w_848, w_849⟩ | ⟨c_850, c_851, c_852, c_853, c_854, c_855, c_856, c_857, c_858, c_859, c_860, c_861, c_862, c_863, c_864, w_865, w_866⟩ | ⟨c_867, c_868, c_869, c_870, c_871, c_872, c_873, c_874, c_875, c_876, c_877, c_878, c_879, c_880, w_881, w_882⟩ | ⟨c_883, c_884, c_885, c_886, c_887, c_888, c_889, c_890, c_891, c_892, c_893, c_894, c_895, w_896, w_897⟩ | ⟨c_898, c_899, c_900, c_901, c_902, c_903, c_904, c_905, c_906, c_907, c_908, c_909, w_910, w_911⟩ | ⟨c_912, c_913, c_914, c_915, c_916, c_917, c_918, c_919, c_920, c_921, c_922, w_923, w_924⟩ | ⟨c_925, c_926, c_927, c_928, c_929, c_930, c_931, c_932, c_933, c_934, w_935, w_936⟩ | ⟨c_937, c_938, c_939, c_940, c_941, c_942, c_943, c_944, c_945, w_946, w_947⟩ | ⟨c_948, c_949, c_950, c_951, c_952, c_953, c_954, c_955, c_956, c_957, c_958, c_959, c_960, w_961, w_962⟩ | ⟨c_963, c_964, c_965, c_966, c_967, c_968, c_969, c_970, c_971, c_972, c_973, c_974, c_975, w_976, w_977⟩ | ⟨c_978, c_979, c_980, c_981, c_982, c_983, c_984, c_985, c_986, c_987, c_988, c_989, w_990, w_991⟩ | ⟨c_992, c_993, c_994, c_995, c_996, c_997, c_998, c_999, c_1000, c_1001, c_1002, w_1003, w_1004⟩ | ⟨c_1005, c_1006, c_1007, c_1008, c_1009, c_1010, c_1011, c_1012, c_1013, c_1014, w_1015, w_1016⟩ | ⟨c_1017, c_1018, c_1019, c_1020, c_1021, c_1022, c_1023, c_1024, c_1025, w_1026, w_1027⟩
    · skip
      subst w_551
      subst w_552
      exact absurd c_550 c_6
    · skip
      subst w_556
      subst w_557
      obtain ⟨hP, hD⟩ := va_join (wr := [(h0, .inr (10, [.ref x0, .int 0, .ref x1, .ref x2, .ref x3, .ref x4, .ref x5, .ref x6, .ref x7, .ref x8, .int 0, .int 3000])), (o0, .inl (kA 1, 1, .inr (.inl (fun _ => 0))))]) (w1 := [(m0, .inr (11, y0.set 9 (.int 1)))]) hP hD [0] [1, 2] rfl rfl (by decide) (by decide) hk1 hFc hP1 hD1
      generalize H1 = H at hP hS ⊢
      have hP : va_P D vwCl [(h0, .inr (10, [.ref x0, .int 0, .ref x1, .ref x2, .ref x3, .ref x4, .ref x5, .ref x6, .ref x7, .ref x8, .int 0, .int 3000])), (o0, .inl (kA 1, 1, .inr (.inl (fun _ => 0)))), (m0, .inr (11, y0.set 9 (.int 1)))] H := hP
      have hD : va_D A [(h0, .inr (10, [.ref x0, .int 0, .ref x1, .ref x2, .ref x3, .ref x4, .ref x5, .ref x6, .ref x7, .ref x8, .int 0, .int 3000])), (o0, .inl (kA 1, 1, .inr (.inl (fun _ => 0)))), (m0, .inr (11, y0.set 9 (.int 1)))] := hD
      refine lv_lstore (lv' := [(6, .long 0), (5, .int 1), (0, .ref b), (1, .ref h0), (2, .ref m0), (3, .ref o0), (4, .int 0)]) hx hb dL_law_1772 hl (by decide) rfl (fun ls hl => ?_)
      refine lv_aload_n hx hb dL_law_1774 rfl (lv_at hl 4 rfl) ?_
      have hPc := hP.sub (ws' := [(m0, .inr (11, y0.set 9 (.int 1)))]) [2] rfl
      have hDc := hD.sub (ws' := [(m0, .inr (11, y0.set 9 (.int 1)))]) [2] (by decide) rfl
      have hFc := va_free (wc := [(m0, .inr (11, y0.set 9 (.int 1)))]) hD hS hA [2] rfl
      refine va_calli (va_runV (As := []) (rest := []) ⟨hx, hb, hml, hown, hts⟩ (a174_X12_thrown l  D kA V H.size m0 (y0.set 9 (.int 1)) (fun k hk => (by rw [List.length_set]; exact (hq k hk))) (List.getElem?_set_self (hq 9 (by decide)))) (cwV 0 hts (gw_V gw_1879 gw_1880 gw_1881 gw_16 gw_1882) rfl rfl rfl (by decide +kernel) ⟨(Nat.le_of_ble_eq_true rfl), (Nat.le_of_ble_eq_true rfl)⟩) ⟨aP.blind, va_recv hK hP (ci := 11) (q0 := 2) rfl rfl, aP.pre hE hS hPc hK hDc hFc⟩ rfl rfl hl.1 rfl (lv_room (Nat.le_of_ble_eq_true rfl)) dL_law_1775 ⟨(Nat.le_of_ble_eq_true rfl), (Nat.le_of_ble_eq_true rfl)⟩) hS (fun q _ h => hFc q h) hFc (fun r_1028 u t H1 locs ht hvm hw hB hz1 hk1 hS => ?_)
      obtain ⟨hP1, hD1⟩ := hB
      rw [ht] at hP1
      try dsimp only at hw hP1 hD1
      have w_1029 := hw
      subst w_1029
      obtain ⟨hP, hD⟩ := va_join (wr := [(h0, .inr (10, [.ref x0, .int 0, .ref x1, .ref x2, .ref x3, .ref x4, .ref x5, .ref x6, .ref x7, .ref x8, .int 0, .int 3000])), (o0, .inl (kA 1, 1, .inr (.inl (fun _ => 0))))]) (w1 := [(m0, .inr (11, (y0.set 9 (.int 1))))]) hP hD [2] [0, 1] rfl rfl (by decide) (by decide) hk1 hFc hP1 hD1
      generalize H1 = H at hP hS ⊢
      have hP : va_P D vwCl [(h0, .inr (10, [.ref x0, .int 0, .ref x1, .ref x2, .ref x3, .ref x4, .ref x5, .ref x6, .ref x7, .ref x8, .int 0, .int 3000])), (o0, .inl (kA 1, 1, .inr (.inl (fun _ => 0)))), (m0, .inr (11, (y0.set 9 (.int 1))))] H := hP
      have hD : va_D A [(h0, .inr (10, [.ref x0, .int 0, .ref x1, .ref x2, .ref x3, .ref x4, .ref x5, .ref x6, .ref x7, .ref x8, .int 0, .int 3000])), (o0, .inl (kA 1, 1, .inr (.inl (fun _ => 0)))), (m0, .inr (11, (y0.set 9 (.int 1))))] := hD
      refine lv_iload hx hb dL_law_1778 (lv_at hl 1 rfl) ?_
      refine lv_icmp_eq (tgt := 1785) hx hb dL_law_1780 (by decide) (fun c_1030 => ?_) (fun c_1030 => ?_)
      · skip
        refine lv_iload hx hb dL_law_1785 (lv_at hl 1 rfl) ?_
        refine lv_if_ne (tgt := 1801) hx hb dL_law_1787 (by decide) (fun c_1031 => ?_) (fun c_1031 => ?_)
        · skip
          refine lv_goto (tgt := 1804) hx hb dL_law_1801 (by decide) ?_
          exact lk_tail hC hA2 (lv_sub hl [2, 6] rfl) hS (Nat.le_of_ble_eq_true rfl) (Nat.le_of_ble_eq_true rfl)
        · exact absurd c_1031 (by decide)
      · exact absurd (by decide) c_1030
    · skip
      subst w_562
      subst w_563
      exact absurd c_7 c_560
    · skip
      subst w_569
      subst w_570
      exact absurd c_7 c_566
    · skip
      subst w_576
      subst w_577
      exact absurd c_7 c_573
    · skip
      subst w_581
      subst w_582
      exact absurd c_580 c_6
    · skip
      subst w_587
      subst w_588
      obtain ⟨hP, hD⟩ := va_join (wr := [(h0, .inr (10, [.ref x0, .int 0, .ref x1, .ref x2, .ref x3, .ref x4, .ref x5, .ref x6, .ref x7, .ref x8, .int 0, .int 3000])), (o0, .inl (kA 1, 1, .inr (.inl (fun _ => 0))))]) (w1 := [(m0, .inr (11, y0.set 9 (.int 1)))]) hP hD [0] [1, 2] rfl rfl (by decide) (by decide) hk1 hFc hP1 hD1
      generalize H1 = H at hP hS ⊢
      have hP : va_P D vwCl [(h0, .inr (10, [.ref x0, .int 0, .ref x1, .ref x2, .ref x3, .ref x4, .ref x5, .ref x6, .ref x7, .ref x8, .int 0, .int 3000])), (o0, .inl (kA 1, 1, .inr (.inl (fun _ => 0)))), (m0, .inr (11, y0.set 9 (.int 1)))] H := hP
      have hD : va_D A [(h0, .inr (10, [.ref x0, .int 0, .ref x1, .ref x2, .ref x3, .ref x4, .ref x5, .ref x6, .ref x7, .ref x8, .int 0, .int 3000])), (o0, .inl (kA 1, 1, .inr (.inl (fun _ => 0)))), (m0, .inr (11, y0.set 9 (.int 1)))] := hD
      refine lv_lstore (lv' := [(6, .long 0), (5, .int 1), (0, .ref b), (1, .ref h0), (2, .ref m0), (3, .ref o0), (4, .int 0)]) hx hb dL_law_1772 hl (by decide) rfl (fun ls hl => ?_)
      refine lv_aload_n hx hb dL_law_1774 rfl (lv_at hl 4 rfl) ?_
      have hPc := hP.sub (ws' := [(m0, .inr (11, y0.set 9 (.int 1)))]) [2] rfl
      have hDc := hD.sub (ws' := [(m0, .inr (11, y0.set 9 (.int 1)))]) [2] (by decide) rfl
      have hFc := va_free (wc := [(m0, .inr (11, y0.set 9 (.int 1)))]) hD hS hA [2] rfl
      refine va_calli (va_runV (As := []) (rest := []) ⟨hx, hb, hml, hown, hts⟩ (a174_X12_thrown l  D kA V H.size m0 (y0.set 9 (.int 1)) (fun k hk => (by rw [List.length_set]; exact (hq k hk))) (List.getElem?_set_self (hq 9 (by decide)))) (cwV 0 hts (gw_V gw_1879 gw_1880 gw_1881 gw_16 gw_1882) rfl rfl rfl (by decide +kernel) ⟨(Nat.le_of_ble_eq_true rfl), (Nat.le_of_ble_eq_true rfl)⟩) ⟨aP.blind, va_recv hK hP (ci := 11) (q0 := 2) rfl rfl, aP.pre hE hS hPc hK hDc hFc⟩ rfl rfl hl.1 rfl (lv_room (Nat.le_of_ble_eq_true rfl)) dL_law_1775 ⟨(Nat.le_of_ble_eq_true rfl), (Nat.le_of_ble_eq_true rfl)⟩) hS (fun q _ h => hFc q h) hFc (fun r_1032 u t H1 locs ht hvm hw hB hz1 hk1 hS => ?_)
      obtain ⟨hP1, hD1⟩ := hB
      rw [ht] at hP1
      try dsimp only at hw hP1 hD1
      have w_1033 := hw
      subst w_1033
      obtain ⟨hP, hD⟩ := va_join (wr := [(h0, .inr (10, [.ref x0, .int 0, .ref x1, .ref x2, .ref x3, .ref x4, .ref x5, .ref x6, .ref x7, .ref x8, .int 0, .int 3000])), (o0, .inl (kA 1, 1, .inr (.inl (fun _ => 0))))]) (w1 := [(m0, .inr (11, (y0.set 9 (.int 1))))]) hP hD [2] [0, 1] rfl rfl (by decide) (by decide) hk1 hFc hP1 hD1
      generalize H1 = H at hP hS ⊢
      have hP : va_P D vwCl [(h0, .inr (10, [.ref x0, .int 0, .ref x1, .ref x2, .ref x3, .ref x4, .ref x5, .ref x6, .ref x7, .ref x8, .int 0, .int 3000])), (o0, .inl (kA 1, 1, .inr (.inl (fun _ => 0)))), (m0, .inr (11, (y0.set 9 (.int 1))))] H := hP
      have hD : va_D A [(h0, .inr (10, [.ref x0, .int 0, .ref x1, .ref x2, .ref x3, .ref x4, .ref x5, .ref x6, .ref x7, .ref x8, .int 0, .int 3000])), (o0, .inl (kA 1, 1, .inr (.inl (fun _ => 0)))), (m0, .inr (11, (y0.set 9 (.int 1))))] := hD
      refine lv_iload hx hb dL_law_1778 (lv_at hl 1 rfl) ?_
      refine lv_icmp_eq (tgt := 1785) hx hb dL_law_1780 (by decide) (fun c_1034 => ?_) (fun c_1034 => ?_)
      · skip
        refine lv_iload hx hb dL_law_1785 (lv_at hl 1 rfl) ?_
        refine lv_if_ne (tgt := 1801) hx hb dL_law_1787 (by decide) (fun c_1035 => ?_) (fun c_1035 => ?_)
        · skip
          refine lv_goto (tgt := 1804) hx hb dL_law_1801 (by decide) ?_
          exact lk_tail hC hA2 (lv_sub hl [2, 6] rfl) hS (Nat.le_of_ble_eq_true rfl) (Nat.le_of_ble_eq_true rfl)
        · exact absurd c_1035 (by decide)
      · exact absurd (by decide) c_1034
    · skip
      subst w_594
      subst w_595
      exact absurd c_7 c_592
    · skip
      subst w_602
      subst w_603
      exact absurd c_7 c_599
    · skip
      subst w_610
      subst w_611
      exact absurd c_7 c_607
    · skip
      subst w_615
      subst w_616
      exact absurd c_614 c_6
    · skip
      subst w_621
      subst w_622
      obtain ⟨hP, hD⟩ := va_join (wr := [(h0, .inr (10, [.ref x0, .int 0, .ref x1, .ref x2, .ref x3, .ref x4, .ref x5, .ref x6, .ref x7, .ref x8, .int 0, .int 3000])), (o0, .inl (kA 1, 1, .inr (.inl (fun _ => 0))))]) (w1 := [(m0, .inr (11, y0.set 9 (.int 1)))]) hP hD [0] [1, 2] rfl rfl (by decide) (by decide) hk1 hFc hP1 hD1
      generalize H1 = H at hP hS ⊢
      have hP : va_P D vwCl [(h0, .inr (10, [.ref x0, .int 0, .ref x1, .ref x2, .ref x3, .ref x4, .ref x5, .ref x6, .ref x7, .ref x8, .int 0, .int 3000])), (o0, .inl (kA 1, 1, .inr (.inl (fun _ => 0)))), (m0, .inr (11, y0.set 9 (.int 1)))] H := hP
      have hD : va_D A [(h0, .inr (10, [.ref x0, .int 0, .ref x1, .ref x2, .ref x3, .ref x4, .ref x5, .ref x6, .ref x7, .ref x8, .int 0, .int 3000])), (o0, .inl (kA 1, 1, .inr (.inl (fun _ => 0)))), (m0, .inr (11, y0.set 9 (.int 1)))] := hD
      refine lv_lstore (lv' := [(6, .long 0), (5, .int 1), (0, .ref b), (1, .ref h0), (2, .ref m0), (3, .ref o0), (4, .int 0)]) hx hb dL_law_1772 hl (by decide) rfl (fun ls hl => ?_)
      refine lv_aload_n hx hb dL_law_1774 rfl (lv_at hl 4 rfl) ?_
      have hPc := hP.sub (ws' := [(m0, .inr (11, y0.set 9 (.int 1)))]) [2] rfl
      have hDc := hD.sub (ws' := [(m0, .inr (11, y0.set 9 (.int 1)))]) [2] (by decide) rfl
      have hFc := va_free (wc := [(m0, .inr (11, y0.set 9 (.int 1)))]) hD hS hA [2] rfl
      refine va_calli (va_runV (As := []) (rest := []) ⟨hx, hb, hml, hown, hts⟩ (a174_X12_thrown l  D kA V H.size m0 (y0.set 9 (.int 1)) (fun k hk => (by rw [List.length_set]; exact (hq k hk))) (List.getElem?_set_self (hq 9 (by decide)))) (cwV 0 hts (gw_V gw_1879 gw_1880 gw_1881 gw_16 gw_1882) rfl rfl rfl (by decide +kernel) ⟨(Nat.le_of_ble_eq_true rfl), (Nat.le_of_ble_eq_true rfl)⟩) ⟨aP.blind, va_recv hK hP (ci := 11) (q0 := 2) rfl rfl, aP.pre hE hS hPc hK hDc hFc⟩ rfl rfl hl.1 rfl (lv_room (Nat.le_of_ble_eq_true rfl)) dL_law_1775 ⟨(Nat.le_of_ble_eq_true rfl), (Nat.le_of_ble_eq_true rfl)⟩) hS (fun q _ h => hFc q h) hFc (fun r_1036 u t H1 locs ht hvm hw hB hz1 hk1 hS => ?_)
      obtain ⟨hP1, hD1⟩ := hB
      rw [ht] at hP1
      try dsimp only at hw hP1 hD1
      have w_1037 := hw
      subst w_1037
      obtain ⟨hP, hD⟩ := va_join (wr := [(h0, .inr (10, [.ref x0, .int 0, .ref x1, .ref x2, .ref x3, .ref x4, .ref x5, .ref x6, .ref x7, .ref x8, .int 0, .int 3000])), (o0, .inl (kA 1, 1, .inr (.inl (fun _ => 0))))]) (w1 := [(m0, .inr (11, (y0.set 9 (.int 1))))]) hP hD [2] [0, 1] rfl rfl (by decide) (by decide) hk1 hFc hP1 hD1
      generalize H1 = H at hP hS ⊢
      have hP : va_P D vwCl [(h0, .inr (10, [.ref x0, .int 0, .ref x1, .ref x2, .ref x3, .ref x4, .ref x5, .ref x6, .ref x7, .ref x8, .int 0, .int 3000])), (o0, .inl (kA 1, 1, .inr (.inl (fun _ => 0)))), (m0, .inr (11, (y0.set 9 (.int 1))))] H := hP
      have hD : va_D A [(h0, .inr (10, [.ref x0, .int 0, .ref x1, .ref x2, .ref x3, .ref x4, .ref x5, .ref x6, .ref x7, .ref x8, .int 0, .int 3000])), (o0, .inl (kA 1, 1, .inr (.inl (fun _ => 0)))), (m0, .inr (11, (y0.set 9 (.int 1))))] := hD
      refine lv_iload hx hb dL_law_1778 (lv_at hl 1 rfl) ?_
      refine lv_icmp_eq (tgt := 1785) hx hb dL_law_1780 (by decide) (fun c_1038 => ?_) (fun c_1038 => ?_)
      · skip
        refine lv_iload hx hb dL_law_1785 (lv_at hl 1 rfl) ?_
        refine lv_if_ne (tgt := 1801) hx hb dL_law_1787 (by decide) (fun c_1039 => ?_) (fun c_1039 => ?_)
        · skip
          refine lv_goto (tgt := 1804) hx hb dL_law_1801 (by decide) ?_
          exact lk_tail hC hA2 (lv_sub hl [2, 6] rfl) hS (Nat.le_of_ble_eq_true rfl) (Nat.le_of_ble_eq_true rfl)
        · exact absurd c_1039 (by decide)
      · exact absurd (by decide) c_1038
    · skip
      subst w_628
      subst w_629
      exact absurd c_7 c_626
    · skip
      subst w_636
      subst w_637
      exact absurd c_7 c_633
    · skip
      subst w_653
      subst w_654
      exact absurd c_7 c_641
    · skip
      subst w_670
      subst w_671
      exact absurd c_7 c_658
    · skip
      subst w_686
      subst w_687
      exact absurd c_7 c_675
    · skip
      subst w_701
      subst w_702
      exact absurd c_7 c_691
    · skip
      subst w_715
      subst w_716
      exact absurd c_7 c_706
    · skip
      subst w_728
      subst w_729
      exact absurd c_7 c_720
    · skip
      subst w_740
      subst w_741
      exact absurd c_7 c_733
    · skip
      subst w_751
      subst w_752
      exact absurd c_7 c_745
    · skip
      subst w_766
      subst w_767
      exact absurd c_7 c_756
    · skip
      subst w_781
      subst w_782
      exact absurd c_7 c_771
    · skip
      subst w_795
      subst w_796
      exact absurd c_7 c_786
    · skip
      subst w_808
      subst w_809
      exact absurd c_7 c_800
    · skip
      subst w_820
      subst w_821
      exact absurd c_7 c_813
    · skip
      subst w_831
      subst w_832
      exact absurd c_7 c_825
    · skip
      subst w_848
      subst w_849
      exact absurd c_7 c_836
    · skip
      subst w_865
      subst w_866
      exact absurd c_7 c_853
    · skip
      subst w_881
      subst w_882
      exact absurd c_7 c_870
    · skip
      subst w_896
      subst w_897
      exact absurd c_7 c_886
    · skip
      subst w_910
      subst w_911
      exact absurd c_7 c_901
    · skip
      subst w_923
      subst w_924
      exact absurd c_7 c_915
    · skip
      subst w_935
      subst w_936
      exact absurd c_7 c_928
    · skip
      subst w_946
      subst w_947
      exact absurd c_7 c_940
    · skip
      subst w_961
      subst w_962
      exact absurd c_7 c_951
    · skip
      subst w_976
      subst w_977
      exact absurd c_7 c_966
    · skip
      subst w_990
      subst w_991
      exact absurd c_7 c_981
    · skip
      subst w_1003
      subst w_1004
      exact absurd c_7 c_995
    · skip
      subst w_1015
      subst w_1016
      exact absurd c_7 c_1008
    · skip
      subst w_1026
      subst w_1027
      exact absurd c_7 c_1020
  · skip
    subst w_13
    subst w_14
    obtain ⟨hP, hD⟩ := va_join (wr := [(m0, .inr (11, y0))]) (w1 := [(h0, .inr (10, [.ref x0, .int 0, .ref x1, .ref x2, .ref x3, .ref x4, .ref x5, .ref x6, .ref x7, .ref x8, .int 0, .int 3000])), (o0, .inl (kA 1, 1, .inr (.inl (fun _ => 0))))]) hP hD [0, 2] [1] rfl rfl (by decide) (by decide) hk1 hFc hP1 hD1
    generalize H1 = H at hP hS ⊢
    have hP : va_P D vwCl [(m0, .inr (11, y0)), (h0, .inr (10, [.ref x0, .int 0, .ref x1, .ref x2, .ref x3, .ref x4, .ref x5, .ref x6, .ref x7, .ref x8, .int 0, .int 3000])), (o0, .inl (kA 1, 1, .inr (.inl (fun _ => 0))))] H := hP
    have hD : va_D A [(m0, .inr (11, y0)), (h0, .inr (10, [.ref x0, .int 0, .ref x1, .ref x2, .ref x3, .ref x4, .ref x5, .ref x6, .ref x7, .ref x8, .int 0, .int 3000])), (o0, .inl (kA 1, 1, .inr (.inl (fun _ => 0))))] := hD
    refine lv_istore (lv' := [(5, .int 1), (0, .ref b), (1, .ref h0), (2, .ref m0), (3, .ref o0), (4, .int 0)]) hx hb dL_law_1702 hl (by decide) rfl (fun ls hl => ?_)
    refine lv_aload_n hx hb dL_law_1704 rfl (lv_at hl 3 rfl) ?_
    refine lv_aload_n hx hb dL_law_1705 rfl (lv_at hl 1 rfl) ?_
    refine lv_iload hx hb dL_law_1706 (lv_at hl 5 rfl) ?_
    refine lv_iconst (v := 1) hx hb dL_law_1708 (by decide) ?_
    refine lv_iadd hx hb dL_law_1709 ?_
    refine W.eq (g2 := F0 m 1710 ls [.int 1, .ref b, .ref m0]) rfl ?_
    refine va_sld hx hb hX hbl hbA hS (show vp_in 1 8 by unfold vp_in; decide) dL_law_1710 ?_
    refine W.eq (g2 := F0 m 1711 ls [.int (xs 1), .ref m0]) rfl ?_
    refine lv_aload_n hx hb dL_law_1711 rfl (lv_at hl 1 rfl) ?_
    refine lv_iload hx hb dL_law_1712 (lv_at hl 5 rfl) ?_
    refine lv_iconst (v := 2) hx hb dL_law_1714 (by decide) ?_
    refine lv_iadd hx hb dL_law_1715 ?_
    refine W.eq (g2 := F0 m 1716 ls [.int 2, .ref b, .int (xs 1), .ref m0]) rfl ?_
    refine va_sld hx hb hX hbl hbA hS (show vp_in 2 8 by unfold vp_in; decide) dL_law_1716 ?_
    refine W.eq (g2 := F0 m 1717 ls [.int (xs 2), .int (xs 1), .ref m0]) rfl ?_
    refine lv_aload_n hx hb dL_law_1717 rfl (lv_at hl 1 rfl) ?_
    refine lv_iload hx hb dL_law_1718 (lv_at hl 5 rfl) ?_
    refine lv_iconst (v := 3) hx hb dL_law_1720 (by decide) ?_
    refine lv_iadd hx hb dL_law_1721 ?_
    refine W.eq (g2 := F0 m 1722 ls [.int 3, .ref b, .int (xs 2), .int (xs 1), .ref m0]) rfl ?_
    refine va_sld hx hb hX hbl hbA hS (show vp_in 3 8 by unfold vp_in; decide) dL_law_1722 ?_
    refine W.eq (g2 := F0 m 1723 ls [.int (xs 3), .int (xs 2), .int (xs 1), .ref m0]) rfl ?_
    refine lv_aload_n hx hb dL_law_1723 rfl (lv_at hl 1 rfl) ?_
    refine lv_iload hx hb dL_law_1724 (lv_at hl 5 rfl) ?_
    refine lv_iconst (v := 4) hx hb dL_law_1726 (by decide) ?_
    refine lv_iadd hx hb dL_law_1727 ?_
    refine W.eq (g2 := F0 m 1728 ls [.int 4, .ref b, .int (xs 3), .int (xs 2), .int (xs 1), .ref m0]) rfl ?_
    refine va_sld hx hb hX hbl hbA hS (show vp_in 4 8 by unfold vp_in; decide) dL_law_1728 ?_
    refine W.eq (g2 := F0 m 1729 ls [.int (xs 4), .int (xs 3), .int (xs 2), .int (xs 1), .ref m0]) rfl ?_
    refine lv_i2l (v := (xs 4).toInt64) hx hb dL_law_1729 rfl ?_
    refine lv_bipush (v := 32) hx hb dL_law_1730 (by decide) ?_
    refine lv_lshl (v := ((xs 4).toInt64) <<< ((32 : Int32).toInt64 &&& 63)) hx hb dL_law_1732 rfl ?_
    refine lv_aload_n hx hb dL_law_1733 rfl (lv_at hl 1 rfl) ?_
    refine lv_iload hx hb dL_law_1734 (lv_at hl 5 rfl) ?_
    refine lv_iconst (v := 5) hx hb dL_law_1736 (by decide) ?_
    refine lv_iadd hx hb dL_law_1737 ?_
    refine W.eq (g2 := F0 m 1738 ls [.int 5, .ref b, .long (((xs 4).toInt64) <<< ((32 : Int32).toInt64 &&& 63)), .int (xs 3), .int (xs 2), .int (xs 1), .ref m0]) rfl ?_
    refine va_sld hx hb hX hbl hbA hS (show vp_in 5 8 by unfold vp_in; decide) dL_law_1738 ?_
    refine W.eq (g2 := F0 m 1739 ls [.int (xs 5), .long (((xs 4).toInt64) <<< ((32 : Int32).toInt64 &&& 63)), .int (xs 3), .int (xs 2), .int (xs 1), .ref m0]) rfl ?_
    refine lv_i2l (v := (xs 5).toInt64) hx hb dL_law_1739 rfl ?_
    refine lv_ldc2 (v := 4294967295) hx hb hown (hG _ gw_2764) dL_law_1740 ?_
    refine lv_land hx hb dL_law_1743 ?_
    refine lv_lor hx hb dL_law_1744 ?_
    refine lv_aload_n hx hb dL_law_1745 rfl (lv_at hl 1 rfl) ?_
    refine lv_iload hx hb dL_law_1746 (lv_at hl 5 rfl) ?_
    refine lv_bipush (v := 6) hx hb dL_law_1748 (by decide) ?_
    refine lv_iadd hx hb dL_law_1750 ?_
    refine W.eq (g2 := F0 m 1751 ls [.int 6, .ref b, .long ((((xs 4).toInt64) <<< ((32 : Int32).toInt64 &&& 63)) ||| (((xs 5).toInt64) &&& 4294967295)), .int (xs 3), .int (xs 2), .int (xs 1), .ref m0]) rfl ?_
    refine va_sld hx hb hX hbl hbA hS (show vp_in 6 8 by unfold vp_in; decide) dL_law_1751 ?_
    refine W.eq (g2 := F0 m 1752 ls [.int (xs 6), .long ((((xs 4).toInt64) <<< ((32 : Int32).toInt64 &&& 63)) ||| (((xs 5).toInt64) &&& 4294967295)), .int (xs 3), .int (xs 2), .int (xs 1), .ref m0]) rfl ?_
    refine lv_i2l (v := (xs 6).toInt64) hx hb dL_law_1752 rfl ?_
    refine lv_bipush (v := 32) hx hb dL_law_1753 (by decide) ?_
    refine lv_lshl (v := ((xs 6).toInt64) <<< ((32 : Int32).toInt64 &&& 63)) hx hb dL_law_1755 rfl ?_
    refine lv_aload_n hx hb dL_law_1756 rfl (lv_at hl 1 rfl) ?_
    refine lv_iload hx hb dL_law_1757 (lv_at hl 5 rfl) ?_
    refine lv_bipush (v := 7) hx hb dL_law_1759 (by decide) ?_
    refine lv_iadd hx hb dL_law_1761 ?_
    refine W.eq (g2 := F0 m 1762 ls [.int 7, .ref b, .long (((xs 6).toInt64) <<< ((32 : Int32).toInt64 &&& 63)), .long ((((xs 4).toInt64) <<< ((32 : Int32).toInt64 &&& 63)) ||| (((xs 5).toInt64) &&& 4294967295)), .int (xs 3), .int (xs 2), .int (xs 1), .ref m0]) rfl ?_
    refine va_sld hx hb hX hbl hbA hS (show vp_in 7 8 by unfold vp_in; decide) dL_law_1762 ?_
    refine W.eq (g2 := F0 m 1763 ls [.int (xs 7), .long (((xs 6).toInt64) <<< ((32 : Int32).toInt64 &&& 63)), .long ((((xs 4).toInt64) <<< ((32 : Int32).toInt64 &&& 63)) ||| (((xs 5).toInt64) &&& 4294967295)), .int (xs 3), .int (xs 2), .int (xs 1), .ref m0]) rfl ?_
    refine lv_i2l (v := (xs 7).toInt64) hx hb dL_law_1763 rfl ?_
    refine lv_ldc2 (v := 4294967295) hx hb hown (hG _ gw_2764) dL_law_1764 ?_
    refine lv_land hx hb dL_law_1767 ?_
    refine lv_lor hx hb dL_law_1768 ?_
    have hPc := hP.sub (ws' := [(m0, .inr (11, y0))]) [0] rfl
    have hDc := hD.sub (ws' := [(m0, .inr (11, y0))]) [0] (by decide) rfl
    have hFc := va_free (wc := [(m0, .inr (11, y0))]) hD hS hA [0] rfl
    refine va_calll (va_runV (As := [.int (xs 1), .int (xs 2), .int (xs 3), .long ((((xs 4).toInt64) <<< ((32 : Int32).toInt64 &&& 63)) ||| (((xs 5).toInt64) &&& 4294967295)), .long ((((xs 6).toInt64) <<< ((32 : Int32).toInt64 &&& 63)) ||| (((xs 7).toInt64) &&& 4294967295))]) (rest := []) ⟨hx, hb, hml, hown, hts⟩ (a155_X12_tell l  D kA V H.size m0 (xs 1) (xs 2) (xs 3) ((((xs 4).toInt64) <<< ((32 : Int32).toInt64 &&& 63)) ||| (((xs 5).toInt64) &&& 4294967295)) ((((xs 6).toInt64) <<< ((32 : Int32).toInt64 &&& 63)) ||| (((xs 7).toInt64) &&& 4294967295)) y0 (fun k hk => (hq k hk)) hq9) (cwV 5 hts (gw_V gw_2760 gw_2761 gw_2762 gw_16 gw_2763) rfl rfl rfl (by decide +kernel) ⟨(Nat.le_of_ble_eq_true rfl), (Nat.le_of_ble_eq_true rfl)⟩) ⟨aP.blind, va_recv hK hP (ci := 11) (q0 := 0) rfl rfl, aP.pre hE hS hPc hK hDc hFc⟩ rfl rfl hl.1 rfl (lv_room (Nat.le_of_ble_eq_true rfl)) dL_law_1769 ⟨(Nat.le_of_ble_eq_true rfl), (Nat.le_of_ble_eq_true rfl)⟩) hS (fun q _ h => hFc q h) hFc (fun r_1040 u t H1 locs ht hvm hw hB hz1 hk1 hS => ?_)
    obtain ⟨u_1041, rfl⟩ : ∃ z, z = u := ⟨u, rfl⟩
    obtain ⟨hP1, hD1⟩ := hB
    rw [ht] at hP1
    try dsimp only at hw hP1 hD1
    rcases hw with ⟨c_1042, c_1043, w_1044, w_1045⟩ | ⟨c_1046, c_1047, c_1048, w_1049, w_1050⟩ | ⟨c_1051, c_1052, c_1053, c_1054, w_1055, w_1056⟩ | ⟨c_1057, c_1058, c_1059, c_1060, c_1061, w_1062, w_1063⟩ | ⟨c_1064, c_1065, c_1066, c_1067, c_1068, w_1069, w_1070⟩ | ⟨c_1071, c_1072, c_1073, w_1074, w_1075⟩ | ⟨c_1076, c_1077, c_1078, c_1079, w_1080, w_1081⟩ | ⟨c_1082, c_1083, c_1084, c_1085, c_1086, w_1087, w_1088⟩ | ⟨c_1089, c_1090, c_1091, c_1092, c_1093, c_1094, w_1095, w_1096⟩ | ⟨c_1097, c_1098, c_1099, c_1100, c_1101, c_1102, w_1103, w_1104⟩ | ⟨c_1105, c_1106, c_1107, w_1108, w_1109⟩ | ⟨c_1110, c_1111, c_1112, c_1113, w_1114, w_1115⟩ | ⟨c_1116, c_1117, c_1118, c_1119, c_1120, w_1121, w_1122⟩ | ⟨c_1123, c_1124, c_1125, c_1126, c_1127, c_1128, w_1129, w_1130⟩ | ⟨c_1131, c_1132, c_1133, c_1134, c_1135, c_1136, c_1137, c_1138, c_1139, c_1140, c_1141, c_1142, c_1143, c_1144, c_1145, w_1146, w_1147⟩ | ⟨c_1148, c_1149, c_1150, c_1151, c_1152, c_1153, c_1154, c_1155, c_1156, c_1157, c_1158, c_1159, c_1160, c_1161, c_1162, w_1163, w_1164⟩ | ⟨c_1165, c_1166, c_1167, c_1168, c_1169, c_1170, c_1171, c_1172, c_1173, c_1174, c_1175, c_1176, c_1177, c_1178, w_1179, w_1180⟩ | ⟨c_1181, c_1182, c_1183, c_1184, c_1185, c_1186, c_1187, c_1188, c_1189, c_1190, c_1191, c_1192, c_1193, w_1194, w_1195⟩ | ⟨c_1196, c_1197, c_1198, c_1199, c_1200, c_1201, c_1202, c_1203, c_1204, c_1205, c_1206, c_1207, w_1208, w_1209⟩ | ⟨c_1210, c_1211, c_1212, c_1213, c_1214, c_1215, c_1216, c_1217, c_1218, c_1219, c_1220, w_1221, w_1222⟩ | ⟨c_1223, c_1224, c_1225, c_1226, c_1227, c_1228, c_1229, c_1230, c_1231, c_1232, w_1233, w_1234⟩ | ⟨c_1235, c_1236, c_1237, c_1238, c_1239, c_1240, c_1241, c_1242, c_1243, w_1244, w_1245⟩ | ⟨c_1246, c_1247, c_1248, c_1249, c_1250, c_1251, c_1252, c_1253, c_1254, c_1255, c_1256, c_1257, c_1258, w_1259, w_1260⟩ | ⟨c_1261, c_1262, c_1263, c_1264, c_1265, c_1266, c_1267, c_1268, c_1269, c_1270, c_1271, c_1272, c_1273, w_1274, w_1275⟩ | ⟨c_1276, c_1277, c_1278, c_1279, c_1280, c_1281, c_1282, c_1283, c_1284, c_1285, c_1286, c_1287, w_1288, w_1289⟩ | ⟨c_1290, c_1291, c_1292, c_1293, c_1294, c_1295, c_1296, c_1297, c_1298, c_1299, c_1300, w_1301, w_1302⟩ | ⟨c_1303, c_1304, c_1305, c_1306, c_1307, c_1308, c_1309, c_1310, c_1311, c_1312, w_1313, w_1314⟩ | ⟨c_1315, c_1316, c_1317, c_1318, c_1319, c_1320, c_1321, c_1322, c_1323, w_1324, w_1325⟩ | ⟨c_1326, c_1327, c_1328, c_1329, c_1330, c_1331, c_1332, c_1333, c_1334, c_1335, c_1336, c_1337, c_1338, c_1339, c_1340, w_1341, w_1342⟩ | ⟨c_1343, c_1344, c_1345, c_1346, c_1347, c_1348, c_1349, c_1350, c_1351, c_1352, c_1353, c_1354, c_1355, c_1356, c_1357, w_1358, w_1359⟩ | ⟨c_1360, c_1361, c_1362, c_1363, c_1364, c_1365, c_1366, c_1367, c_1368, c_1369, c_1370, c_1371, c_1372, c_1373, w_1374, w_1375⟩ | ⟨c_1376, c_1377, c_1378, c_1379, c_1380, c_1381, c_1382, c_1383, c_1384, c_1385, c_1386, c_1387, c_1388, w_1389, w_1390⟩ | ⟨c_1391, c_1392, c_1393, c_1394, c_1395, c_1396, c_1397, c_1398, c_1399, c_1400, c_1401, c_1402, w_1403, w_1404⟩ | ⟨c_1405, c_1406, c_1407, c_1408, c_1409, c_1410, c_1411, c_1412, c_1413, c_1414, c_1415, w_1416, w_1417⟩ | ⟨c_1418, c_1419, c_1420, c_1421, c_1422, c_1423, c_1424, c_1425, c_1426, c_1427, w_1428, w_1429⟩ | ⟨c_1430, c_1431, c_1432, c_1433, c_1434, c_1435, c_1436, c_1437, c_1438, w_1439, w_1440⟩ | ⟨c_1441, c_1442, c_1443, c_1444, c_1445, c_1446, c_1447, c_1448, c_1449, c_1450, c_1451, c_1452, c_1453, w_1454, w_1455⟩ | ⟨c_1456, c_1457, c_1458, c_1459, c_1460, c_1461, c_1462, c_1463, c_1464, c_1465, c_1466, c_1467, c_1468, w_1469, w_1470⟩ | ⟨c_1471, c_1472, c_1473, c_1474, c_1475, c_1476, c_1477, c_1478, c_1479, c_1480, c_1481, c_1482, w_1483, w_1484⟩ | ⟨c_1485, c_1486, c_1487, c_1488, c_1489, c_1490, c_1491, c_1492, c_1493, c_1494, c_1495, w_1496, w_1497⟩ | ⟨c_1498, c_1499, c_1500, c_1501, c_1502, c_1503, c_1504, c_1505, c_1506, c_1507, w_1508, w_1509⟩ | ⟨c_1510, c_1511, c_1512, c_1513, c_1514, c_1515, c_1516, c_1517, c_1518, w_1519, w_1520⟩
    · skip
      subst w_1044
      subst w_1045
      exact absurd c_1043 c_10
    · skip
      subst w_1049
      subst w_1050
      exact absurd c_1048 c_11
    · skip
      subst w_1055
      subst w_1056
      obtain ⟨hP, hD⟩ := va_join (wr := [(h0, .inr (10, [.ref x0, .int 0, .ref x1, .ref x2, .ref x3, .ref x4, .ref x5, .ref x6, .ref x7, .ref x8, .int 0, .int 3000])), (o0, .inl (kA 1, 1, .inr (.inl (fun _ => 0))))]) (w1 := [(m0, .inr (11, y0.set 9 (.int 1)))]) hP hD [0] [1, 2] rfl rfl (by decide) (by decide) hk1 hFc hP1 hD1
      generalize H1 = H at hP hS ⊢
      have hP : va_P D vwCl [(h0, .inr (10, [.ref x0, .int 0, .ref x1, .ref x2, .ref x3, .ref x4, .ref x5, .ref x6, .ref x7, .ref x8, .int 0, .int 3000])), (o0, .inl (kA 1, 1, .inr (.inl (fun _ => 0)))), (m0, .inr (11, y0.set 9 (.int 1)))] H := hP
      have hD : va_D A [(h0, .inr (10, [.ref x0, .int 0, .ref x1, .ref x2, .ref x3, .ref x4, .ref x5, .ref x6, .ref x7, .ref x8, .int 0, .int 3000])), (o0, .inl (kA 1, 1, .inr (.inl (fun _ => 0)))), (m0, .inr (11, y0.set 9 (.int 1)))] := hD
      refine lv_lstore (lv' := [(6, .long 0), (5, .int 1), (0, .ref b), (1, .ref h0), (2, .ref m0), (3, .ref o0), (4, .int 0)]) hx hb dL_law_1772 hl (by decide) rfl (fun ls hl => ?_)
      refine lv_aload_n hx hb dL_law_1774 rfl (lv_at hl 4 rfl) ?_
      have hPc := hP.sub (ws' := [(m0, .inr (11, y0.set 9 (.int 1)))]) [2] rfl
      have hDc := hD.sub (ws' := [(m0, .inr (11, y0.set 9 (.int 1)))]) [2] (by decide) rfl
      have hFc := va_free (wc := [(m0, .inr (11, y0.set 9 (.int 1)))]) hD hS hA [2] rfl
      refine va_calli (va_runV (As := []) (rest := []) ⟨hx, hb, hml, hown, hts⟩ (a174_X12_thrown l  D kA V H.size m0 (y0.set 9 (.int 1)) (fun k hk => (by rw [List.length_set]; exact (hq k hk))) (List.getElem?_set_self (hq 9 (by decide)))) (cwV 0 hts (gw_V gw_1879 gw_1880 gw_1881 gw_16 gw_1882) rfl rfl rfl (by decide +kernel) ⟨(Nat.le_of_ble_eq_true rfl), (Nat.le_of_ble_eq_true rfl)⟩) ⟨aP.blind, va_recv hK hP (ci := 11) (q0 := 2) rfl rfl, aP.pre hE hS hPc hK hDc hFc⟩ rfl rfl hl.1 rfl (lv_room (Nat.le_of_ble_eq_true rfl)) dL_law_1775 ⟨(Nat.le_of_ble_eq_true rfl), (Nat.le_of_ble_eq_true rfl)⟩) hS (fun q _ h => hFc q h) hFc (fun r_1521 u t H1 locs ht hvm hw hB hz1 hk1 hS => ?_)
      obtain ⟨hP1, hD1⟩ := hB
      rw [ht] at hP1
      try dsimp only at hw hP1 hD1
      have w_1522 := hw
      subst w_1522
      obtain ⟨hP, hD⟩ := va_join (wr := [(h0, .inr (10, [.ref x0, .int 0, .ref x1, .ref x2, .ref x3, .ref x4, .ref x5, .ref x6, .ref x7, .ref x8, .int 0, .int 3000])), (o0, .inl (kA 1, 1, .inr (.inl (fun _ => 0))))]) (w1 := [(m0, .inr (11, (y0.set 9 (.int 1))))]) hP hD [2] [0, 1] rfl rfl (by decide) (by decide) hk1 hFc hP1 hD1
      generalize H1 = H at hP hS ⊢
      have hP : va_P D vwCl [(h0, .inr (10, [.ref x0, .int 0, .ref x1, .ref x2, .ref x3, .ref x4, .ref x5, .ref x6, .ref x7, .ref x8, .int 0, .int 3000])), (o0, .inl (kA 1, 1, .inr (.inl (fun _ => 0)))), (m0, .inr (11, (y0.set 9 (.int 1))))] H := hP
      have hD : va_D A [(h0, .inr (10, [.ref x0, .int 0, .ref x1, .ref x2, .ref x3, .ref x4, .ref x5, .ref x6, .ref x7, .ref x8, .int 0, .int 3000])), (o0, .inl (kA 1, 1, .inr (.inl (fun _ => 0)))), (m0, .inr (11, (y0.set 9 (.int 1))))] := hD
      refine lv_iload hx hb dL_law_1778 (lv_at hl 1 rfl) ?_
      refine lv_icmp_eq (tgt := 1785) hx hb dL_law_1780 (by decide) (fun c_1523 => ?_) (fun c_1523 => ?_)
      · skip
        refine lv_iload hx hb dL_law_1785 (lv_at hl 1 rfl) ?_
        refine lv_if_ne (tgt := 1801) hx hb dL_law_1787 (by decide) (fun c_1524 => ?_) (fun c_1524 => ?_)
        · skip
          refine lv_goto (tgt := 1804) hx hb dL_law_1801 (by decide) ?_
          exact lk_tail hC hA2 (lv_sub hl [2, 6] rfl) hS (Nat.le_of_ble_eq_true rfl) (Nat.le_of_ble_eq_true rfl)
        · exact absurd c_1524 (by decide)
      · exact absurd (by decide) c_1523
    · skip
      subst w_1062
      subst w_1063
      exact absurd c_12 c_1060
    · skip
      subst w_1069
      subst w_1070
      exact absurd c_12 c_1067
    · skip
      subst w_1074
      subst w_1075
      exact absurd c_1073 c_10
    · skip
      subst w_1080
      subst w_1081
      exact absurd c_1079 c_11
    · skip
      subst w_1087
      subst w_1088
      obtain ⟨hP, hD⟩ := va_join (wr := [(h0, .inr (10, [.ref x0, .int 0, .ref x1, .ref x2, .ref x3, .ref x4, .ref x5, .ref x6, .ref x7, .ref x8, .int 0, .int 3000])), (o0, .inl (kA 1, 1, .inr (.inl (fun _ => 0))))]) (w1 := [(m0, .inr (11, y0.set 9 (.int 1)))]) hP hD [0] [1, 2] rfl rfl (by decide) (by decide) hk1 hFc hP1 hD1
      generalize H1 = H at hP hS ⊢
      have hP : va_P D vwCl [(h0, .inr (10, [.ref x0, .int 0, .ref x1, .ref x2, .ref x3, .ref x4, .ref x5, .ref x6, .ref x7, .ref x8, .int 0, .int 3000])), (o0, .inl (kA 1, 1, .inr (.inl (fun _ => 0)))), (m0, .inr (11, y0.set 9 (.int 1)))] H := hP
      have hD : va_D A [(h0, .inr (10, [.ref x0, .int 0, .ref x1, .ref x2, .ref x3, .ref x4, .ref x5, .ref x6, .ref x7, .ref x8, .int 0, .int 3000])), (o0, .inl (kA 1, 1, .inr (.inl (fun _ => 0)))), (m0, .inr (11, y0.set 9 (.int 1)))] := hD
      refine lv_lstore (lv' := [(6, .long 0), (5, .int 1), (0, .ref b), (1, .ref h0), (2, .ref m0), (3, .ref o0), (4, .int 0)]) hx hb dL_law_1772 hl (by decide) rfl (fun ls hl => ?_)
      refine lv_aload_n hx hb dL_law_1774 rfl (lv_at hl 4 rfl) ?_
      have hPc := hP.sub (ws' := [(m0, .inr (11, y0.set 9 (.int 1)))]) [2] rfl
      have hDc := hD.sub (ws' := [(m0, .inr (11, y0.set 9 (.int 1)))]) [2] (by decide) rfl
      have hFc := va_free (wc := [(m0, .inr (11, y0.set 9 (.int 1)))]) hD hS hA [2] rfl
      refine va_calli (va_runV (As := []) (rest := []) ⟨hx, hb, hml, hown, hts⟩ (a174_X12_thrown l  D kA V H.size m0 (y0.set 9 (.int 1)) (fun k hk => (by rw [List.length_set]; exact (hq k hk))) (List.getElem?_set_self (hq 9 (by decide)))) (cwV 0 hts (gw_V gw_1879 gw_1880 gw_1881 gw_16 gw_1882) rfl rfl rfl (by decide +kernel) ⟨(Nat.le_of_ble_eq_true rfl), (Nat.le_of_ble_eq_true rfl)⟩) ⟨aP.blind, va_recv hK hP (ci := 11) (q0 := 2) rfl rfl, aP.pre hE hS hPc hK hDc hFc⟩ rfl rfl hl.1 rfl (lv_room (Nat.le_of_ble_eq_true rfl)) dL_law_1775 ⟨(Nat.le_of_ble_eq_true rfl), (Nat.le_of_ble_eq_true rfl)⟩) hS (fun q _ h => hFc q h) hFc (fun r_1525 u t H1 locs ht hvm hw hB hz1 hk1 hS => ?_)
      obtain ⟨hP1, hD1⟩ := hB
      rw [ht] at hP1
      try dsimp only at hw hP1 hD1
      have w_1526 := hw
      subst w_1526
      obtain ⟨hP, hD⟩ := va_join (wr := [(h0, .inr (10, [.ref x0, .int 0, .ref x1, .ref x2, .ref x3, .ref x4, .ref x5, .ref x6, .ref x7, .ref x8, .int 0, .int 3000])), (o0, .inl (kA 1, 1, .inr (.inl (fun _ => 0))))]) (w1 := [(m0, .inr (11, (y0.set 9 (.int 1))))]) hP hD [2] [0, 1] rfl rfl (by decide) (by decide) hk1 hFc hP1 hD1
      generalize H1 = H at hP hS ⊢
      have hP : va_P D vwCl [(h0, .inr (10, [.ref x0, .int 0, .ref x1, .ref x2, .ref x3, .ref x4, .ref x5, .ref x6, .ref x7, .ref x8, .int 0, .int 3000])), (o0, .inl (kA 1, 1, .inr (.inl (fun _ => 0)))), (m0, .inr (11, (y0.set 9 (.int 1))))] H := hP
      have hD : va_D A [(h0, .inr (10, [.ref x0, .int 0, .ref x1, .ref x2, .ref x3, .ref x4, .ref x5, .ref x6, .ref x7, .ref x8, .int 0, .int 3000])), (o0, .inl (kA 1, 1, .inr (.inl (fun _ => 0)))), (m0, .inr (11, (y0.set 9 (.int 1))))] := hD
      refine lv_iload hx hb dL_law_1778 (lv_at hl 1 rfl) ?_
      refine lv_icmp_eq (tgt := 1785) hx hb dL_law_1780 (by decide) (fun c_1527 => ?_) (fun c_1527 => ?_)
      · skip
        refine lv_iload hx hb dL_law_1785 (lv_at hl 1 rfl) ?_
        refine lv_if_ne (tgt := 1801) hx hb dL_law_1787 (by decide) (fun c_1528 => ?_) (fun c_1528 => ?_)
        · skip
          refine lv_goto (tgt := 1804) hx hb dL_law_1801 (by decide) ?_
          exact lk_tail hC hA2 (lv_sub hl [2, 6] rfl) hS (Nat.le_of_ble_eq_true rfl) (Nat.le_of_ble_eq_true rfl)
        · exact absurd c_1528 (by decide)
      · exact absurd (by decide) c_1527
    · skip
      subst w_1095
      subst w_1096
      exact absurd c_12 c_1093
    · skip
      subst w_1103
      subst w_1104
      exact absurd c_12 c_1101
    · skip
      subst w_1108
      subst w_1109
      exact absurd c_1107 c_10
    · skip
      subst w_1114
      subst w_1115
      exact absurd c_1113 c_11
    · skip
      subst w_1121
      subst w_1122
      obtain ⟨hP, hD⟩ := va_join (wr := [(h0, .inr (10, [.ref x0, .int 0, .ref x1, .ref x2, .ref x3, .ref x4, .ref x5, .ref x6, .ref x7, .ref x8, .int 0, .int 3000])), (o0, .inl (kA 1, 1, .inr (.inl (fun _ => 0))))]) (w1 := [(m0, .inr (11, y0.set 9 (.int 1)))]) hP hD [0] [1, 2] rfl rfl (by decide) (by decide) hk1 hFc hP1 hD1
      generalize H1 = H at hP hS ⊢
      have hP : va_P D vwCl [(h0, .inr (10, [.ref x0, .int 0, .ref x1, .ref x2, .ref x3, .ref x4, .ref x5, .ref x6, .ref x7, .ref x8, .int 0, .int 3000])), (o0, .inl (kA 1, 1, .inr (.inl (fun _ => 0)))), (m0, .inr (11, y0.set 9 (.int 1)))] H := hP
      have hD : va_D A [(h0, .inr (10, [.ref x0, .int 0, .ref x1, .ref x2, .ref x3, .ref x4, .ref x5, .ref x6, .ref x7, .ref x8, .int 0, .int 3000])), (o0, .inl (kA 1, 1, .inr (.inl (fun _ => 0)))), (m0, .inr (11, y0.set 9 (.int 1)))] := hD
      refine lv_lstore (lv' := [(6, .long 0), (5, .int 1), (0, .ref b), (1, .ref h0), (2, .ref m0), (3, .ref o0), (4, .int 0)]) hx hb dL_law_1772 hl (by decide) rfl (fun ls hl => ?_)
      refine lv_aload_n hx hb dL_law_1774 rfl (lv_at hl 4 rfl) ?_
      have hPc := hP.sub (ws' := [(m0, .inr (11, y0.set 9 (.int 1)))]) [2] rfl
      have hDc := hD.sub (ws' := [(m0, .inr (11, y0.set 9 (.int 1)))]) [2] (by decide) rfl
      have hFc := va_free (wc := [(m0, .inr (11, y0.set 9 (.int 1)))]) hD hS hA [2] rfl
      refine va_calli (va_runV (As := []) (rest := []) ⟨hx, hb, hml, hown, hts⟩ (a174_X12_thrown l  D kA V H.size m0 (y0.set 9 (.int 1)) (fun k hk => (by rw [List.length_set]; exact (hq k hk))) (List.getElem?_set_self (hq 9 (by decide)))) (cwV 0 hts (gw_V gw_1879 gw_1880 gw_1881 gw_16 gw_1882) rfl rfl rfl (by decide +kernel) ⟨(Nat.le_of_ble_eq_true rfl), (Nat.le_of_ble_eq_true rfl)⟩) ⟨aP.blind, va_recv hK hP (ci := 11) (q0 := 2) rfl rfl, aP.pre hE hS hPc hK hDc hFc⟩ rfl rfl hl.1 rfl (lv_room (Nat.le_of_ble_eq_true rfl)) dL_law_1775 ⟨(Nat.le_of_ble_eq_true rfl), (Nat.le_of_ble_eq_true rfl)⟩) hS (fun q _ h => hFc q h) hFc (fun r_1529 u t H1 locs ht hvm hw hB hz1 hk1 hS => ?_)
      obtain ⟨hP1, hD1⟩ := hB
      rw [ht] at hP1
      try dsimp only at hw hP1 hD1
      have w_1530 := hw
      subst w_1530
      obtain ⟨hP, hD⟩ := va_join (wr := [(h0, .inr (10, [.ref x0, .int 0, .ref x1, .ref x2, .ref x3, .ref x4, .ref x5, .ref x6, .ref x7, .ref x8, .int 0, .int 3000])), (o0, .inl (kA 1, 1, .inr (.inl (fun _ => 0))))]) (w1 := [(m0, .inr (11, (y0.set 9 (.int 1))))]) hP hD [2] [0, 1] rfl rfl (by decide) (by decide) hk1 hFc hP1 hD1
      generalize H1 = H at hP hS ⊢
      have hP : va_P D vwCl [(h0, .inr (10, [.ref x0, .int 0, .ref x1, .ref x2, .ref x3, .ref x4, .ref x5, .ref x6, .ref x7, .ref x8, .int 0, .int 3000])), (o0, .inl (kA 1, 1, .inr (.inl (fun _ => 0)))), (m0, .inr (11, (y0.set 9 (.int 1))))] H := hP
      have hD : va_D A [(h0, .inr (10, [.ref x0, .int 0, .ref x1, .ref x2, .ref x3, .ref x4, .ref x5, .ref x6, .ref x7, .ref x8, .int 0, .int 3000])), (o0, .inl (kA 1, 1, .inr (.inl (fun _ => 0)))), (m0, .inr (11, (y0.set 9 (.int 1))))] := hD
      refine lv_iload hx hb dL_law_1778 (lv_at hl 1 rfl) ?_
      refine lv_icmp_eq (tgt := 1785) hx hb dL_law_1780 (by decide) (fun c_1531 => ?_) (fun c_1531 => ?_)
      · skip
        refine lv_iload hx hb dL_law_1785 (lv_at hl 1 rfl) ?_
        refine lv_if_ne (tgt := 1801) hx hb dL_law_1787 (by decide) (fun c_1532 => ?_) (fun c_1532 => ?_)
        · skip
          refine lv_goto (tgt := 1804) hx hb dL_law_1801 (by decide) ?_
          exact lk_tail hC hA2 (lv_sub hl [2, 6] rfl) hS (Nat.le_of_ble_eq_true rfl) (Nat.le_of_ble_eq_true rfl)
        · exact absurd c_1532 (by decide)
      · exact absurd (by decide) c_1531
    · skip
      subst w_1129
      subst w_1130
      exact absurd c_12 c_1127
    · skip
      subst w_1146
      subst w_1147
      exact absurd c_12 c_1135
    · skip
      subst w_1163
      subst w_1164
      exact absurd c_12 c_1152
    · skip
      subst w_1179
      subst w_1180
      exact absurd c_12 c_1169
    · skip
      subst w_1194
      subst w_1195
      exact absurd c_12 c_1185
    · skip
      subst w_1208
      subst w_1209
      exact absurd c_12 c_1200
    · skip
      subst w_1221
      subst w_1222
      exact absurd c_12 c_1214
    · skip
      subst w_1233
      subst w_1234
      exact absurd c_12 c_1227
    · skip
      subst w_1244
      subst w_1245
      exact absurd c_12 c_1239
    · skip
      subst w_1259
      subst w_1260
      exact absurd c_12 c_1250
    · skip
      subst w_1274
      subst w_1275
      exact absurd c_12 c_1265
    · skip
      subst w_1288
      subst w_1289
      exact absurd c_12 c_1280
    · skip
      subst w_1301
      subst w_1302
      exact absurd c_12 c_1294
    · skip
      subst w_1313
      subst w_1314
      exact absurd c_12 c_1307
    · skip
      subst w_1324
      subst w_1325
      exact absurd c_12 c_1319
    · skip
      subst w_1341
      subst w_1342
      exact absurd c_12 c_1330
    · skip
      subst w_1358
      subst w_1359
      exact absurd c_12 c_1347
    · skip
      subst w_1374
      subst w_1375
      exact absurd c_12 c_1364
    · skip
      subst w_1389
      subst w_1390
      exact absurd c_12 c_1380
    · skip
      subst w_1403
      subst w_1404
      exact absurd c_12 c_1395
    · skip
      subst w_1416
      subst w_1417
      exact absurd c_12 c_1409
    · skip
      subst w_1428
      subst w_1429
      exact absurd c_12 c_1422
    · skip
      subst w_1439
      subst w_1440
      exact absurd c_12 c_1434
    · skip
      subst w_1454
      subst w_1455
      exact absurd c_12 c_1445
    · skip
      subst w_1469
      subst w_1470
      exact absurd c_12 c_1460
    · skip
      subst w_1483
      subst w_1484
      exact absurd c_12 c_1475
    · skip
      subst w_1496
      subst w_1497
      exact absurd c_12 c_1489
    · skip
      subst w_1508
      subst w_1509
      exact absurd c_12 c_1502
    · skip
      subst w_1519
      subst w_1520
      exact absurd c_12 c_1514
  · skip
    subst w_19
    subst w_20
    obtain ⟨hP, hD⟩ := va_join (wr := [(m0, .inr (11, y0))]) (w1 := [(h0, .inr (10, [.ref x0, .int 0, .ref x1, .ref x2, .ref x3, .ref x4, .ref x5, .ref x6, .ref x7, .ref x8, .int 0, .int 3000])), (o0, .inl (kA 1, 1, .inr (.inl (fun _ => 0))))]) hP hD [0, 2] [1] rfl rfl (by decide) (by decide) hk1 hFc hP1 hD1
    generalize H1 = H at hP hS ⊢
    have hP : va_P D vwCl [(m0, .inr (11, y0)), (h0, .inr (10, [.ref x0, .int 0, .ref x1, .ref x2, .ref x3, .ref x4, .ref x5, .ref x6, .ref x7, .ref x8, .int 0, .int 3000])), (o0, .inl (kA 1, 1, .inr (.inl (fun _ => 0))))] H := hP
    have hD : va_D A [(m0, .inr (11, y0)), (h0, .inr (10, [.ref x0, .int 0, .ref x1, .ref x2, .ref x3, .ref x4, .ref x5, .ref x6, .ref x7, .ref x8, .int 0, .int 3000])), (o0, .inl (kA 1, 1, .inr (.inl (fun _ => 0))))] := hD
    refine lv_istore (lv' := [(5, .int 1), (0, .ref b), (1, .ref h0), (2, .ref m0), (3, .ref o0), (4, .int 0)]) hx hb dL_law_1702 hl (by decide) rfl (fun ls hl => ?_)
    refine lv_aload_n hx hb dL_law_1704 rfl (lv_at hl 3 rfl) ?_
    refine lv_aload_n hx hb dL_law_1705 rfl (lv_at hl 1 rfl) ?_
    refine lv_iload hx hb dL_law_1706 (lv_at hl 5 rfl) ?_
    refine lv_iconst (v := 1) hx hb dL_law_1708 (by decide) ?_
    refine lv_iadd hx hb dL_law_1709 ?_
    refine W.eq (g2 := F0 m 1710 ls [.int 1, .ref b, .ref m0]) rfl ?_
    refine va_sld hx hb hX hbl hbA hS (show vp_in 1 8 by unfold vp_in; decide) dL_law_1710 ?_
    refine W.eq (g2 := F0 m 1711 ls [.int (xs 1), .ref m0]) rfl ?_
    refine lv_aload_n hx hb dL_law_1711 rfl (lv_at hl 1 rfl) ?_
    refine lv_iload hx hb dL_law_1712 (lv_at hl 5 rfl) ?_
    refine lv_iconst (v := 2) hx hb dL_law_1714 (by decide) ?_
    refine lv_iadd hx hb dL_law_1715 ?_
    refine W.eq (g2 := F0 m 1716 ls [.int 2, .ref b, .int (xs 1), .ref m0]) rfl ?_
    refine va_sld hx hb hX hbl hbA hS (show vp_in 2 8 by unfold vp_in; decide) dL_law_1716 ?_
    refine W.eq (g2 := F0 m 1717 ls [.int (xs 2), .int (xs 1), .ref m0]) rfl ?_
    refine lv_aload_n hx hb dL_law_1717 rfl (lv_at hl 1 rfl) ?_
    refine lv_iload hx hb dL_law_1718 (lv_at hl 5 rfl) ?_
    refine lv_iconst (v := 3) hx hb dL_law_1720 (by decide) ?_
    refine lv_iadd hx hb dL_law_1721 ?_
    refine W.eq (g2 := F0 m 1722 ls [.int 3, .ref b, .int (xs 2), .int (xs 1), .ref m0]) rfl ?_
    refine va_sld hx hb hX hbl hbA hS (show vp_in 3 8 by unfold vp_in; decide) dL_law_1722 ?_
    refine W.eq (g2 := F0 m 1723 ls [.int (xs 3), .int (xs 2), .int (xs 1), .ref m0]) rfl ?_
    refine lv_aload_n hx hb dL_law_1723 rfl (lv_at hl 1 rfl) ?_
    refine lv_iload hx hb dL_law_1724 (lv_at hl 5 rfl) ?_
    refine lv_iconst (v := 4) hx hb dL_law_1726 (by decide) ?_
    refine lv_iadd hx hb dL_law_1727 ?_
    refine W.eq (g2 := F0 m 1728 ls [.int 4, .ref b, .int (xs 3), .int (xs 2), .int (xs 1), .ref m0]) rfl ?_
    refine va_sld hx hb hX hbl hbA hS (show vp_in 4 8 by unfold vp_in; decide) dL_law_1728 ?_
    refine W.eq (g2 := F0 m 1729 ls [.int (xs 4), .int (xs 3), .int (xs 2), .int (xs 1), .ref m0]) rfl ?_
    refine lv_i2l (v := (xs 4).toInt64) hx hb dL_law_1729 rfl ?_
    refine lv_bipush (v := 32) hx hb dL_law_1730 (by decide) ?_
    refine lv_lshl (v := ((xs 4).toInt64) <<< ((32 : Int32).toInt64 &&& 63)) hx hb dL_law_1732 rfl ?_
    refine lv_aload_n hx hb dL_law_1733 rfl (lv_at hl 1 rfl) ?_
    refine lv_iload hx hb dL_law_1734 (lv_at hl 5 rfl) ?_
    refine lv_iconst (v := 5) hx hb dL_law_1736 (by decide) ?_
    refine lv_iadd hx hb dL_law_1737 ?_
    refine W.eq (g2 := F0 m 1738 ls [.int 5, .ref b, .long (((xs 4).toInt64) <<< ((32 : Int32).toInt64 &&& 63)), .int (xs 3), .int (xs 2), .int (xs 1), .ref m0]) rfl ?_
    refine va_sld hx hb hX hbl hbA hS (show vp_in 5 8 by unfold vp_in; decide) dL_law_1738 ?_
    refine W.eq (g2 := F0 m 1739 ls [.int (xs 5), .long (((xs 4).toInt64) <<< ((32 : Int32).toInt64 &&& 63)), .int (xs 3), .int (xs 2), .int (xs 1), .ref m0]) rfl ?_
    refine lv_i2l (v := (xs 5).toInt64) hx hb dL_law_1739 rfl ?_
    refine lv_ldc2 (v := 4294967295) hx hb hown (hG _ gw_2764) dL_law_1740 ?_
    refine lv_land hx hb dL_law_1743 ?_
    refine lv_lor hx hb dL_law_1744 ?_
    refine lv_aload_n hx hb dL_law_1745 rfl (lv_at hl 1 rfl) ?_
    refine lv_iload hx hb dL_law_1746 (lv_at hl 5 rfl) ?_
    refine lv_bipush (v := 6) hx hb dL_law_1748 (by decide) ?_
    refine lv_iadd hx hb dL_law_1750 ?_
    refine W.eq (g2 := F0 m 1751 ls [.int 6, .ref b, .long ((((xs 4).toInt64) <<< ((32 : Int32).toInt64 &&& 63)) ||| (((xs 5).toInt64) &&& 4294967295)), .int (xs 3), .int (xs 2), .int (xs 1), .ref m0]) rfl ?_
    refine va_sld hx hb hX hbl hbA hS (show vp_in 6 8 by unfold vp_in; decide) dL_law_1751 ?_
    refine W.eq (g2 := F0 m 1752 ls [.int (xs 6), .long ((((xs 4).toInt64) <<< ((32 : Int32).toInt64 &&& 63)) ||| (((xs 5).toInt64) &&& 4294967295)), .int (xs 3), .int (xs 2), .int (xs 1), .ref m0]) rfl ?_
    refine lv_i2l (v := (xs 6).toInt64) hx hb dL_law_1752 rfl ?_
    refine lv_bipush (v := 32) hx hb dL_law_1753 (by decide) ?_
    refine lv_lshl (v := ((xs 6).toInt64) <<< ((32 : Int32).toInt64 &&& 63)) hx hb dL_law_1755 rfl ?_
    refine lv_aload_n hx hb dL_law_1756 rfl (lv_at hl 1 rfl) ?_
    refine lv_iload hx hb dL_law_1757 (lv_at hl 5 rfl) ?_
    refine lv_bipush (v := 7) hx hb dL_law_1759 (by decide) ?_
    refine lv_iadd hx hb dL_law_1761 ?_
    refine W.eq (g2 := F0 m 1762 ls [.int 7, .ref b, .long (((xs 6).toInt64) <<< ((32 : Int32).toInt64 &&& 63)), .long ((((xs 4).toInt64) <<< ((32 : Int32).toInt64 &&& 63)) ||| (((xs 5).toInt64) &&& 4294967295)), .int (xs 3), .int (xs 2), .int (xs 1), .ref m0]) rfl ?_
    refine va_sld hx hb hX hbl hbA hS (show vp_in 7 8 by unfold vp_in; decide) dL_law_1762 ?_
    refine W.eq (g2 := F0 m 1763 ls [.int (xs 7), .long (((xs 6).toInt64) <<< ((32 : Int32).toInt64 &&& 63)), .long ((((xs 4).toInt64) <<< ((32 : Int32).toInt64 &&& 63)) ||| (((xs 5).toInt64) &&& 4294967295)), .int (xs 3), .int (xs 2), .int (xs 1), .ref m0]) rfl ?_
    refine lv_i2l (v := (xs 7).toInt64) hx hb dL_law_1763 rfl ?_
    refine lv_ldc2 (v := 4294967295) hx hb hown (hG _ gw_2764) dL_law_1764 ?_
    refine lv_land hx hb dL_law_1767 ?_
    refine lv_lor hx hb dL_law_1768 ?_
    have hPc := hP.sub (ws' := [(m0, .inr (11, y0))]) [0] rfl
    have hDc := hD.sub (ws' := [(m0, .inr (11, y0))]) [0] (by decide) rfl
    have hFc := va_free (wc := [(m0, .inr (11, y0))]) hD hS hA [0] rfl
    refine va_calll (va_runV (As := [.int (xs 1), .int (xs 2), .int (xs 3), .long ((((xs 4).toInt64) <<< ((32 : Int32).toInt64 &&& 63)) ||| (((xs 5).toInt64) &&& 4294967295)), .long ((((xs 6).toInt64) <<< ((32 : Int32).toInt64 &&& 63)) ||| (((xs 7).toInt64) &&& 4294967295))]) (rest := []) ⟨hx, hb, hml, hown, hts⟩ (a155_X12_tell l  D kA V H.size m0 (xs 1) (xs 2) (xs 3) ((((xs 4).toInt64) <<< ((32 : Int32).toInt64 &&& 63)) ||| (((xs 5).toInt64) &&& 4294967295)) ((((xs 6).toInt64) <<< ((32 : Int32).toInt64 &&& 63)) ||| (((xs 7).toInt64) &&& 4294967295)) y0 (fun k hk => (hq k hk)) hq9) (cwV 5 hts (gw_V gw_2760 gw_2761 gw_2762 gw_16 gw_2763) rfl rfl rfl (by decide +kernel) ⟨(Nat.le_of_ble_eq_true rfl), (Nat.le_of_ble_eq_true rfl)⟩) ⟨aP.blind, va_recv hK hP (ci := 11) (q0 := 0) rfl rfl, aP.pre hE hS hPc hK hDc hFc⟩ rfl rfl hl.1 rfl (lv_room (Nat.le_of_ble_eq_true rfl)) dL_law_1769 ⟨(Nat.le_of_ble_eq_true rfl), (Nat.le_of_ble_eq_true rfl)⟩) hS (fun q _ h => hFc q h) hFc (fun r_1533 u t H1 locs ht hvm hw hB hz1 hk1 hS => ?_)
    obtain ⟨u_1534, rfl⟩ : ∃ z, z = u := ⟨u, rfl⟩
    obtain ⟨hP1, hD1⟩ := hB
    rw [ht] at hP1
    try dsimp only at hw hP1 hD1
    rcases hw with ⟨c_1535, c_1536, w_1537, w_1538⟩ | ⟨c_1539, c_1540, c_1541, w_1542, w_1543⟩ | ⟨c_1544, c_1545, c_1546, c_1547, w_1548, w_1549⟩ | ⟨c_1550, c_1551, c_1552, c_1553, c_1554, w_1555, w_1556⟩ | ⟨c_1557, c_1558, c_1559, c_1560, c_1561, w_1562, w_1563⟩ | ⟨c_1564, c_1565, c_1566, w_1567, w_1568⟩ | ⟨c_1569, c_1570, c_1571, c_1572, w_1573, w_1574⟩ | ⟨c_1575, c_1576, c_1577, c_1578, c_1579, w_1580, w_1581⟩ | ⟨c_1582, c_1583, c_1584, c_1585, c_1586, c_1587, w_1588, w_1589⟩ | ⟨c_1590, c_1591, c_1592, c_1593, c_1594, c_1595, w_1596, w_1597⟩ | ⟨c_1598, c_1599, c_1600, w_1601, w_1602⟩ | ⟨c_1603, c_1604, c_1605, c_1606, w_1607, w_1608⟩ | ⟨c_1609, c_1610, c_1611, c_1612, c_1613, w_1614, w_1615⟩ | ⟨c_1616, c_1617, c_1618, c_1619, c_1620, c_1621, w_1622, w_1623⟩ | ⟨c_1624, c_1625, c_1626, c_1627, c_1628, c_1629, c_1630, c_1631, c_1632, c_1633, c_1634, c_1635, c_1636, c_1637, c_1638, w_1639, w_1640⟩ | ⟨c_1641, c_1642, c_1643, c_1644, c_1645, c_1646, c_1647, c_1648, c_1649, c_1650, c_1651, c_1652, c_1653, c_1654, c_1655, w_1656, w_1657⟩ | ⟨c_1658, c_1659, c_1660, c_1661, c_1662, c_1663, c_1664, c_1665, c_1666, c_1667, c_1668, c_1669, c_1670, c_1671, w_1672, w_1673⟩ | ⟨c_1674, c_1675, c_1676, c_1677, c_1678, c_1679, c_1680, c_1681, c_1682, c_1683, c_1684, c_1685, c_1686, w_1687, w_1688⟩ | ⟨c_1689, c_1690, c_1691, c_1692, c_1693, c_1694, c_1695, c_1696, c_1697, c_1698, c_1699, c_1700, w_1701, w_1702⟩ | ⟨c_1703, c_1704, c_1705, c_1706, c_1707, c_1708, c_1709, c_1710, c_1711, c_1712, c_1713, w_1714, w_1715⟩ | ⟨c_1716, c_1717, c_1718, c_1719, c_1720, c_1721, c_1722, c_1723, c_1724, c_1725, w_1726, w_1727⟩ | ⟨c_1728, c_1729, c_1730, c_1731, c_1732, c_1733, c_1734, c_1735, c_1736, w_1737, w_1738⟩ | ⟨c_1739, c_1740, c_1741, c_1742, c_1743, c_1744, c_1745, c_1746, c_1747, c_1748, c_1749, c_1750, c_1751, w_1752, w_1753⟩ | ⟨c_1754, c_1755, c_1756, c_1757, c_1758, c_1759, c_1760, c_1761, c_1762, c_1763, c_1764, c_1765, c_1766, w_1767, w_1768⟩ | ⟨c_1769, c_1770, c_1771, c_1772, c_1773, c_1774, c_1775, c_1776, c_1777, c_1778, c_1779, c_1780, w_1781, w_1782⟩ | ⟨c_1783, c_1784, c_1785, c_1786, c_1787, c_1788, c_1789, c_1790, c_1791, c_1792, c_1793, w_1794, w_1795⟩ | ⟨c_1796, c_1797, c_1798, c_1799, c_1800, c_1801, c_1802, c_1803, c_1804, c_1805, w_1806, w_1807⟩ | ⟨c_1808, c_1809, c_1810, c_1811, c_1812, c_1813, c_1814, c_1815, c_1816, w_1817, w_1818⟩ | ⟨c_1819, c_1820, c_1821, c_1822, c_1823, c_1824, c_1825, c_1826, c_1827, c_1828, c_1829, c_1830, c_1831, c_1832, c_1833, w_1834, w_1835⟩ | ⟨c_1836, c_1837, c_1838, c_1839, c_1840, c_1841, c_1842, c_1843, c_1844, c_1845, c_1846, c_1847, c_1848, c_1849, c_1850, w_1851, w_1852⟩ | ⟨c_1853, c_1854, c_1855, c_1856, c_1857, c_1858, c_1859, c_1860, c_1861, c_1862, c_1863, c_1864, c_1865, c_1866, w_1867, w_1868⟩ | ⟨c_1869, c_1870, c_1871, c_1872, c_1873, c_1874, c_1875, c_1876, c_1877, c_1878, c_1879, c_1880, c_1881, w_1882, w_1883⟩ | ⟨c_1884, c_1885, c_1886, c_1887, c_1888, c_1889, c_1890, c_1891, c_1892, c_1893, c_1894, c_1895, w_1896, w_1897⟩ | ⟨c_1898, c_1899, c_1900, c_1901, c_1902, c_1903, c_1904, c_1905, c_1906, c_1907, c_1908, w_1909, w_1910⟩ | ⟨c_1911, c_1912, c_1913, c_1914, c_1915, c_1916, c_1917, c_1918, c_1919, c_1920, w_1921, w_1922⟩ | ⟨c_1923, c_1924, c_1925, c_1926, c_1927, c_1928, c_1929, c_1930, c_1931, w_1932, w_1933⟩ | ⟨c_1934, c_1935, c_1936, c_1937, c_1938, c_1939, c_1940, c_1941, c_1942, c_1943, c_1944, c_1945, c_1946, w_1947, w_1948⟩ | ⟨c_1949, c_1950, c_1951, c_1952, c_1953, c_1954, c_1955, c_1956, c_1957, c_1958, c_1959, c_1960, c_1961, w_1962, w_1963⟩ | ⟨c_1964, c_1965, c_1966, c_1967, c_1968, c_1969, c_1970, c_1971, c_1972, c_1973, c_1974, c_1975, w_1976, w_1977⟩ | ⟨c_1978, c_1979, c_1980, c_1981, c_1982, c_1983, c_1984, c_1985, c_1986, c_1987, c_1988, w_1989, w_1990⟩ | ⟨c_1991, c_1992, c_1993, c_1994, c_1995, c_1996, c_1997, c_1998, c_1999, c_2000, w_2001, w_2002⟩ | ⟨c_2003, c_2004, c_2005, c_2006, c_2007, c_2008, c_2009, c_2010, c_2011, w_2012, w_2013⟩
    · skip
      subst w_1537
      subst w_1538
      exact absurd c_1536 c_15
    · skip
      subst w_1542
      subst w_1543
      exact absurd c_1541 c_16
    · skip
      subst w_1548
      subst w_1549
      exact absurd c_1547 c_17
    · skip
      subst w_1555
      subst w_1556
      obtain ⟨hP, hD⟩ := va_join (wr := [(h0, .inr (10, [.ref x0, .int 0, .ref x1, .ref x2, .ref x3, .ref x4, .ref x5, .ref x6, .ref x7, .ref x8, .int 0, .int 3000])), (o0, .inl (kA 1, 1, .inr (.inl (fun _ => 0))))]) (w1 := [(m0, .inr (11, y0.set 9 (.int 1)))]) hP hD [0] [1, 2] rfl rfl (by decide) (by decide) hk1 hFc hP1 hD1
      generalize H1 = H at hP hS ⊢
      have hP : va_P D vwCl [(h0, .inr (10, [.ref x0, .int 0, .ref x1, .ref x2, .ref x3, .ref x4, .ref x5, .ref x6, .ref x7, .ref x8, .int 0, .int 3000])), (o0, .inl (kA 1, 1, .inr (.inl (fun _ => 0)))), (m0, .inr (11, y0.set 9 (.int 1)))] H := hP
      have hD : va_D A [(h0, .inr (10, [.ref x0, .int 0, .ref x1, .ref x2, .ref x3, .ref x4, .ref x5, .ref x6, .ref x7, .ref x8, .int 0, .int 3000])), (o0, .inl (kA 1, 1, .inr (.inl (fun _ => 0)))), (m0, .inr (11, y0.set 9 (.int 1)))] := hD
      refine lv_lstore (lv' := [(6, .long 0), (5, .int 1), (0, .ref b), (1, .ref h0), (2, .ref m0), (3, .ref o0), (4, .int 0)]) hx hb dL_law_1772 hl (by decide) rfl (fun ls hl => ?_)
      refine lv_aload_n hx hb dL_law_1774 rfl (lv_at hl 4 rfl) ?_
      have hPc := hP.sub (ws' := [(m0, .inr (11, y0.set 9 (.int 1)))]) [2] rfl
      have hDc := hD.sub (ws' := [(m0, .inr (11, y0.set 9 (.int 1)))]) [2] (by decide) rfl
      have hFc := va_free (wc := [(m0, .inr (11, y0.set 9 (.int 1)))]) hD hS hA [2] rfl
      refine va_calli (va_runV (As := []) (rest := []) ⟨hx, hb, hml, hown, hts⟩ (a174_X12_thrown l  D kA V H.size m0 (y0.set 9 (.int 1)) (fun k hk => (by rw [List.length_set]; exact (hq k hk))) (List.getElem?_set_self (hq 9 (by decide)))) (cwV 0 hts (gw_V gw_1879 gw_1880 gw_1881 gw_16 gw_1882) rfl rfl rfl (by decide +kernel) ⟨(Nat.le_of_ble_eq_true rfl), (Nat.le_of_ble_eq_true rfl)⟩) ⟨aP.blind, va_recv hK hP (ci := 11) (q0 := 2) rfl rfl, aP.pre hE hS hPc hK hDc hFc⟩ rfl rfl hl.1 rfl (lv_room (Nat.le_of_ble_eq_true rfl)) dL_law_1775 ⟨(Nat.le_of_ble_eq_true rfl), (Nat.le_of_ble_eq_true rfl)⟩) hS (fun q _ h => hFc q h) hFc (fun r_2014 u t H1 locs ht hvm hw hB hz1 hk1 hS => ?_)
      obtain ⟨hP1, hD1⟩ := hB
      rw [ht] at hP1
      try dsimp only at hw hP1 hD1
      have w_2015 := hw
      subst w_2015
      obtain ⟨hP, hD⟩ := va_join (wr := [(h0, .inr (10, [.ref x0, .int 0, .ref x1, .ref x2, .ref x3, .ref x4, .ref x5, .ref x6, .ref x7, .ref x8, .int 0, .int 3000])), (o0, .inl (kA 1, 1, .inr (.inl (fun _ => 0))))]) (w1 := [(m0, .inr (11, (y0.set 9 (.int 1))))]) hP hD [2] [0, 1] rfl rfl (by decide) (by decide) hk1 hFc hP1 hD1
      generalize H1 = H at hP hS ⊢
      have hP : va_P D vwCl [(h0, .inr (10, [.ref x0, .int 0, .ref x1, .ref x2, .ref x3, .ref x4, .ref x5, .ref x6, .ref x7, .ref x8, .int 0, .int 3000])), (o0, .inl (kA 1, 1, .inr (.inl (fun _ => 0)))), (m0, .inr (11, (y0.set 9 (.int 1))))] H := hP
      have hD : va_D A [(h0, .inr (10, [.ref x0, .int 0, .ref x1, .ref x2, .ref x3, .ref x4, .ref x5, .ref x6, .ref x7, .ref x8, .int 0, .int 3000])), (o0, .inl (kA 1, 1, .inr (.inl (fun _ => 0)))), (m0, .inr (11, (y0.set 9 (.int 1))))] := hD
      refine lv_iload hx hb dL_law_1778 (lv_at hl 1 rfl) ?_
      refine lv_icmp_eq (tgt := 1785) hx hb dL_law_1780 (by decide) (fun c_2016 => ?_) (fun c_2016 => ?_)
      · skip
        refine lv_iload hx hb dL_law_1785 (lv_at hl 1 rfl) ?_
        refine lv_if_ne (tgt := 1801) hx hb dL_law_1787 (by decide) (fun c_2017 => ?_) (fun c_2017 => ?_)
        · skip
          refine lv_goto (tgt := 1804) hx hb dL_law_1801 (by decide) ?_
          exact lk_tail hC hA2 (lv_sub hl [2, 6] rfl) hS (Nat.le_of_ble_eq_true rfl) (Nat.le_of_ble_eq_true rfl)
        · exact absurd c_2017 (by decide)
      · exact absurd (by decide) c_2016
    · skip
      subst w_1562
      subst w_1563
      exact absurd c_18 c_1561
    · skip
      subst w_1567
      subst w_1568
      exact absurd c_1566 c_15
    · skip
      subst w_1573
      subst w_1574
      exact absurd c_1572 c_16
    · skip
      subst w_1580
      subst w_1581
      exact absurd c_1579 c_17
    · skip
      subst w_1588
      subst w_1589
      obtain ⟨hP, hD⟩ := va_join (wr := [(h0, .inr (10, [.ref x0, .int 0, .ref x1, .ref x2, .ref x3, .ref x4, .ref x5, .ref x6, .ref x7, .ref x8, .int 0, .int 3000])), (o0, .inl (kA 1, 1, .inr (.inl (fun _ => 0))))]) (w1 := [(m0, .inr (11, y0.set 9 (.int 1)))]) hP hD [0] [1, 2] rfl rfl (by decide) (by decide) hk1 hFc hP1 hD1
      generalize H1 = H at hP hS ⊢
      have hP : va_P D vwCl [(h0, .inr (10, [.ref x0, .int 0, .ref x1, .ref x2, .ref x3, .ref x4, .ref x5, .ref x6, .ref x7, .ref x8, .int 0, .int 3000])), (o0, .inl (kA 1, 1, .inr (.inl (fun _ => 0)))), (m0, .inr (11, y0.set 9 (.int 1)))] H := hP
      have hD : va_D A [(h0, .inr (10, [.ref x0, .int 0, .ref x1, .ref x2, .ref x3, .ref x4, .ref x5, .ref x6, .ref x7, .ref x8, .int 0, .int 3000])), (o0, .inl (kA 1, 1, .inr (.inl (fun _ => 0)))), (m0, .inr (11, y0.set 9 (.int 1)))] := hD
      refine lv_lstore (lv' := [(6, .long 0), (5, .int 1), (0, .ref b), (1, .ref h0), (2, .ref m0), (3, .ref o0), (4, .int 0)]) hx hb dL_law_1772 hl (by decide) rfl (fun ls hl => ?_)
      refine lv_aload_n hx hb dL_law_1774 rfl (lv_at hl 4 rfl) ?_
      have hPc := hP.sub (ws' := [(m0, .inr (11, y0.set 9 (.int 1)))]) [2] rfl
      have hDc := hD.sub (ws' := [(m0, .inr (11, y0.set 9 (.int 1)))]) [2] (by decide) rfl
      have hFc := va_free (wc := [(m0, .inr (11, y0.set 9 (.int 1)))]) hD hS hA [2] rfl
      refine va_calli (va_runV (As := []) (rest := []) ⟨hx, hb, hml, hown, hts⟩ (a174_X12_thrown l  D kA V H.size m0 (y0.set 9 (.int 1)) (fun k hk => (by rw [List.length_set]; exact (hq k hk))) (List.getElem?_set_self (hq 9 (by decide)))) (cwV 0 hts (gw_V gw_1879 gw_1880 gw_1881 gw_16 gw_1882) rfl rfl rfl (by decide +kernel) ⟨(Nat.le_of_ble_eq_true rfl), (Nat.le_of_ble_eq_true rfl)⟩) ⟨aP.blind, va_recv hK hP (ci := 11) (q0 := 2) rfl rfl, aP.pre hE hS hPc hK hDc hFc⟩ rfl rfl hl.1 rfl (lv_room (Nat.le_of_ble_eq_true rfl)) dL_law_1775 ⟨(Nat.le_of_ble_eq_true rfl), (Nat.le_of_ble_eq_true rfl)⟩) hS (fun q _ h => hFc q h) hFc (fun r_2018 u t H1 locs ht hvm hw hB hz1 hk1 hS => ?_)
      obtain ⟨hP1, hD1⟩ := hB
      rw [ht] at hP1
      try dsimp only at hw hP1 hD1
      have w_2019 := hw
      subst w_2019
      obtain ⟨hP, hD⟩ := va_join (wr := [(h0, .inr (10, [.ref x0, .int 0, .ref x1, .ref x2, .ref x3, .ref x4, .ref x5, .ref x6, .ref x7, .ref x8, .int 0, .int 3000])), (o0, .inl (kA 1, 1, .inr (.inl (fun _ => 0))))]) (w1 := [(m0, .inr (11, (y0.set 9 (.int 1))))]) hP hD [2] [0, 1] rfl rfl (by decide) (by decide) hk1 hFc hP1 hD1
      generalize H1 = H at hP hS ⊢
      have hP : va_P D vwCl [(h0, .inr (10, [.ref x0, .int 0, .ref x1, .ref x2, .ref x3, .ref x4, .ref x5, .ref x6, .ref x7, .ref x8, .int 0, .int 3000])), (o0, .inl (kA 1, 1, .inr (.inl (fun _ => 0)))), (m0, .inr (11, (y0.set 9 (.int 1))))] H := hP
      have hD : va_D A [(h0, .inr (10, [.ref x0, .int 0, .ref x1, .ref x2, .ref x3, .ref x4, .ref x5, .ref x6, .ref x7, .ref x8, .int 0, .int 3000])), (o0, .inl (kA 1, 1, .inr (.inl (fun _ => 0)))), (m0, .inr (11, (y0.set 9 (.int 1))))] := hD
      refine lv_iload hx hb dL_law_1778 (lv_at hl 1 rfl) ?_
      refine lv_icmp_eq (tgt := 1785) hx hb dL_law_1780 (by decide) (fun c_2020 => ?_) (fun c_2020 => ?_)
      · skip
        refine lv_iload hx hb dL_law_1785 (lv_at hl 1 rfl) ?_
        refine lv_if_ne (tgt := 1801) hx hb dL_law_1787 (by decide) (fun c_2021 => ?_) (fun c_2021 => ?_)
        · skip
          refine lv_goto (tgt := 1804) hx hb dL_law_1801 (by decide) ?_
          exact lk_tail hC hA2 (lv_sub hl [2, 6] rfl) hS (Nat.le_of_ble_eq_true rfl) (Nat.le_of_ble_eq_true rfl)
        · exact absurd c_2021 (by decide)
      · exact absurd (by decide) c_2020
    · skip
      subst w_1596
      subst w_1597
      exact absurd c_18 c_1595
    · skip
      subst w_1601
      subst w_1602
      exact absurd c_1600 c_15
    · skip
      subst w_1607
      subst w_1608
      exact absurd c_1606 c_16
    · skip
      subst w_1614
      subst w_1615
      exact absurd c_1613 c_17
    · skip
      subst w_1622
      subst w_1623
      obtain ⟨hP, hD⟩ := va_join (wr := [(h0, .inr (10, [.ref x0, .int 0, .ref x1, .ref x2, .ref x3, .ref x4, .ref x5, .ref x6, .ref x7, .ref x8, .int 0, .int 3000])), (o0, .inl (kA 1, 1, .inr (.inl (fun _ => 0))))]) (w1 := [(m0, .inr (11, y0.set 9 (.int 1)))]) hP hD [0] [1, 2] rfl rfl (by decide) (by decide) hk1 hFc hP1 hD1
      generalize H1 = H at hP hS ⊢
      have hP : va_P D vwCl [(h0, .inr (10, [.ref x0, .int 0, .ref x1, .ref x2, .ref x3, .ref x4, .ref x5, .ref x6, .ref x7, .ref x8, .int 0, .int 3000])), (o0, .inl (kA 1, 1, .inr (.inl (fun _ => 0)))), (m0, .inr (11, y0.set 9 (.int 1)))] H := hP
      have hD : va_D A [(h0, .inr (10, [.ref x0, .int 0, .ref x1, .ref x2, .ref x3, .ref x4, .ref x5, .ref x6, .ref x7, .ref x8, .int 0, .int 3000])), (o0, .inl (kA 1, 1, .inr (.inl (fun _ => 0)))), (m0, .inr (11, y0.set 9 (.int 1)))] := hD
      refine lv_lstore (lv' := [(6, .long 0), (5, .int 1), (0, .ref b), (1, .ref h0), (2, .ref m0), (3, .ref o0), (4, .int 0)]) hx hb dL_law_1772 hl (by decide) rfl (fun ls hl => ?_)
      refine lv_aload_n hx hb dL_law_1774 rfl (lv_at hl 4 rfl) ?_
      have hPc := hP.sub (ws' := [(m0, .inr (11, y0.set 9 (.int 1)))]) [2] rfl
      have hDc := hD.sub (ws' := [(m0, .inr (11, y0.set 9 (.int 1)))]) [2] (by decide) rfl
      have hFc := va_free (wc := [(m0, .inr (11, y0.set 9 (.int 1)))]) hD hS hA [2] rfl
      refine va_calli (va_runV (As := []) (rest := []) ⟨hx, hb, hml, hown, hts⟩ (a174_X12_thrown l  D kA V H.size m0 (y0.set 9 (.int 1)) (fun k hk => (by rw [List.length_set]; exact (hq k hk))) (List.getElem?_set_self (hq 9 (by decide)))) (cwV 0 hts (gw_V gw_1879 gw_1880 gw_1881 gw_16 gw_1882) rfl rfl rfl (by decide +kernel) ⟨(Nat.le_of_ble_eq_true rfl), (Nat.le_of_ble_eq_true rfl)⟩) ⟨aP.blind, va_recv hK hP (ci := 11) (q0 := 2) rfl rfl, aP.pre hE hS hPc hK hDc hFc⟩ rfl rfl hl.1 rfl (lv_room (Nat.le_of_ble_eq_true rfl)) dL_law_1775 ⟨(Nat.le_of_ble_eq_true rfl), (Nat.le_of_ble_eq_true rfl)⟩) hS (fun q _ h => hFc q h) hFc (fun r_2022 u t H1 locs ht hvm hw hB hz1 hk1 hS => ?_)
      obtain ⟨hP1, hD1⟩ := hB
      rw [ht] at hP1
      try dsimp only at hw hP1 hD1
      have w_2023 := hw
      subst w_2023
      obtain ⟨hP, hD⟩ := va_join (wr := [(h0, .inr (10, [.ref x0, .int 0, .ref x1, .ref x2, .ref x3, .ref x4, .ref x5, .ref x6, .ref x7, .ref x8, .int 0, .int 3000])), (o0, .inl (kA 1, 1, .inr (.inl (fun _ => 0))))]) (w1 := [(m0, .inr (11, (y0.set 9 (.int 1))))]) hP hD [2] [0, 1] rfl rfl (by decide) (by decide) hk1 hFc hP1 hD1
      generalize H1 = H at hP hS ⊢
      have hP : va_P D vwCl [(h0, .inr (10, [.ref x0, .int 0, .ref x1, .ref x2, .ref x3, .ref x4, .ref x5, .ref x6, .ref x7, .ref x8, .int 0, .int 3000])), (o0, .inl (kA 1, 1, .inr (.inl (fun _ => 0)))), (m0, .inr (11, (y0.set 9 (.int 1))))] H := hP
      have hD : va_D A [(h0, .inr (10, [.ref x0, .int 0, .ref x1, .ref x2, .ref x3, .ref x4, .ref x5, .ref x6, .ref x7, .ref x8, .int 0, .int 3000])), (o0, .inl (kA 1, 1, .inr (.inl (fun _ => 0)))), (m0, .inr (11, (y0.set 9 (.int 1))))] := hD
      refine lv_iload hx hb dL_law_1778 (lv_at hl 1 rfl) ?_
      refine lv_icmp_eq (tgt := 1785) hx hb dL_law_1780 (by decide) (fun c_2024 => ?_) (fun c_2024 => ?_)
      · skip
        refine lv_iload hx hb dL_law_1785 (lv_at hl 1 rfl) ?_
        refine lv_if_ne (tgt := 1801) hx hb dL_law_1787 (by decide) (fun c_2025 => ?_) (fun c_2025 => ?_)
        · skip
          refine lv_goto (tgt := 1804) hx hb dL_law_1801 (by decide) ?_
          exact lk_tail hC hA2 (lv_sub hl [2, 6] rfl) hS (Nat.le_of_ble_eq_true rfl) (Nat.le_of_ble_eq_true rfl)
        · exact absurd c_2025 (by decide)
      · exact absurd (by decide) c_2024
    · skip
      subst w_1639
      subst w_1640
      exact absurd c_18 c_1629
    · skip
      subst w_1656
      subst w_1657
      exact absurd c_18 c_1646
    · skip
      subst w_1672
      subst w_1673
      exact absurd c_18 c_1663
    · skip
      subst w_1687
      subst w_1688
      exact absurd c_18 c_1679
    · skip
      subst w_1701
      subst w_1702
      exact absurd c_18 c_1694
    · skip
      subst w_1714
      subst w_1715
      exact absurd c_18 c_1708
    · skip
      subst w_1726
      subst w_1727
      exact absurd c_18 c_1721
    · skip
      subst w_1737
      subst w_1738
      exact absurd c_18 c_1733
    · skip
      subst w_1752
      subst w_1753
      exact absurd c_18 c_1744
    · skip
      subst w_1767
      subst w_1768
      exact absurd c_18 c_1759
    · skip
      subst w_1781
      subst w_1782
      exact absurd c_18 c_1774
    · skip
      subst w_1794
      subst w_1795
      exact absurd c_18 c_1788
    · skip
      subst w_1806
      subst w_1807
      exact absurd c_18 c_1801
    · skip
      subst w_1817
      subst w_1818
      exact absurd c_18 c_1813
    · skip
      subst w_1834
      subst w_1835
      exact absurd c_18 c_1824
    · skip
      subst w_1851
      subst w_1852
      exact absurd c_18 c_1841
    · skip
      subst w_1867
      subst w_1868
      exact absurd c_18 c_1858
    · skip
      subst w_1882
      subst w_1883
      exact absurd c_18 c_1874
    · skip
      subst w_1896
      subst w_1897
      exact absurd c_18 c_1889
    · skip
      subst w_1909
      subst w_1910
      exact absurd c_18 c_1903
    · skip
      subst w_1921
      subst w_1922
      exact absurd c_18 c_1916
    · skip
      subst w_1932
      subst w_1933
      exact absurd c_18 c_1928
    · skip
      subst w_1947
      subst w_1948
      exact absurd c_18 c_1939
    · skip
      subst w_1962
      subst w_1963
      exact absurd c_18 c_1954
    · skip
      subst w_1976
      subst w_1977
      exact absurd c_18 c_1969
    · skip
      subst w_1989
      subst w_1990
      exact absurd c_18 c_1983
    · skip
      subst w_2001
      subst w_2002
      exact absurd c_18 c_1996
    · skip
      subst w_2012
      subst w_2013
      exact absurd c_18 c_2008
  · skip
    subst w_26
    subst w_27
    obtain ⟨hP, hD⟩ := va_join (wr := [(m0, .inr (11, y0))]) (w1 := [(h0, .inr (10, [.ref x0, .int 0, .ref x1, .ref x2, .ref x3, .ref x4, .ref x5, .ref x6, .ref x7, .ref x8, .int 0, .int 3000])), (o0, .inl (kA 1, 1, .inr (.inl (fun _ => 0))))]) hP hD [0, 2] [1] rfl rfl (by decide) (by decide) hk1 hFc hP1 hD1
    generalize H1 = H at hP hS ⊢
    have hP : va_P D vwCl [(m0, .inr (11, y0)), (h0, .inr (10, [.ref x0, .int 0, .ref x1, .ref x2, .ref x3, .ref x4, .ref x5, .ref x6, .ref x7, .ref x8, .int 0, .int 3000])), (o0, .inl (kA 1, 1, .inr (.inl (fun _ => 0))))] H := hP
    have hD : va_D A [(m0, .inr (11, y0)), (h0, .inr (10, [.ref x0, .int 0, .ref x1, .ref x2, .ref x3, .ref x4, .ref x5, .ref x6, .ref x7, .ref x8, .int 0, .int 3000])), (o0, .inl (kA 1, 1, .inr (.inl (fun _ => 0))))] := hD
    refine lv_istore (lv' := [(5, .int 1), (0, .ref b), (1, .ref h0), (2, .ref m0), (3, .ref o0), (4, .int 0)]) hx hb dL_law_1702 hl (by decide) rfl (fun ls hl => ?_)
    refine lv_aload_n hx hb dL_law_1704 rfl (lv_at hl 3 rfl) ?_
    refine lv_aload_n hx hb dL_law_1705 rfl (lv_at hl 1 rfl) ?_
    refine lv_iload hx hb dL_law_1706 (lv_at hl 5 rfl) ?_
    refine lv_iconst (v := 1) hx hb dL_law_1708 (by decide) ?_
    refine lv_iadd hx hb dL_law_1709 ?_
    refine W.eq (g2 := F0 m 1710 ls [.int 1, .ref b, .ref m0]) rfl ?_
    refine va_sld hx hb hX hbl hbA hS (show vp_in 1 8 by unfold vp_in; decide) dL_law_1710 ?_
    refine W.eq (g2 := F0 m 1711 ls [.int (xs 1), .ref m0]) rfl ?_
    refine lv_aload_n hx hb dL_law_1711 rfl (lv_at hl 1 rfl) ?_
    refine lv_iload hx hb dL_law_1712 (lv_at hl 5 rfl) ?_
    refine lv_iconst (v := 2) hx hb dL_law_1714 (by decide) ?_
    refine lv_iadd hx hb dL_law_1715 ?_
    refine W.eq (g2 := F0 m 1716 ls [.int 2, .ref b, .int (xs 1), .ref m0]) rfl ?_
    refine va_sld hx hb hX hbl hbA hS (show vp_in 2 8 by unfold vp_in; decide) dL_law_1716 ?_
    refine W.eq (g2 := F0 m 1717 ls [.int (xs 2), .int (xs 1), .ref m0]) rfl ?_
    refine lv_aload_n hx hb dL_law_1717 rfl (lv_at hl 1 rfl) ?_
    refine lv_iload hx hb dL_law_1718 (lv_at hl 5 rfl) ?_
    refine lv_iconst (v := 3) hx hb dL_law_1720 (by decide) ?_
    refine lv_iadd hx hb dL_law_1721 ?_
    refine W.eq (g2 := F0 m 1722 ls [.int 3, .ref b, .int (xs 2), .int (xs 1), .ref m0]) rfl ?_
    refine va_sld hx hb hX hbl hbA hS (show vp_in 3 8 by unfold vp_in; decide) dL_law_1722 ?_
    refine W.eq (g2 := F0 m 1723 ls [.int (xs 3), .int (xs 2), .int (xs 1), .ref m0]) rfl ?_
    refine lv_aload_n hx hb dL_law_1723 rfl (lv_at hl 1 rfl) ?_
    refine lv_iload hx hb dL_law_1724 (lv_at hl 5 rfl) ?_
    refine lv_iconst (v := 4) hx hb dL_law_1726 (by decide) ?_
    refine lv_iadd hx hb dL_law_1727 ?_
    refine W.eq (g2 := F0 m 1728 ls [.int 4, .ref b, .int (xs 3), .int (xs 2), .int (xs 1), .ref m0]) rfl ?_
    refine va_sld hx hb hX hbl hbA hS (show vp_in 4 8 by unfold vp_in; decide) dL_law_1728 ?_
    refine W.eq (g2 := F0 m 1729 ls [.int (xs 4), .int (xs 3), .int (xs 2), .int (xs 1), .ref m0]) rfl ?_
    refine lv_i2l (v := (xs 4).toInt64) hx hb dL_law_1729 rfl ?_
    refine lv_bipush (v := 32) hx hb dL_law_1730 (by decide) ?_
    refine lv_lshl (v := ((xs 4).toInt64) <<< ((32 : Int32).toInt64 &&& 63)) hx hb dL_law_1732 rfl ?_
    refine lv_aload_n hx hb dL_law_1733 rfl (lv_at hl 1 rfl) ?_
    refine lv_iload hx hb dL_law_1734 (lv_at hl 5 rfl) ?_
    refine lv_iconst (v := 5) hx hb dL_law_1736 (by decide) ?_
    refine lv_iadd hx hb dL_law_1737 ?_
    refine W.eq (g2 := F0 m 1738 ls [.int 5, .ref b, .long (((xs 4).toInt64) <<< ((32 : Int32).toInt64 &&& 63)), .int (xs 3), .int (xs 2), .int (xs 1), .ref m0]) rfl ?_
    refine va_sld hx hb hX hbl hbA hS (show vp_in 5 8 by unfold vp_in; decide) dL_law_1738 ?_
    refine W.eq (g2 := F0 m 1739 ls [.int (xs 5), .long (((xs 4).toInt64) <<< ((32 : Int32).toInt64 &&& 63)), .int (xs 3), .int (xs 2), .int (xs 1), .ref m0]) rfl ?_
    refine lv_i2l (v := (xs 5).toInt64) hx hb dL_law_1739 rfl ?_
    refine lv_ldc2 (v := 4294967295) hx hb hown (hG _ gw_2764) dL_law_1740 ?_
    refine lv_land hx hb dL_law_1743 ?_
    refine lv_lor hx hb dL_law_1744 ?_
    refine lv_aload_n hx hb dL_law_1745 rfl (lv_at hl 1 rfl) ?_
    refine lv_iload hx hb dL_law_1746 (lv_at hl 5 rfl) ?_
    refine lv_bipush (v := 6) hx hb dL_law_1748 (by decide) ?_
    refine lv_iadd hx hb dL_law_1750 ?_
    refine W.eq (g2 := F0 m 1751 ls [.int 6, .ref b, .long ((((xs 4).toInt64) <<< ((32 : Int32).toInt64 &&& 63)) ||| (((xs 5).toInt64) &&& 4294967295)), .int (xs 3), .int (xs 2), .int (xs 1), .ref m0]) rfl ?_
    refine va_sld hx hb hX hbl hbA hS (show vp_in 6 8 by unfold vp_in; decide) dL_law_1751 ?_
    refine W.eq (g2 := F0 m 1752 ls [.int (xs 6), .long ((((xs 4).toInt64) <<< ((32 : Int32).toInt64 &&& 63)) ||| (((xs 5).toInt64) &&& 4294967295)), .int (xs 3), .int (xs 2), .int (xs 1), .ref m0]) rfl ?_
    refine lv_i2l (v := (xs 6).toInt64) hx hb dL_law_1752 rfl ?_
    refine lv_bipush (v := 32) hx hb dL_law_1753 (by decide) ?_
    refine lv_lshl (v := ((xs 6).toInt64) <<< ((32 : Int32).toInt64 &&& 63)) hx hb dL_law_1755 rfl ?_
    refine lv_aload_n hx hb dL_law_1756 rfl (lv_at hl 1 rfl) ?_
    refine lv_iload hx hb dL_law_1757 (lv_at hl 5 rfl) ?_
    refine lv_bipush (v := 7) hx hb dL_law_1759 (by decide) ?_
    refine lv_iadd hx hb dL_law_1761 ?_
    refine W.eq (g2 := F0 m 1762 ls [.int 7, .ref b, .long (((xs 6).toInt64) <<< ((32 : Int32).toInt64 &&& 63)), .long ((((xs 4).toInt64) <<< ((32 : Int32).toInt64 &&& 63)) ||| (((xs 5).toInt64) &&& 4294967295)), .int (xs 3), .int (xs 2), .int (xs 1), .ref m0]) rfl ?_
    refine va_sld hx hb hX hbl hbA hS (show vp_in 7 8 by unfold vp_in; decide) dL_law_1762 ?_
    refine W.eq (g2 := F0 m 1763 ls [.int (xs 7), .long (((xs 6).toInt64) <<< ((32 : Int32).toInt64 &&& 63)), .long ((((xs 4).toInt64) <<< ((32 : Int32).toInt64 &&& 63)) ||| (((xs 5).toInt64) &&& 4294967295)), .int (xs 3), .int (xs 2), .int (xs 1), .ref m0]) rfl ?_
    refine lv_i2l (v := (xs 7).toInt64) hx hb dL_law_1763 rfl ?_
    refine lv_ldc2 (v := 4294967295) hx hb hown (hG _ gw_2764) dL_law_1764 ?_
    refine lv_land hx hb dL_law_1767 ?_
    refine lv_lor hx hb dL_law_1768 ?_
    have hPc := hP.sub (ws' := [(m0, .inr (11, y0))]) [0] rfl
    have hDc := hD.sub (ws' := [(m0, .inr (11, y0))]) [0] (by decide) rfl
    have hFc := va_free (wc := [(m0, .inr (11, y0))]) hD hS hA [0] rfl
    refine va_calll (va_runV (As := [.int (xs 1), .int (xs 2), .int (xs 3), .long ((((xs 4).toInt64) <<< ((32 : Int32).toInt64 &&& 63)) ||| (((xs 5).toInt64) &&& 4294967295)), .long ((((xs 6).toInt64) <<< ((32 : Int32).toInt64 &&& 63)) ||| (((xs 7).toInt64) &&& 4294967295))]) (rest := []) ⟨hx, hb, hml, hown, hts⟩ (a155_X12_tell l  D kA V H.size m0 (xs 1) (xs 2) (xs 3) ((((xs 4).toInt64) <<< ((32 : Int32).toInt64 &&& 63)) ||| (((xs 5).toInt64) &&& 4294967295)) ((((xs 6).toInt64) <<< ((32 : Int32).toInt64 &&& 63)) ||| (((xs 7).toInt64) &&& 4294967295)) y0 (fun k hk => (hq k hk)) hq9) (cwV 5 hts (gw_V gw_2760 gw_2761 gw_2762 gw_16 gw_2763) rfl rfl rfl (by decide +kernel) ⟨(Nat.le_of_ble_eq_true rfl), (Nat.le_of_ble_eq_true rfl)⟩) ⟨aP.blind, va_recv hK hP (ci := 11) (q0 := 0) rfl rfl, aP.pre hE hS hPc hK hDc hFc⟩ rfl rfl hl.1 rfl (lv_room (Nat.le_of_ble_eq_true rfl)) dL_law_1769 ⟨(Nat.le_of_ble_eq_true rfl), (Nat.le_of_ble_eq_true rfl)⟩) hS (fun q _ h => hFc q h) hFc (fun r_2026 u t H1 locs ht hvm hw hB hz1 hk1 hS => ?_)
    obtain ⟨u_2027, rfl⟩ : ∃ z, z = u := ⟨u, rfl⟩
    obtain ⟨hP1, hD1⟩ := hB
    rw [ht] at hP1
    try dsimp only at hw hP1 hD1
    rcases hw with ⟨c_2028, c_2029, w_2030, w_2031⟩ | ⟨c_2032, c_2033, c_2034, w_2035, w_2036⟩ | ⟨c_2037, c_2038, c_2039, c_2040, w_2041, w_2042⟩ | ⟨c_2043, c_2044, c_2045, c_2046, c_2047, w_2048, w_2049⟩ | ⟨c_2050, c_2051, c_2052, c_2053, c_2054, w_2055, w_2056⟩ | ⟨c_2057, c_2058, c_2059, w_2060, w_2061⟩ | ⟨c_2062, c_2063, c_2064, c_2065, w_2066, w_2067⟩ | ⟨c_2068, c_2069, c_2070, c_2071, c_2072, w_2073, w_2074⟩ | ⟨c_2075, c_2076, c_2077, c_2078, c_2079, c_2080, w_2081, w_2082⟩ | ⟨c_2083, c_2084, c_2085, c_2086, c_2087, c_2088, w_2089, w_2090⟩ | ⟨c_2091, c_2092, c_2093, w_2094, w_2095⟩ | ⟨c_2096, c_2097, c_2098, c_2099, w_2100, w_2101⟩ | ⟨c_2102, c_2103, c_2104, c_2105, c_2106, w_2107, w_2108⟩ | ⟨c_2109, c_2110, c_2111, c_2112, c_2113, c_2114, w_2115, w_2116⟩ | ⟨c_2117, c_2118, c_2119, c_2120, c_2121, c_2122, c_2123, c_2124, c_2125, c_2126, c_2127, c_2128, c_2129, c_2130, c_2131, w_2132, w_2133⟩ | ⟨c_2134, c_2135, c_2136, c_2137, c_2138, c_2139, c_2140, c_2141, c_2142, c_2143, c_2144, c_2145, c_2146, c_2147, c_2148, w_2149, w_2150⟩ | ⟨c_2151, c_2152, c_2153, c_2154, c_2155, c_2156, c_2157, c_2158, c_2159, c_2160, c_2161, c_2162, c_2163, c_2164, w_2165, w_2166⟩ | ⟨c_2167, c_2168, c_2169, c_2170, c_2171, c_2172, c_2173, c_2174, c_2175, c_2176, c_2177, c_2178, c_2179, w_2180, w_2181⟩ | ⟨c_2182, c_2183, c_2184, c_2185, c_2186, c_2187, c_2188, c_2189, c_2190, c_2191, c_2192, c_2193, w_2194, w_2195⟩ | ⟨c_2196, c_2197, c_2198, c_2199, c_2200, c_2201, c_2202, c_2203, c_2204, c_2205, c_2206, w_2207, w_2208⟩ | ⟨c_2209, c_2210, c_2211, c_2212, c_2213, c_2214, c_2215, c_2216, c_2217, c_2218, w_2219, w_2220⟩ | ⟨c_2221, c_2222, c_2223, c_2224, c_2225, c_2226, c_2227, c_2228, c_2229, w_2230, w_2231⟩ | ⟨c_2232, c_2233, c_2234, c_2235, c_2236, c_2237, c_2238, c_2239, c_2240, c_2241, c_2242, c_2243, c_2244, w_2245, w_2246⟩ | ⟨c_2247, c_2248, c_2249, c_2250, c_2251, c_2252, c_2253, c_2254, c_2255, c_2256, c_2257, c_2258, c_2259, w_2260, w_2261⟩ | ⟨c_2262, c_2263, c_2264, c_2265, c_2266, c_2267, c_2268, c_2269, c_2270, c_2271, c_2272, c_2273, w_2274, w_2275⟩ | ⟨c_2276, c_2277, c_2278, c_2279, c_2280, c_2281, c_2282, c_2283, c_2284, c_2285, c_2286, w_2287, w_2288⟩ | ⟨c_2289, c_2290, c_2291, c_2292, c_2293, c_2294, c_2295, c_2296, c_2297, c_2298, w_2299, w_2300⟩ | ⟨c_2301, c_2302, c_2303, c_2304, c_2305, c_2306, c_2307, c_2308, c_2309, w_2310, w_2311⟩ | ⟨c_2312, c_2313, c_2314, c_2315, c_2316, c_2317, c_2318, c_2319, c_2320, c_2321, c_2322, c_2323, c_2324, c_2325, c_2326, w_2327, w_2328⟩ | ⟨c_2329, c_2330, c_2331, c_2332, c_2333, c_2334, c_2335, c_2336, c_2337, c_2338, c_2339, c_2340, c_2341, c_2342, c_2343, w_2344, w_2345⟩ | ⟨c_2346, c_2347, c_2348, c_2349, c_2350, c_2351, c_2352, c_2353, c_2354, c_2355, c_2356, c_2357, c_2358, c_2359, w_2360, w_2361⟩ | ⟨c_2362, c_2363, c_2364, c_2365, c_2366, c_2367, c_2368, c_2369, c_2370, c_2371, c_2372, c_2373, c_2374, w_2375, w_2376⟩ | ⟨c_2377, c_2378, c_2379, c_2380, c_2381, c_2382, c_2383, c_2384, c_2385, c_2386, c_2387, c_2388, w_2389, w_2390⟩ | ⟨c_2391, c_2392, c_2393, c_2394, c_2395, c_2396, c_2397, c_2398, c_2399, c_2400, c_2401, w_2402, w_2403⟩ | ⟨c_2404, c_2405, c_2406, c_2407, c_2408, c_2409, c_2410, c_2411, c_2412, c_2413, w_2414, w_2415⟩ | ⟨c_2416, c_2417, c_2418, c_2419, c_2420, c_2421, c_2422, c_2423, c_2424, w_2425, w_2426⟩ | ⟨c_2427, c_2428, c_2429, c_2430, c_2431, c_2432, c_2433, c_2434, c_2435, c_2436, c_2437, c_2438, c_2439, w_2440, w_2441⟩ | ⟨c_2442, c_2443, c_2444, c_2445, c_2446, c_2447, c_2448, c_2449, c_2450, c_2451, c_2452, c_2453, c_2454, w_2455, w_2456⟩ | ⟨c_2457, c_2458, c_2459, c_2460, c_2461, c_2462, c_2463, c_2464, c_2465, c_2466, c_2467, c_2468, w_2469, w_2470⟩ | ⟨c_2471, c_2472, c_2473, c_2474, c_2475, c_2476, c_2477, c_2478, c_2479, c_2480, c_2481, w_2482, w_2483⟩ | ⟨c_2484, c_2485, c_2486, c_2487, c_2488, c_2489, c_2490, c_2491, c_2492, c_2493, w_2494, w_2495⟩ | ⟨c_2496, c_2497, c_2498, c_2499, c_2500, c_2501, c_2502, c_2503, c_2504, w_2505, w_2506⟩
    · skip
      subst w_2030
      subst w_2031
      exact absurd c_2029 c_21
    · skip
      subst w_2035
      subst w_2036
      exact absurd c_2034 c_22
    · skip
      subst w_2041
      subst w_2042
      exact absurd c_2040 c_23
    · skip
      subst w_2048
      subst w_2049
      exact absurd c_2047 c_24
    · skip
      subst w_2055
      subst w_2056
      obtain ⟨hP, hD⟩ := va_join (wr := [(h0, .inr (10, [.ref x0, .int 0, .ref x1, .ref x2, .ref x3, .ref x4, .ref x5, .ref x6, .ref x7, .ref x8, .int 0, .int 3000])), (o0, .inl (kA 1, 1, .inr (.inl (fun _ => 0))))]) (w1 := [(m0, .inr (11, y0.set 9 (.int 1)))]) hP hD [0] [1, 2] rfl rfl (by decide) (by decide) hk1 hFc hP1 hD1
      generalize H1 = H at hP hS ⊢
      have hP : va_P D vwCl [(h0, .inr (10, [.ref x0, .int 0, .ref x1, .ref x2, .ref x3, .ref x4, .ref x5, .ref x6, .ref x7, .ref x8, .int 0, .int 3000])), (o0, .inl (kA 1, 1, .inr (.inl (fun _ => 0)))), (m0, .inr (11, y0.set 9 (.int 1)))] H := hP
      have hD : va_D A [(h0, .inr (10, [.ref x0, .int 0, .ref x1, .ref x2, .ref x3, .ref x4, .ref x5, .ref x6, .ref x7, .ref x8, .int 0, .int 3000])), (o0, .inl (kA 1, 1, .inr (.inl (fun _ => 0)))), (m0, .inr (11, y0.set 9 (.int 1)))] := hD
      refine lv_lstore (lv' := [(6, .long 0), (5, .int 1), (0, .ref b), (1, .ref h0), (2, .ref m0), (3, .ref o0), (4, .int 0)]) hx hb dL_law_1772 hl (by decide) rfl (fun ls hl => ?_)
      refine lv_aload_n hx hb dL_law_1774 rfl (lv_at hl 4 rfl) ?_
      have hPc := hP.sub (ws' := [(m0, .inr (11, y0.set 9 (.int 1)))]) [2] rfl
      have hDc := hD.sub (ws' := [(m0, .inr (11, y0.set 9 (.int 1)))]) [2] (by decide) rfl
      have hFc := va_free (wc := [(m0, .inr (11, y0.set 9 (.int 1)))]) hD hS hA [2] rfl
      refine va_calli (va_runV (As := []) (rest := []) ⟨hx, hb, hml, hown, hts⟩ (a174_X12_thrown l  D kA V H.size m0 (y0.set 9 (.int 1)) (fun k hk => (by rw [List.length_set]; exact (hq k hk))) (List.getElem?_set_self (hq 9 (by decide)))) (cwV 0 hts (gw_V gw_1879 gw_1880 gw_1881 gw_16 gw_1882) rfl rfl rfl (by decide +kernel) ⟨(Nat.le_of_ble_eq_true rfl), (Nat.le_of_ble_eq_true rfl)⟩) ⟨aP.blind, va_recv hK hP (ci := 11) (q0 := 2) rfl rfl, aP.pre hE hS hPc hK hDc hFc⟩ rfl rfl hl.1 rfl (lv_room (Nat.le_of_ble_eq_true rfl)) dL_law_1775 ⟨(Nat.le_of_ble_eq_true rfl), (Nat.le_of_ble_eq_true rfl)⟩) hS (fun q _ h => hFc q h) hFc (fun r_2507 u t H1 locs ht hvm hw hB hz1 hk1 hS => ?_)
      obtain ⟨hP1, hD1⟩ := hB
      rw [ht] at hP1
      try dsimp only at hw hP1 hD1
      have w_2508 := hw
      subst w_2508
      obtain ⟨hP, hD⟩ := va_join (wr := [(h0, .inr (10, [.ref x0, .int 0, .ref x1, .ref x2, .ref x3, .ref x4, .ref x5, .ref x6, .ref x7, .ref x8, .int 0, .int 3000])), (o0, .inl (kA 1, 1, .inr (.inl (fun _ => 0))))]) (w1 := [(m0, .inr (11, (y0.set 9 (.int 1))))]) hP hD [2] [0, 1] rfl rfl (by decide) (by decide) hk1 hFc hP1 hD1
      generalize H1 = H at hP hS ⊢
      have hP : va_P D vwCl [(h0, .inr (10, [.ref x0, .int 0, .ref x1, .ref x2, .ref x3, .ref x4, .ref x5, .ref x6, .ref x7, .ref x8, .int 0, .int 3000])), (o0, .inl (kA 1, 1, .inr (.inl (fun _ => 0)))), (m0, .inr (11, (y0.set 9 (.int 1))))] H := hP
      have hD : va_D A [(h0, .inr (10, [.ref x0, .int 0, .ref x1, .ref x2, .ref x3, .ref x4, .ref x5, .ref x6, .ref x7, .ref x8, .int 0, .int 3000])), (o0, .inl (kA 1, 1, .inr (.inl (fun _ => 0)))), (m0, .inr (11, (y0.set 9 (.int 1))))] := hD
      refine lv_iload hx hb dL_law_1778 (lv_at hl 1 rfl) ?_
      refine lv_icmp_eq (tgt := 1785) hx hb dL_law_1780 (by decide) (fun c_2509 => ?_) (fun c_2509 => ?_)
      · skip
        refine lv_iload hx hb dL_law_1785 (lv_at hl 1 rfl) ?_
        refine lv_if_ne (tgt := 1801) hx hb dL_law_1787 (by decide) (fun c_2510 => ?_) (fun c_2510 => ?_)
        · skip
          refine lv_goto (tgt := 1804) hx hb dL_law_1801 (by decide) ?_
          exact lk_tail hC hA2 (lv_sub hl [2, 6] rfl) hS (Nat.le_of_ble_eq_true rfl) (Nat.le_of_ble_eq_true rfl)
        · exact absurd c_2510 (by decide)
      · exact absurd (by decide) c_2509
    · skip
      subst w_2060
      subst w_2061
      exact absurd c_25 c_2057
    · skip
      subst w_2066
      subst w_2067
      exact absurd c_25 c_2062
    · skip
      subst w_2073
      subst w_2074
      exact absurd c_25 c_2068
    · skip
      subst w_2081
      subst w_2082
      exact absurd c_25 c_2075
    · skip
      subst w_2089
      subst w_2090
      exact absurd c_25 c_2083
    · skip
      subst w_2094
      subst w_2095
      exact absurd c_25 c_2091
    · skip
      subst w_2100
      subst w_2101
      exact absurd c_25 c_2096
    · skip
      subst w_2107
      subst w_2108
      exact absurd c_25 c_2102
    · skip
      subst w_2115
      subst w_2116
      exact absurd c_25 c_2109
    · skip
      subst w_2132
      subst w_2133
      exact absurd c_25 c_2117
    · skip
      subst w_2149
      subst w_2150
      exact absurd c_25 c_2134
    · skip
      subst w_2165
      subst w_2166
      exact absurd c_25 c_2151
    · skip
      subst w_2180
      subst w_2181
      exact absurd c_25 c_2167
    · skip
      subst w_2194
      subst w_2195
      exact absurd c_25 c_2182
    · skip
      subst w_2207
      subst w_2208
      exact absurd c_25 c_2196
    · skip
      subst w_2219
      subst w_2220
      exact absurd c_25 c_2209
    · skip
      subst w_2230
      subst w_2231
      exact absurd c_25 c_2221
    · skip
      subst w_2245
      subst w_2246
      exact absurd c_25 c_2232
    · skip
      subst w_2260
      subst w_2261
      exact absurd c_25 c_2247
    · skip
      subst w_2274
      subst w_2275
      exact absurd c_25 c_2262
    · skip
      subst w_2287
      subst w_2288
      exact absurd c_25 c_2276
    · skip
      subst w_2299
      subst w_2300
      exact absurd c_25 c_2289
    · skip
      subst w_2310
      subst w_2311
      exact absurd c_25 c_2301
    · skip
      subst w_2327
      subst w_2328
      exact absurd c_25 c_2312
    · skip
      subst w_2344
      subst w_2345
      exact absurd c_25 c_2329
    · skip
      subst w_2360
      subst w_2361
      exact absurd c_25 c_2346
    · skip
      subst w_2375
      subst w_2376
      exact absurd c_25 c_2362
    · skip
      subst w_2389
      subst w_2390
      exact absurd c_25 c_2377
    · skip
      subst w_2402
      subst w_2403
      exact absurd c_25 c_2391
    · skip
      subst w_2414
      subst w_2415
      exact absurd c_25 c_2404
    · skip
      subst w_2425
      subst w_2426
      exact absurd c_25 c_2416
    · skip
      subst w_2440
      subst w_2441
      exact absurd c_25 c_2427
    · skip
      subst w_2455
      subst w_2456
      exact absurd c_25 c_2442
    · skip
      subst w_2469
      subst w_2470
      exact absurd c_25 c_2457
    · skip
      subst w_2482
      subst w_2483
      exact absurd c_25 c_2471
    · skip
      subst w_2494
      subst w_2495
      exact absurd c_25 c_2484
    · skip
      subst w_2505
      subst w_2506
      exact absurd c_25 c_2496
  · skip
    subst w_34
    subst w_35
    obtain ⟨hP, hD⟩ := va_join (wr := [(m0, .inr (11, y0))]) (w1 := [(h0, .inr (10, [.ref x0, .int 0, .ref x1, .ref x2, .ref x3, .ref x4, .ref x5, .ref x6, .ref x7, .ref x8, .int 0, .int 3000])), (o0, .inl (kA 1, 1, .inr (.inl (fun _ => 0))))]) hP hD [0, 2] [1] rfl rfl (by decide) (by decide) hk1 hFc hP1 hD1
    generalize H1 = H at hP hS ⊢
    have hP : va_P D vwCl [(m0, .inr (11, y0)), (h0, .inr (10, [.ref x0, .int 0, .ref x1, .ref x2, .ref x3, .ref x4, .ref x5, .ref x6, .ref x7, .ref x8, .int 0, .int 3000])), (o0, .inl (kA 1, 1, .inr (.inl (fun _ => 0))))] H := hP
    have hD : va_D A [(m0, .inr (11, y0)), (h0, .inr (10, [.ref x0, .int 0, .ref x1, .ref x2, .ref x3, .ref x4, .ref x5, .ref x6, .ref x7, .ref x8, .int 0, .int 3000])), (o0, .inl (kA 1, 1, .inr (.inl (fun _ => 0))))] := hD
    refine lv_istore (lv' := [(5, .int 1), (0, .ref b), (1, .ref h0), (2, .ref m0), (3, .ref o0), (4, .int 0)]) hx hb dL_law_1702 hl (by decide) rfl (fun ls hl => ?_)
    refine lv_aload_n hx hb dL_law_1704 rfl (lv_at hl 3 rfl) ?_
    refine lv_aload_n hx hb dL_law_1705 rfl (lv_at hl 1 rfl) ?_
    refine lv_iload hx hb dL_law_1706 (lv_at hl 5 rfl) ?_
    refine lv_iconst (v := 1) hx hb dL_law_1708 (by decide) ?_
    refine lv_iadd hx hb dL_law_1709 ?_
    refine W.eq (g2 := F0 m 1710 ls [.int 1, .ref b, .ref m0]) rfl ?_
    refine va_sld hx hb hX hbl hbA hS (show vp_in 1 8 by unfold vp_in; decide) dL_law_1710 ?_
    refine W.eq (g2 := F0 m 1711 ls [.int (xs 1), .ref m0]) rfl ?_
    refine lv_aload_n hx hb dL_law_1711 rfl (lv_at hl 1 rfl) ?_
    refine lv_iload hx hb dL_law_1712 (lv_at hl 5 rfl) ?_
    refine lv_iconst (v := 2) hx hb dL_law_1714 (by decide) ?_
    refine lv_iadd hx hb dL_law_1715 ?_
    refine W.eq (g2 := F0 m 1716 ls [.int 2, .ref b, .int (xs 1), .ref m0]) rfl ?_
    refine va_sld hx hb hX hbl hbA hS (show vp_in 2 8 by unfold vp_in; decide) dL_law_1716 ?_
    refine W.eq (g2 := F0 m 1717 ls [.int (xs 2), .int (xs 1), .ref m0]) rfl ?_
    refine lv_aload_n hx hb dL_law_1717 rfl (lv_at hl 1 rfl) ?_
    refine lv_iload hx hb dL_law_1718 (lv_at hl 5 rfl) ?_
    refine lv_iconst (v := 3) hx hb dL_law_1720 (by decide) ?_
    refine lv_iadd hx hb dL_law_1721 ?_
    refine W.eq (g2 := F0 m 1722 ls [.int 3, .ref b, .int (xs 2), .int (xs 1), .ref m0]) rfl ?_
    refine va_sld hx hb hX hbl hbA hS (show vp_in 3 8 by unfold vp_in; decide) dL_law_1722 ?_
    refine W.eq (g2 := F0 m 1723 ls [.int (xs 3), .int (xs 2), .int (xs 1), .ref m0]) rfl ?_
    refine lv_aload_n hx hb dL_law_1723 rfl (lv_at hl 1 rfl) ?_
    refine lv_iload hx hb dL_law_1724 (lv_at hl 5 rfl) ?_
    refine lv_iconst (v := 4) hx hb dL_law_1726 (by decide) ?_
    refine lv_iadd hx hb dL_law_1727 ?_
    refine W.eq (g2 := F0 m 1728 ls [.int 4, .ref b, .int (xs 3), .int (xs 2), .int (xs 1), .ref m0]) rfl ?_
    refine va_sld hx hb hX hbl hbA hS (show vp_in 4 8 by unfold vp_in; decide) dL_law_1728 ?_
    refine W.eq (g2 := F0 m 1729 ls [.int (xs 4), .int (xs 3), .int (xs 2), .int (xs 1), .ref m0]) rfl ?_
    refine lv_i2l (v := (xs 4).toInt64) hx hb dL_law_1729 rfl ?_
    refine lv_bipush (v := 32) hx hb dL_law_1730 (by decide) ?_
    refine lv_lshl (v := ((xs 4).toInt64) <<< ((32 : Int32).toInt64 &&& 63)) hx hb dL_law_1732 rfl ?_
    refine lv_aload_n hx hb dL_law_1733 rfl (lv_at hl 1 rfl) ?_
    refine lv_iload hx hb dL_law_1734 (lv_at hl 5 rfl) ?_
    refine lv_iconst (v := 5) hx hb dL_law_1736 (by decide) ?_
    refine lv_iadd hx hb dL_law_1737 ?_
    refine W.eq (g2 := F0 m 1738 ls [.int 5, .ref b, .long (((xs 4).toInt64) <<< ((32 : Int32).toInt64 &&& 63)), .int (xs 3), .int (xs 2), .int (xs 1), .ref m0]) rfl ?_
    refine va_sld hx hb hX hbl hbA hS (show vp_in 5 8 by unfold vp_in; decide) dL_law_1738 ?_
    refine W.eq (g2 := F0 m 1739 ls [.int (xs 5), .long (((xs 4).toInt64) <<< ((32 : Int32).toInt64 &&& 63)), .int (xs 3), .int (xs 2), .int (xs 1), .ref m0]) rfl ?_
    refine lv_i2l (v := (xs 5).toInt64) hx hb dL_law_1739 rfl ?_
    refine lv_ldc2 (v := 4294967295) hx hb hown (hG _ gw_2764) dL_law_1740 ?_
    refine lv_land hx hb dL_law_1743 ?_
    refine lv_lor hx hb dL_law_1744 ?_
    refine lv_aload_n hx hb dL_law_1745 rfl (lv_at hl 1 rfl) ?_
    refine lv_iload hx hb dL_law_1746 (lv_at hl 5 rfl) ?_
    refine lv_bipush (v := 6) hx hb dL_law_1748 (by decide) ?_
    refine lv_iadd hx hb dL_law_1750 ?_
    refine W.eq (g2 := F0 m 1751 ls [.int 6, .ref b, .long ((((xs 4).toInt64) <<< ((32 : Int32).toInt64 &&& 63)) ||| (((xs 5).toInt64) &&& 4294967295)), .int (xs 3), .int (xs 2), .int (xs 1), .ref m0]) rfl ?_
    refine va_sld hx hb hX hbl hbA hS (show vp_in 6 8 by unfold vp_in; decide) dL_law_1751 ?_
    refine W.eq (g2 := F0 m 1752 ls [.int (xs 6), .long ((((xs 4).toInt64) <<< ((32 : Int32).toInt64 &&& 63)) ||| (((xs 5).toInt64) &&& 4294967295)), .int (xs 3), .int (xs 2), .int (xs 1), .ref m0]) rfl ?_
    refine lv_i2l (v := (xs 6).toInt64) hx hb dL_law_1752 rfl ?_
    refine lv_bipush (v := 32) hx hb dL_law_1753 (by decide) ?_
    refine lv_lshl (v := ((xs 6).toInt64) <<< ((32 : Int32).toInt64 &&& 63)) hx hb dL_law_1755 rfl ?_
    refine lv_aload_n hx hb dL_law_1756 rfl (lv_at hl 1 rfl) ?_
    refine lv_iload hx hb dL_law_1757 (lv_at hl 5 rfl) ?_
    refine lv_bipush (v := 7) hx hb dL_law_1759 (by decide) ?_
    refine lv_iadd hx hb dL_law_1761 ?_
    refine W.eq (g2 := F0 m 1762 ls [.int 7, .ref b, .long (((xs 6).toInt64) <<< ((32 : Int32).toInt64 &&& 63)), .long ((((xs 4).toInt64) <<< ((32 : Int32).toInt64 &&& 63)) ||| (((xs 5).toInt64) &&& 4294967295)), .int (xs 3), .int (xs 2), .int (xs 1), .ref m0]) rfl ?_
    refine va_sld hx hb hX hbl hbA hS (show vp_in 7 8 by unfold vp_in; decide) dL_law_1762 ?_
    refine W.eq (g2 := F0 m 1763 ls [.int (xs 7), .long (((xs 6).toInt64) <<< ((32 : Int32).toInt64 &&& 63)), .long ((((xs 4).toInt64) <<< ((32 : Int32).toInt64 &&& 63)) ||| (((xs 5).toInt64) &&& 4294967295)), .int (xs 3), .int (xs 2), .int (xs 1), .ref m0]) rfl ?_
    refine lv_i2l (v := (xs 7).toInt64) hx hb dL_law_1763 rfl ?_
    refine lv_ldc2 (v := 4294967295) hx hb hown (hG _ gw_2764) dL_law_1764 ?_
    refine lv_land hx hb dL_law_1767 ?_
    refine lv_lor hx hb dL_law_1768 ?_
    have hPc := hP.sub (ws' := [(m0, .inr (11, y0))]) [0] rfl
    have hDc := hD.sub (ws' := [(m0, .inr (11, y0))]) [0] (by decide) rfl
    have hFc := va_free (wc := [(m0, .inr (11, y0))]) hD hS hA [0] rfl
    refine va_calll (va_runV (As := [.int (xs 1), .int (xs 2), .int (xs 3), .long ((((xs 4).toInt64) <<< ((32 : Int32).toInt64 &&& 63)) ||| (((xs 5).toInt64) &&& 4294967295)), .long ((((xs 6).toInt64) <<< ((32 : Int32).toInt64 &&& 63)) ||| (((xs 7).toInt64) &&& 4294967295))]) (rest := []) ⟨hx, hb, hml, hown, hts⟩ (a155_X12_tell l  D kA V H.size m0 (xs 1) (xs 2) (xs 3) ((((xs 4).toInt64) <<< ((32 : Int32).toInt64 &&& 63)) ||| (((xs 5).toInt64) &&& 4294967295)) ((((xs 6).toInt64) <<< ((32 : Int32).toInt64 &&& 63)) ||| (((xs 7).toInt64) &&& 4294967295)) y0 (fun k hk => (hq k hk)) hq9) (cwV 5 hts (gw_V gw_2760 gw_2761 gw_2762 gw_16 gw_2763) rfl rfl rfl (by decide +kernel) ⟨(Nat.le_of_ble_eq_true rfl), (Nat.le_of_ble_eq_true rfl)⟩) ⟨aP.blind, va_recv hK hP (ci := 11) (q0 := 0) rfl rfl, aP.pre hE hS hPc hK hDc hFc⟩ rfl rfl hl.1 rfl (lv_room (Nat.le_of_ble_eq_true rfl)) dL_law_1769 ⟨(Nat.le_of_ble_eq_true rfl), (Nat.le_of_ble_eq_true rfl)⟩) hS (fun q _ h => hFc q h) hFc (fun r_2511 u t H1 locs ht hvm hw hB hz1 hk1 hS => ?_)
    obtain ⟨u_2512, rfl⟩ : ∃ z, z = u := ⟨u, rfl⟩
    obtain ⟨hP1, hD1⟩ := hB
    rw [ht] at hP1
    try dsimp only at hw hP1 hD1
    rcases hw with ⟨c_2513, c_2514, w_2515, w_2516⟩ | ⟨c_2517, c_2518, c_2519, w_2520, w_2521⟩ | ⟨c_2522, c_2523, c_2524, c_2525, w_2526, w_2527⟩ | ⟨c_2528, c_2529, c_2530, c_2531, c_2532, w_2533, w_2534⟩ | ⟨c_2535, c_2536, c_2537, c_2538, c_2539, w_2540, w_2541⟩ | ⟨c_2542, c_2543, c_2544, w_2545, w_2546⟩ | ⟨c_2547, c_2548, c_2549, c_2550, w_2551, w_2552⟩ | ⟨c_2553, c_2554, c_2555, c_2556, c_2557, w_2558, w_2559⟩ | ⟨c_2560, c_2561, c_2562, c_2563, c_2564, c_2565, w_2566, w_2567⟩ | ⟨c_2568, c_2569, c_2570, c_2571, c_2572, c_2573, w_2574, w_2575⟩ | ⟨c_2576, c_2577, c_2578, w_2579, w_2580⟩ | ⟨c_2581, c_2582, c_2583, c_2584, w_2585, w_2586⟩ | ⟨c_2587, c_2588, c_2589, c_2590, c_2591, w_2592, w_2593⟩ | ⟨c_2594, c_2595, c_2596, c_2597, c_2598, c_2599, w_2600, w_2601⟩ | ⟨c_2602, c_2603, c_2604, c_2605, c_2606, c_2607, c_2608, c_2609, c_2610, c_2611, c_2612, c_2613, c_2614, c_2615, c_2616, w_2617, w_2618⟩ | ⟨c_2619, c_2620, c_2621, c_2622, c_2623, c_2624, c_2625, c_2626, c_2627, c_2628, c_2629, c_2630, c_2631, c_2632, c_2633, w_2634, w_2635⟩ | ⟨c_2636, c_2637, c_2638, c_2639, c_2640, c_2641, c_2642, c_2643, c_2644, c_2645, c_2646, c_2647, c_2648, c_2649, w_2650, w_2651⟩ | ⟨c_2652, c_2653, c_2654, c_2655, c_2656, c_2657, c_2658, c_2659, c_2660, c_2661, c_2662, c_2663, c_2664, w_2665, w_2666⟩ | ⟨c_2667, c_2668, c_2669, c_2670, c_2671, c_2672, c_2673, c_2674, c_2675, c_2676, c_2677, c_2678, w_2679, w_2680⟩ | ⟨c_2681, c_2682, c_2683, c_2684, c_2685, c_2686, c_2687, c_2688, c_2689, c_2690, c_2691, w_2692, w_2693⟩ | ⟨c_2694, c_2695, c_2696, c_2697, c_2698, c_2699, c_2700, c_2701, c_2702, c_2703, w_2704, w_2705⟩ | ⟨c_2706, c_2707, c_2708, c_2709, c_2710, c_2711, c_2712, c_2713, c_2714, w_2715, w_2716⟩ | ⟨c_2717, c_2718, c_2719, c_2720, c_2721, c_2722, c_2723, c_2724, c_2725, c_2726, c_2727, c_2728, c_2729, w_2730, w_2731⟩ | ⟨c_2732, c_2733, c_2734, c_2735, c_2736, c_2737, c_2738, c_2739, c_2740, c_2741, c_2742, c_2743, c_2744, w_2745, w_2746⟩ | ⟨c_2747, c_2748, c_2749, c_2750, c_2751, c_2752, c_2753, c_2754, c_2755, c_2756, c_2757, c_2758, w_2759, w_2760⟩ | ⟨c_2761, c_2762, c_2763, c_2764, c_2765, c_2766, c_2767, c_2768, c_2769, c_2770, c_2771, w_2772, w_2773⟩ | ⟨c_2774, c_2775, c_2776, c_2777, c_2778, c_2779, c_2780, c_2781, c_2782, c_2783, w_2784, w_2785⟩ | ⟨c_2786, c_2787, c_2788, c_2789, c_2790, c_2791, c_2792, c_2793, c_2794, w_2795, w_2796⟩ | ⟨c_2797, c_2798, c_2799, c_2800, c_2801, c_2802, c_2803, c_2804, c_2805, c_2806, c_2807, c_2808, c_2809, c_2810, c_2811, w_2812, w_2813⟩ | ⟨c_2814, c_2815, c_2816, c_2817, c_2818, c_2819, c_2820, c_2821, c_2822, c_2823, c_2824, c_2825, c_2826, c_2827, c_2828, w_2829, w_2830⟩ | ⟨c_2831, c_2832, c_2833, c_2834, c_2835, c_2836, c_2837, c_2838, c_2839, c_2840, c_2841, c_2842, c_2843, c_2844, w_2845, w_2846⟩ | ⟨c_2847, c_2848, c_2849, c_2850, c_2851, c_2852, c_2853, c_2854, c_2855, c_2856, c_2857, c_2858, c_2859, w_2860, w_2861⟩ | ⟨c_2862, c_2863, c_2864, c_2865, c_2866, c_2867, c_2868, c_2869, c_2870, c_2871, c_2872, c_2873, w_2874, w_2875⟩ | ⟨c_2876, c_2877, c_2878, c_2879, c_2880, c_2881, c_2882, c_2883, c_2884, c_2885, c_2886, w_2887, w_2888⟩ | ⟨c_2889, c_2890, c_2891, c_2892, c_2893, c_2894, c_2895, c_2896, c_2897, c_2898, w_2899, w_2900⟩ | ⟨c_2901, c_2902, c_2903, c_2904, c_2905, c_2906, c_2907, c_2908, c_2909, w_2910, w_2911⟩ | ⟨c_2912, c_2913, c_2914, c_2915, c_2916, c_2917, c_2918, c_2919, c_2920, c_2921, c_2922, c_2923, c_2924, w_2925, w_2926⟩ | ⟨c_2927, c_2928, c_2929, c_2930, c_2931, c_2932, c_2933, c_2934, c_2935, c_2936, c_2937, c_2938, c_2939, w_2940, w_2941⟩ | ⟨c_2942, c_2943, c_2944, c_2945, c_2946, c_2947, c_2948, c_2949, c_2950, c_2951, c_2952, c_2953, w_2954, w_2955⟩ | ⟨c_2956, c_2957, c_2958, c_2959, c_2960, c_2961, c_2962, c_2963, c_2964, c_2965, c_2966, w_2967, w_2968⟩ | ⟨c_2969, c_2970, c_2971, c_2972, c_2973, c_2974, c_2975, c_2976, c_2977, c_2978, w_2979, w_2980⟩ | ⟨c_2981, c_2982, c_2983, c_2984, c_2985, c_2986, c_2987, c_2988, c_2989, w_2990, w_2991⟩
    · skip
      subst w_2515
      subst w_2516
      exact absurd c_2513 c_32
    · skip
      subst w_2520
      subst w_2521
      exact absurd c_2517 c_32
    · skip
      subst w_2526
      subst w_2527
      exact absurd c_2522 c_32
    · skip
      subst w_2533
      subst w_2534
      exact absurd c_2528 c_32
    · skip
      subst w_2540
      subst w_2541
      exact absurd c_2535 c_32
    · skip
      subst w_2545
      subst w_2546
      exact absurd c_2544 c_28
    · skip
      subst w_2551
      subst w_2552
      exact absurd c_2550 c_29
    · skip
      subst w_2558
      subst w_2559
      exact absurd c_2557 c_30
    · skip
      subst w_2566
      subst w_2567
      exact absurd c_2565 c_31
    · skip
      subst w_2574
      subst w_2575
      obtain ⟨hP, hD⟩ := va_join (wr := [(h0, .inr (10, [.ref x0, .int 0, .ref x1, .ref x2, .ref x3, .ref x4, .ref x5, .ref x6, .ref x7, .ref x8, .int 0, .int 3000])), (o0, .inl (kA 1, 1, .inr (.inl (fun _ => 0))))]) (w1 := [(m0, .inr (11, y0.set 9 (.int 1)))]) hP hD [0] [1, 2] rfl rfl (by decide) (by decide) hk1 hFc hP1 hD1
      generalize H1 = H at hP hS ⊢
      have hP : va_P D vwCl [(h0, .inr (10, [.ref x0, .int 0, .ref x1, .ref x2, .ref x3, .ref x4, .ref x5, .ref x6, .ref x7, .ref x8, .int 0, .int 3000])), (o0, .inl (kA 1, 1, .inr (.inl (fun _ => 0)))), (m0, .inr (11, y0.set 9 (.int 1)))] H := hP
      have hD : va_D A [(h0, .inr (10, [.ref x0, .int 0, .ref x1, .ref x2, .ref x3, .ref x4, .ref x5, .ref x6, .ref x7, .ref x8, .int 0, .int 3000])), (o0, .inl (kA 1, 1, .inr (.inl (fun _ => 0)))), (m0, .inr (11, y0.set 9 (.int 1)))] := hD
      refine lv_lstore (lv' := [(6, .long 0), (5, .int 1), (0, .ref b), (1, .ref h0), (2, .ref m0), (3, .ref o0), (4, .int 0)]) hx hb dL_law_1772 hl (by decide) rfl (fun ls hl => ?_)
      refine lv_aload_n hx hb dL_law_1774 rfl (lv_at hl 4 rfl) ?_
      have hPc := hP.sub (ws' := [(m0, .inr (11, y0.set 9 (.int 1)))]) [2] rfl
      have hDc := hD.sub (ws' := [(m0, .inr (11, y0.set 9 (.int 1)))]) [2] (by decide) rfl
      have hFc := va_free (wc := [(m0, .inr (11, y0.set 9 (.int 1)))]) hD hS hA [2] rfl
      refine va_calli (va_runV (As := []) (rest := []) ⟨hx, hb, hml, hown, hts⟩ (a174_X12_thrown l  D kA V H.size m0 (y0.set 9 (.int 1)) (fun k hk => (by rw [List.length_set]; exact (hq k hk))) (List.getElem?_set_self (hq 9 (by decide)))) (cwV 0 hts (gw_V gw_1879 gw_1880 gw_1881 gw_16 gw_1882) rfl rfl rfl (by decide +kernel) ⟨(Nat.le_of_ble_eq_true rfl), (Nat.le_of_ble_eq_true rfl)⟩) ⟨aP.blind, va_recv hK hP (ci := 11) (q0 := 2) rfl rfl, aP.pre hE hS hPc hK hDc hFc⟩ rfl rfl hl.1 rfl (lv_room (Nat.le_of_ble_eq_true rfl)) dL_law_1775 ⟨(Nat.le_of_ble_eq_true rfl), (Nat.le_of_ble_eq_true rfl)⟩) hS (fun q _ h => hFc q h) hFc (fun r_2992 u t H1 locs ht hvm hw hB hz1 hk1 hS => ?_)
      obtain ⟨hP1, hD1⟩ := hB
      rw [ht] at hP1
      try dsimp only at hw hP1 hD1
      have w_2993 := hw
      subst w_2993
      obtain ⟨hP, hD⟩ := va_join (wr := [(h0, .inr (10, [.ref x0, .int 0, .ref x1, .ref x2, .ref x3, .ref x4, .ref x5, .ref x6, .ref x7, .ref x8, .int 0, .int 3000])), (o0, .inl (kA 1, 1, .inr (.inl (fun _ => 0))))]) (w1 := [(m0, .inr (11, (y0.set 9 (.int 1))))]) hP hD [2] [0, 1] rfl rfl (by decide) (by decide) hk1 hFc hP1 hD1
      generalize H1 = H at hP hS ⊢
      have hP : va_P D vwCl [(h0, .inr (10, [.ref x0, .int 0, .ref x1, .ref x2, .ref x3, .ref x4, .ref x5, .ref x6, .ref x7, .ref x8, .int 0, .int 3000])), (o0, .inl (kA 1, 1, .inr (.inl (fun _ => 0)))), (m0, .inr (11, (y0.set 9 (.int 1))))] H := hP
      have hD : va_D A [(h0, .inr (10, [.ref x0, .int 0, .ref x1, .ref x2, .ref x3, .ref x4, .ref x5, .ref x6, .ref x7, .ref x8, .int 0, .int 3000])), (o0, .inl (kA 1, 1, .inr (.inl (fun _ => 0)))), (m0, .inr (11, (y0.set 9 (.int 1))))] := hD
      refine lv_iload hx hb dL_law_1778 (lv_at hl 1 rfl) ?_
      refine lv_icmp_eq (tgt := 1785) hx hb dL_law_1780 (by decide) (fun c_2994 => ?_) (fun c_2994 => ?_)
      · skip
        refine lv_iload hx hb dL_law_1785 (lv_at hl 1 rfl) ?_
        refine lv_if_ne (tgt := 1801) hx hb dL_law_1787 (by decide) (fun c_2995 => ?_) (fun c_2995 => ?_)
        · skip
          refine lv_goto (tgt := 1804) hx hb dL_law_1801 (by decide) ?_
          exact lk_tail hC hA2 (lv_sub hl [2, 6] rfl) hS (Nat.le_of_ble_eq_true rfl) (Nat.le_of_ble_eq_true rfl)
        · exact absurd c_2995 (by decide)
      · exact absurd (by decide) c_2994
    · skip
      subst w_2579
      subst w_2580
      exact absurd (Int32.not_le.mp c_33) c_2577
    · skip
      subst w_2585
      subst w_2586
      exact absurd (Int32.not_le.mp c_33) c_2582
    · skip
      subst w_2592
      subst w_2593
      exact absurd (Int32.not_le.mp c_33) c_2588
    · skip
      subst w_2600
      subst w_2601
      exact absurd (Int32.not_le.mp c_33) c_2595
    · skip
      subst w_2617
      subst w_2618
      exact absurd (Int32.not_le.mp c_33) c_2603
    · skip
      subst w_2634
      subst w_2635
      exact absurd (Int32.not_le.mp c_33) c_2620
    · skip
      subst w_2650
      subst w_2651
      exact absurd (Int32.not_le.mp c_33) c_2637
    · skip
      subst w_2665
      subst w_2666
      exact absurd (Int32.not_le.mp c_33) c_2653
    · skip
      subst w_2679
      subst w_2680
      exact absurd (Int32.not_le.mp c_33) c_2668
    · skip
      subst w_2692
      subst w_2693
      exact absurd (Int32.not_le.mp c_33) c_2682
    · skip
      subst w_2704
      subst w_2705
      exact absurd (Int32.not_le.mp c_33) c_2695
    · skip
      subst w_2715
      subst w_2716
      exact absurd (Int32.not_le.mp c_33) c_2707
    · skip
      subst w_2730
      subst w_2731
      exact absurd (Int32.not_le.mp c_33) c_2718
    · skip
      subst w_2745
      subst w_2746
      exact absurd (Int32.not_le.mp c_33) c_2733
    · skip
      subst w_2759
      subst w_2760
      exact absurd (Int32.not_le.mp c_33) c_2748
    · skip
      subst w_2772
      subst w_2773
      exact absurd (Int32.not_le.mp c_33) c_2762
    · skip
      subst w_2784
      subst w_2785
      exact absurd (Int32.not_le.mp c_33) c_2775
    · skip
      subst w_2795
      subst w_2796
      exact absurd (Int32.not_le.mp c_33) c_2787
    · skip
      subst w_2812
      subst w_2813
      exact absurd (Int32.not_le.mp c_33) c_2798
    · skip
      subst w_2829
      subst w_2830
      exact absurd (Int32.not_le.mp c_33) c_2815
    · skip
      subst w_2845
      subst w_2846
      exact absurd (Int32.not_le.mp c_33) c_2832
    · skip
      subst w_2860
      subst w_2861
      exact absurd (Int32.not_le.mp c_33) c_2848
    · skip
      subst w_2874
      subst w_2875
      exact absurd (Int32.not_le.mp c_33) c_2863
    · skip
      subst w_2887
      subst w_2888
      exact absurd (Int32.not_le.mp c_33) c_2877
    · skip
      subst w_2899
      subst w_2900
      exact absurd (Int32.not_le.mp c_33) c_2890
    · skip
      subst w_2910
      subst w_2911
      exact absurd (Int32.not_le.mp c_33) c_2902
    · skip
      subst w_2925
      subst w_2926
      exact absurd (Int32.not_le.mp c_33) c_2913
    · skip
      subst w_2940
      subst w_2941
      exact absurd (Int32.not_le.mp c_33) c_2928
    · skip
      subst w_2954
      subst w_2955
      exact absurd (Int32.not_le.mp c_33) c_2943
    · skip
      subst w_2967
      subst w_2968
      exact absurd (Int32.not_le.mp c_33) c_2957
    · skip
      subst w_2979
      subst w_2980
      exact absurd (Int32.not_le.mp c_33) c_2970
    · skip
      subst w_2990
      subst w_2991
      exact absurd (Int32.not_le.mp c_33) c_2982
  · skip
    subst w_43
    subst w_44
    obtain ⟨hP, hD⟩ := va_join (wr := [(m0, .inr (11, y0))]) (w1 := [(h0, .inr (10, [.ref x0, .int 0, .ref x1, .ref x2, .ref x3, .ref x4, .ref x5, .ref x6, .ref x7, .ref x8, .int 0, .int 3000])), (o0, .inl (kA 1, 1, .inr (.inl (vp_updL (fun _ => 0) 0 (n_apply (xs 1) 0 (n_cut (xs 2) ((((xs 4).toInt64) <<< ((32 : Int32).toInt64 &&& 63)) ||| (((xs 5).toInt64) &&& 4294967295))) (n_cut (xs 3) ((((xs 6).toInt64) <<< ((32 : Int32).toInt64 &&& 63)) ||| (((xs 7).toInt64) &&& 4294967295))))))))]) hP hD [0, 2] [1] rfl rfl (by decide) (by decide) hk1 hFc hP1 hD1
    generalize H1 = H at hP hS ⊢
    have hP : va_P D vwCl [(m0, .inr (11, y0)), (h0, .inr (10, [.ref x0, .int 0, .ref x1, .ref x2, .ref x3, .ref x4, .ref x5, .ref x6, .ref x7, .ref x8, .int 0, .int 3000])), (o0, .inl (kA 1, 1, .inr (.inl (vp_updL (fun _ => 0) 0 (n_apply (xs 1) 0 (n_cut (xs 2) ((((xs 4).toInt64) <<< ((32 : Int32).toInt64 &&& 63)) ||| (((xs 5).toInt64) &&& 4294967295))) (n_cut (xs 3) ((((xs 6).toInt64) <<< ((32 : Int32).toInt64 &&& 63)) ||| (((xs 7).toInt64) &&& 4294967295))))))))] H := hP
    have hD : va_D A [(m0, .inr (11, y0)), (h0, .inr (10, [.ref x0, .int 0, .ref x1, .ref x2, .ref x3, .ref x4, .ref x5, .ref x6, .ref x7, .ref x8, .int 0, .int 3000])), (o0, .inl (kA 1, 1, .inr (.inl (vp_updL (fun _ => 0) 0 (n_apply (xs 1) 0 (n_cut (xs 2) ((((xs 4).toInt64) <<< ((32 : Int32).toInt64 &&& 63)) ||| (((xs 5).toInt64) &&& 4294967295))) (n_cut (xs 3) ((((xs 6).toInt64) <<< ((32 : Int32).toInt64 &&& 63)) ||| (((xs 7).toInt64) &&& 4294967295))))))))] := hD
    refine lv_istore (lv' := [(5, .int 0), (0, .ref b), (1, .ref h0), (2, .ref m0), (3, .ref o0), (4, .int 0)]) hx hb dL_law_1702 hl (by decide) rfl (fun ls hl => ?_)
    refine lv_aload_n hx hb dL_law_1704 rfl (lv_at hl 3 rfl) ?_
    refine lv_aload_n hx hb dL_law_1705 rfl (lv_at hl 1 rfl) ?_
    refine lv_iload hx hb dL_law_1706 (lv_at hl 5 rfl) ?_
    refine lv_iconst (v := 1) hx hb dL_law_1708 (by decide) ?_
    refine lv_iadd hx hb dL_law_1709 ?_
    refine W.eq (g2 := F0 m 1710 ls [.int 1, .ref b, .ref m0]) rfl ?_
    refine va_sld hx hb hX hbl hbA hS (show vp_in 1 8 by unfold vp_in; decide) dL_law_1710 ?_
    refine W.eq (g2 := F0 m 1711 ls [.int (xs 1), .ref m0]) rfl ?_
    refine lv_aload_n hx hb dL_law_1711 rfl (lv_at hl 1 rfl) ?_
    refine lv_iload hx hb dL_law_1712 (lv_at hl 5 rfl) ?_
    refine lv_iconst (v := 2) hx hb dL_law_1714 (by decide) ?_
    refine lv_iadd hx hb dL_law_1715 ?_
    refine W.eq (g2 := F0 m 1716 ls [.int 2, .ref b, .int (xs 1), .ref m0]) rfl ?_
    refine va_sld hx hb hX hbl hbA hS (show vp_in 2 8 by unfold vp_in; decide) dL_law_1716 ?_
    refine W.eq (g2 := F0 m 1717 ls [.int (xs 2), .int (xs 1), .ref m0]) rfl ?_
    refine lv_aload_n hx hb dL_law_1717 rfl (lv_at hl 1 rfl) ?_
    refine lv_iload hx hb dL_law_1718 (lv_at hl 5 rfl) ?_
    refine lv_iconst (v := 3) hx hb dL_law_1720 (by decide) ?_
    refine lv_iadd hx hb dL_law_1721 ?_
    refine W.eq (g2 := F0 m 1722 ls [.int 3, .ref b, .int (xs 2), .int (xs 1), .ref m0]) rfl ?_
    refine va_sld hx hb hX hbl hbA hS (show vp_in 3 8 by unfold vp_in; decide) dL_law_1722 ?_
    refine W.eq (g2 := F0 m 1723 ls [.int (xs 3), .int (xs 2), .int (xs 1), .ref m0]) rfl ?_
    refine lv_aload_n hx hb dL_law_1723 rfl (lv_at hl 1 rfl) ?_
    refine lv_iload hx hb dL_law_1724 (lv_at hl 5 rfl) ?_
    refine lv_iconst (v := 4) hx hb dL_law_1726 (by decide) ?_
    refine lv_iadd hx hb dL_law_1727 ?_
    refine W.eq (g2 := F0 m 1728 ls [.int 4, .ref b, .int (xs 3), .int (xs 2), .int (xs 1), .ref m0]) rfl ?_
    refine va_sld hx hb hX hbl hbA hS (show vp_in 4 8 by unfold vp_in; decide) dL_law_1728 ?_
    refine W.eq (g2 := F0 m 1729 ls [.int (xs 4), .int (xs 3), .int (xs 2), .int (xs 1), .ref m0]) rfl ?_
    refine lv_i2l (v := (xs 4).toInt64) hx hb dL_law_1729 rfl ?_
    refine lv_bipush (v := 32) hx hb dL_law_1730 (by decide) ?_
    refine lv_lshl (v := ((xs 4).toInt64) <<< ((32 : Int32).toInt64 &&& 63)) hx hb dL_law_1732 rfl ?_
    refine lv_aload_n hx hb dL_law_1733 rfl (lv_at hl 1 rfl) ?_
    refine lv_iload hx hb dL_law_1734 (lv_at hl 5 rfl) ?_
    refine lv_iconst (v := 5) hx hb dL_law_1736 (by decide) ?_
    refine lv_iadd hx hb dL_law_1737 ?_
    refine W.eq (g2 := F0 m 1738 ls [.int 5, .ref b, .long (((xs 4).toInt64) <<< ((32 : Int32).toInt64 &&& 63)), .int (xs 3), .int (xs 2), .int (xs 1), .ref m0]) rfl ?_
    refine va_sld hx hb hX hbl hbA hS (show vp_in 5 8 by unfold vp_in; decide) dL_law_1738 ?_
    refine W.eq (g2 := F0 m 1739 ls [.int (xs 5), .long (((xs 4).toInt64) <<< ((32 : Int32).toInt64 &&& 63)), .int (xs 3), .int (xs 2), .int (xs 1), .ref m0]) rfl ?_
    refine lv_i2l (v := (xs 5).toInt64) hx hb dL_law_1739 rfl ?_
    refine lv_ldc2 (v := 4294967295) hx hb hown (hG _ gw_2764) dL_law_1740 ?_
    refine lv_land hx hb dL_law_1743 ?_
    refine lv_lor hx hb dL_law_1744 ?_
    refine lv_aload_n hx hb dL_law_1745 rfl (lv_at hl 1 rfl) ?_
    refine lv_iload hx hb dL_law_1746 (lv_at hl 5 rfl) ?_
    refine lv_bipush (v := 6) hx hb dL_law_1748 (by decide) ?_
    refine lv_iadd hx hb dL_law_1750 ?_
    refine W.eq (g2 := F0 m 1751 ls [.int 6, .ref b, .long ((((xs 4).toInt64) <<< ((32 : Int32).toInt64 &&& 63)) ||| (((xs 5).toInt64) &&& 4294967295)), .int (xs 3), .int (xs 2), .int (xs 1), .ref m0]) rfl ?_
    refine va_sld hx hb hX hbl hbA hS (show vp_in 6 8 by unfold vp_in; decide) dL_law_1751 ?_
    refine W.eq (g2 := F0 m 1752 ls [.int (xs 6), .long ((((xs 4).toInt64) <<< ((32 : Int32).toInt64 &&& 63)) ||| (((xs 5).toInt64) &&& 4294967295)), .int (xs 3), .int (xs 2), .int (xs 1), .ref m0]) rfl ?_
    refine lv_i2l (v := (xs 6).toInt64) hx hb dL_law_1752 rfl ?_
    refine lv_bipush (v := 32) hx hb dL_law_1753 (by decide) ?_
    refine lv_lshl (v := ((xs 6).toInt64) <<< ((32 : Int32).toInt64 &&& 63)) hx hb dL_law_1755 rfl ?_
    refine lv_aload_n hx hb dL_law_1756 rfl (lv_at hl 1 rfl) ?_
    refine lv_iload hx hb dL_law_1757 (lv_at hl 5 rfl) ?_
    refine lv_bipush (v := 7) hx hb dL_law_1759 (by decide) ?_
    refine lv_iadd hx hb dL_law_1761 ?_
    refine W.eq (g2 := F0 m 1762 ls [.int 7, .ref b, .long (((xs 6).toInt64) <<< ((32 : Int32).toInt64 &&& 63)), .long ((((xs 4).toInt64) <<< ((32 : Int32).toInt64 &&& 63)) ||| (((xs 5).toInt64) &&& 4294967295)), .int (xs 3), .int (xs 2), .int (xs 1), .ref m0]) rfl ?_
    refine va_sld hx hb hX hbl hbA hS (show vp_in 7 8 by unfold vp_in; decide) dL_law_1762 ?_
    refine W.eq (g2 := F0 m 1763 ls [.int (xs 7), .long (((xs 6).toInt64) <<< ((32 : Int32).toInt64 &&& 63)), .long ((((xs 4).toInt64) <<< ((32 : Int32).toInt64 &&& 63)) ||| (((xs 5).toInt64) &&& 4294967295)), .int (xs 3), .int (xs 2), .int (xs 1), .ref m0]) rfl ?_
    refine lv_i2l (v := (xs 7).toInt64) hx hb dL_law_1763 rfl ?_
    refine lv_ldc2 (v := 4294967295) hx hb hown (hG _ gw_2764) dL_law_1764 ?_
    refine lv_land hx hb dL_law_1767 ?_
    refine lv_lor hx hb dL_law_1768 ?_
    have hPc := hP.sub (ws' := [(m0, .inr (11, y0))]) [0] rfl
    have hDc := hD.sub (ws' := [(m0, .inr (11, y0))]) [0] (by decide) rfl
    have hFc := va_free (wc := [(m0, .inr (11, y0))]) hD hS hA [0] rfl
    refine va_calll (va_runV (As := [.int (xs 1), .int (xs 2), .int (xs 3), .long ((((xs 4).toInt64) <<< ((32 : Int32).toInt64 &&& 63)) ||| (((xs 5).toInt64) &&& 4294967295)), .long ((((xs 6).toInt64) <<< ((32 : Int32).toInt64 &&& 63)) ||| (((xs 7).toInt64) &&& 4294967295))]) (rest := []) ⟨hx, hb, hml, hown, hts⟩ (a155_X12_tell l  D kA V H.size m0 (xs 1) (xs 2) (xs 3) ((((xs 4).toInt64) <<< ((32 : Int32).toInt64 &&& 63)) ||| (((xs 5).toInt64) &&& 4294967295)) ((((xs 6).toInt64) <<< ((32 : Int32).toInt64 &&& 63)) ||| (((xs 7).toInt64) &&& 4294967295)) y0 (fun k hk => (hq k hk)) hq9) (cwV 5 hts (gw_V gw_2760 gw_2761 gw_2762 gw_16 gw_2763) rfl rfl rfl (by decide +kernel) ⟨(Nat.le_of_ble_eq_true rfl), (Nat.le_of_ble_eq_true rfl)⟩) ⟨aP.blind, va_recv hK hP (ci := 11) (q0 := 0) rfl rfl, aP.pre hE hS hPc hK hDc hFc⟩ rfl rfl hl.1 rfl (lv_room (Nat.le_of_ble_eq_true rfl)) dL_law_1769 ⟨(Nat.le_of_ble_eq_true rfl), (Nat.le_of_ble_eq_true rfl)⟩) hS (fun q _ h => hFc q h) hFc (fun r_2996 u t H1 locs ht hvm hw hB hz1 hk1 hS => ?_)
    obtain ⟨u_2997, rfl⟩ : ∃ z, z = u := ⟨u, rfl⟩
    obtain ⟨hP1, hD1⟩ := hB
    rw [ht] at hP1
    try dsimp only at hw hP1 hD1
    rcases hw with ⟨c_2998, c_2999, w_3000, w_3001⟩ | ⟨c_3002, c_3003, c_3004, w_3005, w_3006⟩ | ⟨c_3007, c_3008, c_3009, c_3010, w_3011, w_3012⟩ | ⟨c_3013, c_3014, c_3015, c_3016, c_3017, w_3018, w_3019⟩ | ⟨c_3020, c_3021, c_3022, c_3023, c_3024, w_3025, w_3026⟩ | ⟨c_3027, c_3028, c_3029, w_3030, w_3031⟩ | ⟨c_3032, c_3033, c_3034, c_3035, w_3036, w_3037⟩ | ⟨c_3038, c_3039, c_3040, c_3041, c_3042, w_3043, w_3044⟩ | ⟨c_3045, c_3046, c_3047, c_3048, c_3049, c_3050, w_3051, w_3052⟩ | ⟨c_3053, c_3054, c_3055, c_3056, c_3057, c_3058, w_3059, w_3060⟩ | ⟨c_3061, c_3062, c_3063, w_3064, w_3065⟩ | ⟨c_3066, c_3067, c_3068, c_3069, w_3070, w_3071⟩ | ⟨c_3072, c_3073, c_3074, c_3075, c_3076, w_3077, w_3078⟩ | ⟨c_3079, c_3080, c_3081, c_3082, c_3083, c_3084, w_3085, w_3086⟩ | ⟨c_3087, c_3088, c_3089, c_3090, c_3091, c_3092, c_3093, c_3094, c_3095, c_3096, c_3097, c_3098, c_3099, c_3100, c_3101, w_3102, w_3103⟩ | ⟨c_3104, c_3105, c_3106, c_3107, c_3108, c_3109, c_3110, c_3111, c_3112, c_3113, c_3114, c_3115, c_3116, c_3117, c_3118, w_3119, w_3120⟩ | ⟨c_3121, c_3122, c_3123, c_3124, c_3125, c_3126, c_3127, c_3128, c_3129, c_3130, c_3131, c_3132, c_3133, c_3134, w_3135, w_3136⟩ | ⟨c_3137, c_3138, c_3139, c_3140, c_3141, c_3142, c_3143, c_3144, c_3145, c_3146, c_3147, c_3148, c_3149, w_3150, w_3151⟩ | ⟨c_3152, c_3153, c_3154, c_3155, c_3156, c_3157, c_3158, c_3159, c_3160, c_3161, c_3162, c_3163, w_3164, w_3165⟩ | ⟨c_3166, c_3167, c_3168, c_3169, c_3170, c_3171, c_3172, c_3173, c_3174, c_3175, c_3176, w_3177, w_3178⟩ | ⟨c_3179, c_3180, c_3181, c_3182, c_3183, c_3184, c_3185, c_3186, c_3187, c_3188, w_3189, w_3190⟩ | ⟨c_3191, c_3192, c_3193, c_3194, c_3195, c_3196, c_3197, c_3198, c_3199, w_3200, w_3201⟩ | ⟨c_3202, c_3203, c_3204, c_3205, c_3206, c_3207, c_3208, c_3209, c_3210, c_3211, c_3212, c_3213, c_3214, w_3215, w_3216⟩ | ⟨c_3217, c_3218, c_3219, c_3220, c_3221, c_3222, c_3223, c_3224, c_3225, c_3226, c_3227, c_3228, c_3229, w_3230, w_3231⟩ | ⟨c_3232, c_3233, c_3234, c_3235, c_3236, c_3237, c_3238, c_3239, c_3240, c_3241, c_3242, c_3243, w_3244, w_3245⟩ | ⟨c_3246, c_3247, c_3248, c_3249, c_3250, c_3251, c_3252, c_3253, c_3254, c_3255, c_3256, w_3257, w_3258⟩ | ⟨c_3259, c_3260, c_3261, c_3262, c_3263, c_3264, c_3265, c_3266, c_3267, c_3268, w_3269, w_3270⟩ | ⟨c_3271, c_3272, c_3273, c_3274, c_3275, c_3276, c_3277, c_3278, c_3279, w_3280, w_3281⟩ | ⟨c_3282, c_3283, c_3284, c_3285, c_3286, c_3287, c_3288, c_3289, c_3290, c_3291, c_3292, c_3293, c_3294, c_3295, c_3296, w_3297, w_3298⟩ | ⟨c_3299, c_3300, c_3301, c_3302, c_3303, c_3304, c_3305, c_3306, c_3307, c_3308, c_3309, c_3310, c_3311, c_3312, c_3313, w_3314, w_3315⟩ | ⟨c_3316, c_3317, c_3318, c_3319, c_3320, c_3321, c_3322, c_3323, c_3324, c_3325, c_3326, c_3327, c_3328, c_3329, w_3330, w_3331⟩ | ⟨c_3332, c_3333, c_3334, c_3335, c_3336, c_3337, c_3338, c_3339, c_3340, c_3341, c_3342, c_3343, c_3344, w_3345, w_3346⟩ | ⟨c_3347, c_3348, c_3349, c_3350, c_3351, c_3352, c_3353, c_3354, c_3355, c_3356, c_3357, c_3358, w_3359, w_3360⟩ | ⟨c_3361, c_3362, c_3363, c_3364, c_3365, c_3366, c_3367, c_3368, c_3369, c_3370, c_3371, w_3372, w_3373⟩ | ⟨c_3374, c_3375, c_3376, c_3377, c_3378, c_3379, c_3380, c_3381, c_3382, c_3383, w_3384, w_3385⟩ | ⟨c_3386, c_3387, c_3388, c_3389, c_3390, c_3391, c_3392, c_3393, c_3394, w_3395, w_3396⟩ | ⟨c_3397, c_3398, c_3399, c_3400, c_3401, c_3402, c_3403, c_3404, c_3405, c_3406, c_3407, c_3408, c_3409, w_3410, w_3411⟩ | ⟨c_3412, c_3413, c_3414, c_3415, c_3416, c_3417, c_3418, c_3419, c_3420, c_3421, c_3422, c_3423, c_3424, w_3425, w_3426⟩ | ⟨c_3427, c_3428, c_3429, c_3430, c_3431, c_3432, c_3433, c_3434, c_3435, c_3436, c_3437, c_3438, w_3439, w_3440⟩ | ⟨c_3441, c_3442, c_3443, c_3444, c_3445, c_3446, c_3447, c_3448, c_3449, c_3450, c_3451, w_3452, w_3453⟩ | ⟨c_3454, c_3455, c_3456, c_3457, c_3458, c_3459, c_3460, c_3461, c_3462, c_3463, w_3464, w_3465⟩ | ⟨c_3466, c_3467, c_3468, c_3469, c_3470, c_3471, c_3472, c_3473, c_3474, w_3475, w_3476⟩
    · skip
      subst w_3000
      subst w_3001
      exact absurd c_2998 c_40
    · skip
      subst w_3005
      subst w_3006
      exact absurd c_3002 c_40
    · skip
      subst w_3011
      subst w_3012
      exact absurd c_3007 c_40
    · skip
      subst w_3018
      subst w_3019
      exact absurd c_3013 c_40
    · skip
      subst w_3025
      subst w_3026
      exact absurd c_3020 c_40
    · skip
      subst w_3030
      subst w_3031
      exact absurd c_3028 (Int32.not_lt.mpr c_41)
    · skip
      subst w_3036
      subst w_3037
      exact absurd c_3033 (Int32.not_lt.mpr c_41)
    · skip
      subst w_3043
      subst w_3044
      exact absurd c_3039 (Int32.not_lt.mpr c_41)
    · skip
      subst w_3051
      subst w_3052
      exact absurd c_3046 (Int32.not_lt.mpr c_41)
    · skip
      subst w_3059
      subst w_3060
      exact absurd c_3054 (Int32.not_lt.mpr c_41)
    · skip
      subst w_3064
      subst w_3065
      exact absurd c_3063 c_36
    · skip
      subst w_3070
      subst w_3071
      exact absurd c_3069 c_37
    · skip
      subst w_3077
      subst w_3078
      exact absurd c_3076 c_38
    · skip
      subst w_3085
      subst w_3086
      exact absurd c_3084 c_39
    · skip
      subst w_3102
      subst w_3103
      obtain ⟨hP, hD⟩ := va_join (wr := [(h0, .inr (10, [.ref x0, .int 0, .ref x1, .ref x2, .ref x3, .ref x4, .ref x5, .ref x6, .ref x7, .ref x8, .int 0, .int 3000])), (o0, .inl (kA 1, 1, .inr (.inl (vp_updL (fun _ => 0) 0 (n_apply (xs 1) 0 (n_cut (xs 2) ((((xs 4).toInt64) <<< ((32 : Int32).toInt64 &&& 63)) ||| (((xs 5).toInt64) &&& 4294967295))) (n_cut (xs 3) ((((xs 6).toInt64) <<< ((32 : Int32).toInt64 &&& 63)) ||| (((xs 7).toInt64) &&& 4294967295))))))))]) (w1 := [(m0, .inr (11, y0.set 9 (.int 0)))]) hP hD [0] [1, 2] rfl rfl (by decide) (by decide) hk1 hFc hP1 hD1
      generalize H1 = H at hP hS ⊢
      have hP : va_P D vwCl [(h0, .inr (10, [.ref x0, .int 0, .ref x1, .ref x2, .ref x3, .ref x4, .ref x5, .ref x6, .ref x7, .ref x8, .int 0, .int 3000])), (o0, .inl (kA 1, 1, .inr (.inl (vp_updL (fun _ => 0) 0 (n_apply (xs 1) 0 (n_cut (xs 2) ((((xs 4).toInt64) <<< ((32 : Int32).toInt64 &&& 63)) ||| (((xs 5).toInt64) &&& 4294967295))) (n_cut (xs 3) ((((xs 6).toInt64) <<< ((32 : Int32).toInt64 &&& 63)) ||| (((xs 7).toInt64) &&& 4294967295)))))))), (m0, .inr (11, y0.set 9 (.int 0)))] H := hP
      have hD : va_D A [(h0, .inr (10, [.ref x0, .int 0, .ref x1, .ref x2, .ref x3, .ref x4, .ref x5, .ref x6, .ref x7, .ref x8, .int 0, .int 3000])), (o0, .inl (kA 1, 1, .inr (.inl (vp_updL (fun _ => 0) 0 (n_apply (xs 1) 0 (n_cut (xs 2) ((((xs 4).toInt64) <<< ((32 : Int32).toInt64 &&& 63)) ||| (((xs 5).toInt64) &&& 4294967295))) (n_cut (xs 3) ((((xs 6).toInt64) <<< ((32 : Int32).toInt64 &&& 63)) ||| (((xs 7).toInt64) &&& 4294967295)))))))), (m0, .inr (11, y0.set 9 (.int 0)))] := hD
      refine lv_lstore (lv' := [(6, .long 0), (5, .int 0), (0, .ref b), (1, .ref h0), (2, .ref m0), (3, .ref o0), (4, .int 0)]) hx hb dL_law_1772 hl (by decide) rfl (fun ls hl => ?_)
      refine lv_aload_n hx hb dL_law_1774 rfl (lv_at hl 4 rfl) ?_
      have hPc := hP.sub (ws' := [(m0, .inr (11, y0.set 9 (.int 0)))]) [2] rfl
      have hDc := hD.sub (ws' := [(m0, .inr (11, y0.set 9 (.int 0)))]) [2] (by decide) rfl
      have hFc := va_free (wc := [(m0, .inr (11, y0.set 9 (.int 0)))]) hD hS hA [2] rfl
      refine va_calli (va_runV (As := []) (rest := []) ⟨hx, hb, hml, hown, hts⟩ (a94_X12_thrown l  D kA V H.size m0 (y0.set 9 (.int 0)) (fun k hk => (by rw [List.length_set]; exact (hq k hk))) (List.getElem?_set_self (hq 9 (by decide)))) (cwV 0 hts (gw_V gw_1879 gw_1880 gw_1881 gw_16 gw_1882) rfl rfl rfl (by decide +kernel) ⟨(Nat.le_of_ble_eq_true rfl), (Nat.le_of_ble_eq_true rfl)⟩) ⟨aP.blind, va_recv hK hP (ci := 11) (q0 := 2) rfl rfl, aP.pre hE hS hPc hK hDc hFc⟩ rfl rfl hl.1 rfl (lv_room (Nat.le_of_ble_eq_true rfl)) dL_law_1775 ⟨(Nat.le_of_ble_eq_true rfl), (Nat.le_of_ble_eq_true rfl)⟩) hS (fun q _ h => hFc q h) hFc (fun r_3477 u t H1 locs ht hvm hw hB hz1 hk1 hS => ?_)
      obtain ⟨hP1, hD1⟩ := hB
      rw [ht] at hP1
      try dsimp only at hw hP1 hD1
      have w_3478 := hw
      subst w_3478
      obtain ⟨hP, hD⟩ := va_join (wr := [(h0, .inr (10, [.ref x0, .int 0, .ref x1, .ref x2, .ref x3, .ref x4, .ref x5, .ref x6, .ref x7, .ref x8, .int 0, .int 3000])), (o0, .inl (kA 1, 1, .inr (.inl (vp_updL (fun _ => 0) 0 (n_apply (xs 1) 0 (n_cut (xs 2) ((((xs 4).toInt64) <<< ((32 : Int32).toInt64 &&& 63)) ||| (((xs 5).toInt64) &&& 4294967295))) (n_cut (xs 3) ((((xs 6).toInt64) <<< ((32 : Int32).toInt64 &&& 63)) ||| (((xs 7).toInt64) &&& 4294967295))))))))]) (w1 := [(m0, .inr (11, (y0.set 9 (.int 0))))]) hP hD [2] [0, 1] rfl rfl (by decide) (by decide) hk1 hFc hP1 hD1
      generalize H1 = H at hP hS ⊢
      have hP : va_P D vwCl [(h0, .inr (10, [.ref x0, .int 0, .ref x1, .ref x2, .ref x3, .ref x4, .ref x5, .ref x6, .ref x7, .ref x8, .int 0, .int 3000])), (o0, .inl (kA 1, 1, .inr (.inl (vp_updL (fun _ => 0) 0 (n_apply (xs 1) 0 (n_cut (xs 2) ((((xs 4).toInt64) <<< ((32 : Int32).toInt64 &&& 63)) ||| (((xs 5).toInt64) &&& 4294967295))) (n_cut (xs 3) ((((xs 6).toInt64) <<< ((32 : Int32).toInt64 &&& 63)) ||| (((xs 7).toInt64) &&& 4294967295)))))))), (m0, .inr (11, (y0.set 9 (.int 0))))] H := hP
      have hD : va_D A [(h0, .inr (10, [.ref x0, .int 0, .ref x1, .ref x2, .ref x3, .ref x4, .ref x5, .ref x6, .ref x7, .ref x8, .int 0, .int 3000])), (o0, .inl (kA 1, 1, .inr (.inl (vp_updL (fun _ => 0) 0 (n_apply (xs 1) 0 (n_cut (xs 2) ((((xs 4).toInt64) <<< ((32 : Int32).toInt64 &&& 63)) ||| (((xs 5).toInt64) &&& 4294967295))) (n_cut (xs 3) ((((xs 6).toInt64) <<< ((32 : Int32).toInt64 &&& 63)) ||| (((xs 7).toInt64) &&& 4294967295)))))))), (m0, .inr (11, (y0.set 9 (.int 0))))] := hD
      refine lv_iload hx hb dL_law_1778 (lv_at hl 1 rfl) ?_
      refine lv_icmp_eq (tgt := 1785) hx hb dL_law_1780 (by decide) (fun c_3479 => ?_) (fun c_3479 => ?_)
      · skip
        refine lv_iload hx hb dL_law_1785 (lv_at hl 1 rfl) ?_
        refine lv_if_ne (tgt := 1801) hx hb dL_law_1787 (by decide) (fun c_3480 => ?_) (fun c_3480 => ?_)
        · exact absurd (by decide) c_3480
        · skip
          refine lv_aload_n hx hb dL_law_1790 rfl (lv_at hl 5 rfl) ?_
          refine lv_iconst (v := 0) hx hb dL_law_1791 (by decide) ?_
          refine va_lald hx hb hK hP 1 1 rfl rfl (show vp_in 0 1 by unfold vp_in; decide) dL_law_1792 ?_
          refine W.eq (g2 := F0 m 1793 ls [.long (n_apply (xs 1) 0 (n_cut (xs 2) ((((xs 4).toInt64) <<< ((32 : Int32).toInt64 &&& 63)) ||| (((xs 5).toInt64) &&& 4294967295))) (n_cut (xs 3) ((((xs 6).toInt64) <<< ((32 : Int32).toInt64 &&& 63)) ||| (((xs 7).toInt64) &&& 4294967295))))]) rfl ?_
          refine lv_lload hx hb dL_law_1793 (lv_at hl 0 rfl) ?_
          refine W.lcmp hx hb dL_law_1795 ?_
          refine lv_if_eq (tgt := 1801) hx hb dL_law_1796 (by decide) (fun c_3481 => ?_) (fun c_3481 => ?_)
          · skip
            refine lv_goto (tgt := 1804) hx hb dL_law_1801 (by decide) ?_
            exact lk_tail hC hA2 (lv_sub hl [2, 6] rfl) hS (Nat.le_of_ble_eq_true rfl) (Nat.le_of_ble_eq_true rfl)
          · exact absurd ((lg_cmp_eq _ _).mpr (qx_h0 (qx_16 c_3098 c_3088 c_3099 c_3100) (by decide) c_3101)) c_3481
      · exact absurd (by decide) c_3479
    · skip
      subst w_3119
      subst w_3120
      obtain ⟨hP, hD⟩ := va_join (wr := [(h0, .inr (10, [.ref x0, .int 0, .ref x1, .ref x2, .ref x3, .ref x4, .ref x5, .ref x6, .ref x7, .ref x8, .int 0, .int 3000])), (o0, .inl (kA 1, 1, .inr (.inl (vp_updL (fun _ => 0) 0 (n_apply (xs 1) 0 (n_cut (xs 2) ((((xs 4).toInt64) <<< ((32 : Int32).toInt64 &&& 63)) ||| (((xs 5).toInt64) &&& 4294967295))) (n_cut (xs 3) ((((xs 6).toInt64) <<< ((32 : Int32).toInt64 &&& 63)) ||| (((xs 7).toInt64) &&& 4294967295))))))))]) (w1 := [(m0, .inr (11, y0.set 9 (.int 0)))]) hP hD [0] [1, 2] rfl rfl (by decide) (by decide) hk1 hFc hP1 hD1
      generalize H1 = H at hP hS ⊢
      have hP : va_P D vwCl [(h0, .inr (10, [.ref x0, .int 0, .ref x1, .ref x2, .ref x3, .ref x4, .ref x5, .ref x6, .ref x7, .ref x8, .int 0, .int 3000])), (o0, .inl (kA 1, 1, .inr (.inl (vp_updL (fun _ => 0) 0 (n_apply (xs 1) 0 (n_cut (xs 2) ((((xs 4).toInt64) <<< ((32 : Int32).toInt64 &&& 63)) ||| (((xs 5).toInt64) &&& 4294967295))) (n_cut (xs 3) ((((xs 6).toInt64) <<< ((32 : Int32).toInt64 &&& 63)) ||| (((xs 7).toInt64) &&& 4294967295)))))))), (m0, .inr (11, y0.set 9 (.int 0)))] H := hP
      have hD : va_D A [(h0, .inr (10, [.ref x0, .int 0, .ref x1, .ref x2, .ref x3, .ref x4, .ref x5, .ref x6, .ref x7, .ref x8, .int 0, .int 3000])), (o0, .inl (kA 1, 1, .inr (.inl (vp_updL (fun _ => 0) 0 (n_apply (xs 1) 0 (n_cut (xs 2) ((((xs 4).toInt64) <<< ((32 : Int32).toInt64 &&& 63)) ||| (((xs 5).toInt64) &&& 4294967295))) (n_cut (xs 3) ((((xs 6).toInt64) <<< ((32 : Int32).toInt64 &&& 63)) ||| (((xs 7).toInt64) &&& 4294967295)))))))), (m0, .inr (11, y0.set 9 (.int 0)))] := hD
      refine lv_lstore (lv' := [(6, .long 1), (5, .int 0), (0, .ref b), (1, .ref h0), (2, .ref m0), (3, .ref o0), (4, .int 0)]) hx hb dL_law_1772 hl (by decide) rfl (fun ls hl => ?_)
      refine lv_aload_n hx hb dL_law_1774 rfl (lv_at hl 4 rfl) ?_
      have hPc := hP.sub (ws' := [(m0, .inr (11, y0.set 9 (.int 0)))]) [2] rfl
      have hDc := hD.sub (ws' := [(m0, .inr (11, y0.set 9 (.int 0)))]) [2] (by decide) rfl
      have hFc := va_free (wc := [(m0, .inr (11, y0.set 9 (.int 0)))]) hD hS hA [2] rfl
      refine va_calli (va_runV (As := []) (rest := []) ⟨hx, hb, hml, hown, hts⟩ (a94_X12_thrown l  D kA V H.size m0 (y0.set 9 (.int 0)) (fun k hk => (by rw [List.length_set]; exact (hq k hk))) (List.getElem?_set_self (hq 9 (by decide)))) (cwV 0 hts (gw_V gw_1879 gw_1880 gw_1881 gw_16 gw_1882) rfl rfl rfl (by decide +kernel) ⟨(Nat.le_of_ble_eq_true rfl), (Nat.le_of_ble_eq_true rfl)⟩) ⟨aP.blind, va_recv hK hP (ci := 11) (q0 := 2) rfl rfl, aP.pre hE hS hPc hK hDc hFc⟩ rfl rfl hl.1 rfl (lv_room (Nat.le_of_ble_eq_true rfl)) dL_law_1775 ⟨(Nat.le_of_ble_eq_true rfl), (Nat.le_of_ble_eq_true rfl)⟩) hS (fun q _ h => hFc q h) hFc (fun r_3482 u t H1 locs ht hvm hw hB hz1 hk1 hS => ?_)
      obtain ⟨hP1, hD1⟩ := hB
      rw [ht] at hP1
      try dsimp only at hw hP1 hD1
      have w_3483 := hw
      subst w_3483
      obtain ⟨hP, hD⟩ := va_join (wr := [(h0, .inr (10, [.ref x0, .int 0, .ref x1, .ref x2, .ref x3, .ref x4, .ref x5, .ref x6, .ref x7, .ref x8, .int 0, .int 3000])), (o0, .inl (kA 1, 1, .inr (.inl (vp_updL (fun _ => 0) 0 (n_apply (xs 1) 0 (n_cut (xs 2) ((((xs 4).toInt64) <<< ((32 : Int32).toInt64 &&& 63)) ||| (((xs 5).toInt64) &&& 4294967295))) (n_cut (xs 3) ((((xs 6).toInt64) <<< ((32 : Int32).toInt64 &&& 63)) ||| (((xs 7).toInt64) &&& 4294967295))))))))]) (w1 := [(m0, .inr (11, (y0.set 9 (.int 0))))]) hP hD [2] [0, 1] rfl rfl (by decide) (by decide) hk1 hFc hP1 hD1
      generalize H1 = H at hP hS ⊢
      have hP : va_P D vwCl [(h0, .inr (10, [.ref x0, .int 0, .ref x1, .ref x2, .ref x3, .ref x4, .ref x5, .ref x6, .ref x7, .ref x8, .int 0, .int 3000])), (o0, .inl (kA 1, 1, .inr (.inl (vp_updL (fun _ => 0) 0 (n_apply (xs 1) 0 (n_cut (xs 2) ((((xs 4).toInt64) <<< ((32 : Int32).toInt64 &&& 63)) ||| (((xs 5).toInt64) &&& 4294967295))) (n_cut (xs 3) ((((xs 6).toInt64) <<< ((32 : Int32).toInt64 &&& 63)) ||| (((xs 7).toInt64) &&& 4294967295)))))))), (m0, .inr (11, (y0.set 9 (.int 0))))] H := hP
      have hD : va_D A [(h0, .inr (10, [.ref x0, .int 0, .ref x1, .ref x2, .ref x3, .ref x4, .ref x5, .ref x6, .ref x7, .ref x8, .int 0, .int 3000])), (o0, .inl (kA 1, 1, .inr (.inl (vp_updL (fun _ => 0) 0 (n_apply (xs 1) 0 (n_cut (xs 2) ((((xs 4).toInt64) <<< ((32 : Int32).toInt64 &&& 63)) ||| (((xs 5).toInt64) &&& 4294967295))) (n_cut (xs 3) ((((xs 6).toInt64) <<< ((32 : Int32).toInt64 &&& 63)) ||| (((xs 7).toInt64) &&& 4294967295)))))))), (m0, .inr (11, (y0.set 9 (.int 0))))] := hD
      refine lv_iload hx hb dL_law_1778 (lv_at hl 1 rfl) ?_
      refine lv_icmp_eq (tgt := 1785) hx hb dL_law_1780 (by decide) (fun c_3484 => ?_) (fun c_3484 => ?_)
      · skip
        refine lv_iload hx hb dL_law_1785 (lv_at hl 1 rfl) ?_
        refine lv_if_ne (tgt := 1801) hx hb dL_law_1787 (by decide) (fun c_3485 => ?_) (fun c_3485 => ?_)
        · exact absurd (by decide) c_3485
        · skip
          refine lv_aload_n hx hb dL_law_1790 rfl (lv_at hl 5 rfl) ?_
          refine lv_iconst (v := 0) hx hb dL_law_1791 (by decide) ?_
          refine va_lald hx hb hK hP 1 1 rfl rfl (show vp_in 0 1 by unfold vp_in; decide) dL_law_1792 ?_
          refine W.eq (g2 := F0 m 1793 ls [.long (n_apply (xs 1) 0 (n_cut (xs 2) ((((xs 4).toInt64) <<< ((32 : Int32).toInt64 &&& 63)) ||| (((xs 5).toInt64) &&& 4294967295))) (n_cut (xs 3) ((((xs 6).toInt64) <<< ((32 : Int32).toInt64 &&& 63)) ||| (((xs 7).toInt64) &&& 4294967295))))]) rfl ?_
          refine lv_lload hx hb dL_law_1793 (lv_at hl 0 rfl) ?_
          refine W.lcmp hx hb dL_law_1795 ?_
          refine lv_if_eq (tgt := 1801) hx hb dL_law_1796 (by decide) (fun c_3486 => ?_) (fun c_3486 => ?_)
          · skip
            refine lv_goto (tgt := 1804) hx hb dL_law_1801 (by decide) ?_
            exact lk_tail hC hA2 (lv_sub hl [2, 6] rfl) hS (Nat.le_of_ble_eq_true rfl) (Nat.le_of_ble_eq_true rfl)
          · exact absurd ((lg_cmp_eq _ _).mpr (qx_h1 (qx_16 c_3115 c_3105 c_3116 c_3117) (by decide) c_3118)) c_3486
      · exact absurd (by decide) c_3484
    · skip
      subst w_3135
      subst w_3136
      obtain ⟨hP, hD⟩ := va_join (wr := [(h0, .inr (10, [.ref x0, .int 0, .ref x1, .ref x2, .ref x3, .ref x4, .ref x5, .ref x6, .ref x7, .ref x8, .int 0, .int 3000])), (o0, .inl (kA 1, 1, .inr (.inl (vp_updL (fun _ => 0) 0 (n_apply (xs 1) 0 (n_cut (xs 2) ((((xs 4).toInt64) <<< ((32 : Int32).toInt64 &&& 63)) ||| (((xs 5).toInt64) &&& 4294967295))) (n_cut (xs 3) ((((xs 6).toInt64) <<< ((32 : Int32).toInt64 &&& 63)) ||| (((xs 7).toInt64) &&& 4294967295))))))))]) (w1 := [(m0, .inr (11, y0.set 9 (.int 0)))]) hP hD [0] [1, 2] rfl rfl (by decide) (by decide) hk1 hFc hP1 hD1
      generalize H1 = H at hP hS ⊢
      have hP : va_P D vwCl [(h0, .inr (10, [.ref x0, .int 0, .ref x1, .ref x2, .ref x3, .ref x4, .ref x5, .ref x6, .ref x7, .ref x8, .int 0, .int 3000])), (o0, .inl (kA 1, 1, .inr (.inl (vp_updL (fun _ => 0) 0 (n_apply (xs 1) 0 (n_cut (xs 2) ((((xs 4).toInt64) <<< ((32 : Int32).toInt64 &&& 63)) ||| (((xs 5).toInt64) &&& 4294967295))) (n_cut (xs 3) ((((xs 6).toInt64) <<< ((32 : Int32).toInt64 &&& 63)) ||| (((xs 7).toInt64) &&& 4294967295)))))))), (m0, .inr (11, y0.set 9 (.int 0)))] H := hP
      have hD : va_D A [(h0, .inr (10, [.ref x0, .int 0, .ref x1, .ref x2, .ref x3, .ref x4, .ref x5, .ref x6, .ref x7, .ref x8, .int 0, .int 3000])), (o0, .inl (kA 1, 1, .inr (.inl (vp_updL (fun _ => 0) 0 (n_apply (xs 1) 0 (n_cut (xs 2) ((((xs 4).toInt64) <<< ((32 : Int32).toInt64 &&& 63)) ||| (((xs 5).toInt64) &&& 4294967295))) (n_cut (xs 3) ((((xs 6).toInt64) <<< ((32 : Int32).toInt64 &&& 63)) ||| (((xs 7).toInt64) &&& 4294967295)))))))), (m0, .inr (11, y0.set 9 (.int 0)))] := hD
      refine lv_lstore (lv' := [(6, .long ((n_cut (xs 2) ((((xs 4).toInt64) <<< ((32 : Int32).toInt64 &&& 63)) ||| (((xs 5).toInt64) &&& 4294967295))) ^^^ (-1))), (5, .int 0), (0, .ref b), (1, .ref h0), (2, .ref m0), (3, .ref o0), (4, .int 0)]) hx hb dL_law_1772 hl (by decide) rfl (fun ls hl => ?_)
      refine lv_aload_n hx hb dL_law_1774 rfl (lv_at hl 4 rfl) ?_
      have hPc := hP.sub (ws' := [(m0, .inr (11, y0.set 9 (.int 0)))]) [2] rfl
      have hDc := hD.sub (ws' := [(m0, .inr (11, y0.set 9 (.int 0)))]) [2] (by decide) rfl
      have hFc := va_free (wc := [(m0, .inr (11, y0.set 9 (.int 0)))]) hD hS hA [2] rfl
      refine va_calli (va_runV (As := []) (rest := []) ⟨hx, hb, hml, hown, hts⟩ (a94_X12_thrown l  D kA V H.size m0 (y0.set 9 (.int 0)) (fun k hk => (by rw [List.length_set]; exact (hq k hk))) (List.getElem?_set_self (hq 9 (by decide)))) (cwV 0 hts (gw_V gw_1879 gw_1880 gw_1881 gw_16 gw_1882) rfl rfl rfl (by decide +kernel) ⟨(Nat.le_of_ble_eq_true rfl), (Nat.le_of_ble_eq_true rfl)⟩) ⟨aP.blind, va_recv hK hP (ci := 11) (q0 := 2) rfl rfl, aP.pre hE hS hPc hK hDc hFc⟩ rfl rfl hl.1 rfl (lv_room (Nat.le_of_ble_eq_true rfl)) dL_law_1775 ⟨(Nat.le_of_ble_eq_true rfl), (Nat.le_of_ble_eq_true rfl)⟩) hS (fun q _ h => hFc q h) hFc (fun r_3487 u t H1 locs ht hvm hw hB hz1 hk1 hS => ?_)
      obtain ⟨hP1, hD1⟩ := hB
      rw [ht] at hP1
      try dsimp only at hw hP1 hD1
      have w_3488 := hw
      subst w_3488
      obtain ⟨hP, hD⟩ := va_join (wr := [(h0, .inr (10, [.ref x0, .int 0, .ref x1, .ref x2, .ref x3, .ref x4, .ref x5, .ref x6, .ref x7, .ref x8, .int 0, .int 3000])), (o0, .inl (kA 1, 1, .inr (.inl (vp_updL (fun _ => 0) 0 (n_apply (xs 1) 0 (n_cut (xs 2) ((((xs 4).toInt64) <<< ((32 : Int32).toInt64 &&& 63)) ||| (((xs 5).toInt64) &&& 4294967295))) (n_cut (xs 3) ((((xs 6).toInt64) <<< ((32 : Int32).toInt64 &&& 63)) ||| (((xs 7).toInt64) &&& 4294967295))))))))]) (w1 := [(m0, .inr (11, (y0.set 9 (.int 0))))]) hP hD [2] [0, 1] rfl rfl (by decide) (by decide) hk1 hFc hP1 hD1
      generalize H1 = H at hP hS ⊢
      have hP : va_P D vwCl [(h0, .inr (10, [.ref x0, .int 0, .ref x1, .ref x2, .ref x3, .ref x4, .ref x5, .ref x6, .ref x7, .ref x8, .int 0, .int 3000])), (o0, .inl (kA 1, 1, .inr (.inl (vp_updL (fun _ => 0) 0 (n_apply (xs 1) 0 (n_cut (xs 2) ((((xs 4).toInt64) <<< ((32 : Int32).toInt64 &&& 63)) ||| (((xs 5).toInt64) &&& 4294967295))) (n_cut (xs 3) ((((xs 6).toInt64) <<< ((32 : Int32).toInt64 &&& 63)) ||| (((xs 7).toInt64) &&& 4294967295)))))))), (m0, .inr (11, (y0.set 9 (.int 0))))] H := hP
      have hD : va_D A [(h0, .inr (10, [.ref x0, .int 0, .ref x1, .ref x2, .ref x3, .ref x4, .ref x5, .ref x6, .ref x7, .ref x8, .int 0, .int 3000])), (o0, .inl (kA 1, 1, .inr (.inl (vp_updL (fun _ => 0) 0 (n_apply (xs 1) 0 (n_cut (xs 2) ((((xs 4).toInt64) <<< ((32 : Int32).toInt64 &&& 63)) ||| (((xs 5).toInt64) &&& 4294967295))) (n_cut (xs 3) ((((xs 6).toInt64) <<< ((32 : Int32).toInt64 &&& 63)) ||| (((xs 7).toInt64) &&& 4294967295)))))))), (m0, .inr (11, (y0.set 9 (.int 0))))] := hD
      refine lv_iload hx hb dL_law_1778 (lv_at hl 1 rfl) ?_
      refine lv_icmp_eq (tgt := 1785) hx hb dL_law_1780 (by decide) (fun c_3489 => ?_) (fun c_3489 => ?_)
      · skip
        refine lv_iload hx hb dL_law_1785 (lv_at hl 1 rfl) ?_
        refine lv_if_ne (tgt := 1801) hx hb dL_law_1787 (by decide) (fun c_3490 => ?_) (fun c_3490 => ?_)
        · exact absurd (by decide) c_3490
        · skip
          refine lv_aload_n hx hb dL_law_1790 rfl (lv_at hl 5 rfl) ?_
          refine lv_iconst (v := 0) hx hb dL_law_1791 (by decide) ?_
          refine va_lald hx hb hK hP 1 1 rfl rfl (show vp_in 0 1 by unfold vp_in; decide) dL_law_1792 ?_
          refine W.eq (g2 := F0 m 1793 ls [.long (n_apply (xs 1) 0 (n_cut (xs 2) ((((xs 4).toInt64) <<< ((32 : Int32).toInt64 &&& 63)) ||| (((xs 5).toInt64) &&& 4294967295))) (n_cut (xs 3) ((((xs 6).toInt64) <<< ((32 : Int32).toInt64 &&& 63)) ||| (((xs 7).toInt64) &&& 4294967295))))]) rfl ?_
          refine lv_lload hx hb dL_law_1793 (lv_at hl 0 rfl) ?_
          refine W.lcmp hx hb dL_law_1795 ?_
          refine lv_if_eq (tgt := 1801) hx hb dL_law_1796 (by decide) (fun c_3491 => ?_) (fun c_3491 => ?_)
          · skip
            refine lv_goto (tgt := 1804) hx hb dL_law_1801 (by decide) ?_
            exact lk_tail hC hA2 (lv_sub hl [2, 6] rfl) hS (Nat.le_of_ble_eq_true rfl) (Nat.le_of_ble_eq_true rfl)
          · exact absurd ((lg_cmp_eq _ _).mpr (qx_g0 c_3134 (qx_Icut c_36 c_37 c_42 _))) c_3491
      · exact absurd (by decide) c_3489
    · skip
      subst w_3150
      subst w_3151
      obtain ⟨hP, hD⟩ := va_join (wr := [(h0, .inr (10, [.ref x0, .int 0, .ref x1, .ref x2, .ref x3, .ref x4, .ref x5, .ref x6, .ref x7, .ref x8, .int 0, .int 3000])), (o0, .inl (kA 1, 1, .inr (.inl (vp_updL (fun _ => 0) 0 (n_apply (xs 1) 0 (n_cut (xs 2) ((((xs 4).toInt64) <<< ((32 : Int32).toInt64 &&& 63)) ||| (((xs 5).toInt64) &&& 4294967295))) (n_cut (xs 3) ((((xs 6).toInt64) <<< ((32 : Int32).toInt64 &&& 63)) ||| (((xs 7).toInt64) &&& 4294967295))))))))]) (w1 := [(m0, .inr (11, y0.set 9 (.int 0)))]) hP hD [0] [1, 2] rfl rfl (by decide) (by decide) hk1 hFc hP1 hD1
      generalize H1 = H at hP hS ⊢
      have hP : va_P D vwCl [(h0, .inr (10, [.ref x0, .int 0, .ref x1, .ref x2, .ref x3, .ref x4, .ref x5, .ref x6, .ref x7, .ref x8, .int 0, .int 3000])), (o0, .inl (kA 1, 1, .inr (.inl (vp_updL (fun _ => 0) 0 (n_apply (xs 1) 0 (n_cut (xs 2) ((((xs 4).toInt64) <<< ((32 : Int32).toInt64 &&& 63)) ||| (((xs 5).toInt64) &&& 4294967295))) (n_cut (xs 3) ((((xs 6).toInt64) <<< ((32 : Int32).toInt64 &&& 63)) ||| (((xs 7).toInt64) &&& 4294967295)))))))), (m0, .inr (11, y0.set 9 (.int 0)))] H := hP
      have hD : va_D A [(h0, .inr (10, [.ref x0, .int 0, .ref x1, .ref x2, .ref x3, .ref x4, .ref x5, .ref x6, .ref x7, .ref x8, .int 0, .int 3000])), (o0, .inl (kA 1, 1, .inr (.inl (vp_updL (fun _ => 0) 0 (n_apply (xs 1) 0 (n_cut (xs 2) ((((xs 4).toInt64) <<< ((32 : Int32).toInt64 &&& 63)) ||| (((xs 5).toInt64) &&& 4294967295))) (n_cut (xs 3) ((((xs 6).toInt64) <<< ((32 : Int32).toInt64 &&& 63)) ||| (((xs 7).toInt64) &&& 4294967295)))))))), (m0, .inr (11, y0.set 9 (.int 0)))] := hD
      refine lv_lstore (lv' := [(6, .long (r_worked 0 (-(n_cut (xs 2) ((((xs 4).toInt64) <<< ((32 : Int32).toInt64 &&& 63)) ||| (((xs 5).toInt64) &&& 4294967295)))))), (5, .int 0), (0, .ref b), (1, .ref h0), (2, .ref m0), (3, .ref o0), (4, .int 0)]) hx hb dL_law_1772 hl (by decide) rfl (fun ls hl => ?_)
      refine lv_aload_n hx hb dL_law_1774 rfl (lv_at hl 4 rfl) ?_
      have hPc := hP.sub (ws' := [(m0, .inr (11, y0.set 9 (.int 0)))]) [2] rfl
      have hDc := hD.sub (ws' := [(m0, .inr (11, y0.set 9 (.int 0)))]) [2] (by decide) rfl
      have hFc := va_free (wc := [(m0, .inr (11, y0.set 9 (.int 0)))]) hD hS hA [2] rfl
      refine va_calli (va_runV (As := []) (rest := []) ⟨hx, hb, hml, hown, hts⟩ (a94_X12_thrown l  D kA V H.size m0 (y0.set 9 (.int 0)) (fun k hk => (by rw [List.length_set]; exact (hq k hk))) (List.getElem?_set_self (hq 9 (by decide)))) (cwV 0 hts (gw_V gw_1879 gw_1880 gw_1881 gw_16 gw_1882) rfl rfl rfl (by decide +kernel) ⟨(Nat.le_of_ble_eq_true rfl), (Nat.le_of_ble_eq_true rfl)⟩) ⟨aP.blind, va_recv hK hP (ci := 11) (q0 := 2) rfl rfl, aP.pre hE hS hPc hK hDc hFc⟩ rfl rfl hl.1 rfl (lv_room (Nat.le_of_ble_eq_true rfl)) dL_law_1775 ⟨(Nat.le_of_ble_eq_true rfl), (Nat.le_of_ble_eq_true rfl)⟩) hS (fun q _ h => hFc q h) hFc (fun r_3492 u t H1 locs ht hvm hw hB hz1 hk1 hS => ?_)
      obtain ⟨hP1, hD1⟩ := hB
      rw [ht] at hP1
      try dsimp only at hw hP1 hD1
      have w_3493 := hw
      subst w_3493
      obtain ⟨hP, hD⟩ := va_join (wr := [(h0, .inr (10, [.ref x0, .int 0, .ref x1, .ref x2, .ref x3, .ref x4, .ref x5, .ref x6, .ref x7, .ref x8, .int 0, .int 3000])), (o0, .inl (kA 1, 1, .inr (.inl (vp_updL (fun _ => 0) 0 (n_apply (xs 1) 0 (n_cut (xs 2) ((((xs 4).toInt64) <<< ((32 : Int32).toInt64 &&& 63)) ||| (((xs 5).toInt64) &&& 4294967295))) (n_cut (xs 3) ((((xs 6).toInt64) <<< ((32 : Int32).toInt64 &&& 63)) ||| (((xs 7).toInt64) &&& 4294967295))))))))]) (w1 := [(m0, .inr (11, (y0.set 9 (.int 0))))]) hP hD [2] [0, 1] rfl rfl (by decide) (by decide) hk1 hFc hP1 hD1
      generalize H1 = H at hP hS ⊢
      have hP : va_P D vwCl [(h0, .inr (10, [.ref x0, .int 0, .ref x1, .ref x2, .ref x3, .ref x4, .ref x5, .ref x6, .ref x7, .ref x8, .int 0, .int 3000])), (o0, .inl (kA 1, 1, .inr (.inl (vp_updL (fun _ => 0) 0 (n_apply (xs 1) 0 (n_cut (xs 2) ((((xs 4).toInt64) <<< ((32 : Int32).toInt64 &&& 63)) ||| (((xs 5).toInt64) &&& 4294967295))) (n_cut (xs 3) ((((xs 6).toInt64) <<< ((32 : Int32).toInt64 &&& 63)) ||| (((xs 7).toInt64) &&& 4294967295)))))))), (m0, .inr (11, (y0.set 9 (.int 0))))] H := hP
      have hD : va_D A [(h0, .inr (10, [.ref x0, .int 0, .ref x1, .ref x2, .ref x3, .ref x4, .ref x5, .ref x6, .ref x7, .ref x8, .int 0, .int 3000])), (o0, .inl (kA 1, 1, .inr (.inl (vp_updL (fun _ => 0) 0 (n_apply (xs 1) 0 (n_cut (xs 2) ((((xs 4).toInt64) <<< ((32 : Int32).toInt64 &&& 63)) ||| (((xs 5).toInt64) &&& 4294967295))) (n_cut (xs 3) ((((xs 6).toInt64) <<< ((32 : Int32).toInt64 &&& 63)) ||| (((xs 7).toInt64) &&& 4294967295)))))))), (m0, .inr (11, (y0.set 9 (.int 0))))] := hD
      refine lv_iload hx hb dL_law_1778 (lv_at hl 1 rfl) ?_
      refine lv_icmp_eq (tgt := 1785) hx hb dL_law_1780 (by decide) (fun c_3494 => ?_) (fun c_3494 => ?_)
      · skip
        refine lv_iload hx hb dL_law_1785 (lv_at hl 1 rfl) ?_
        refine lv_if_ne (tgt := 1801) hx hb dL_law_1787 (by decide) (fun c_3495 => ?_) (fun c_3495 => ?_)
        · exact absurd (by decide) c_3495
        · skip
          refine lv_aload_n hx hb dL_law_1790 rfl (lv_at hl 5 rfl) ?_
          refine lv_iconst (v := 0) hx hb dL_law_1791 (by decide) ?_
          refine va_lald hx hb hK hP 1 1 rfl rfl (show vp_in 0 1 by unfold vp_in; decide) dL_law_1792 ?_
          refine W.eq (g2 := F0 m 1793 ls [.long (n_apply (xs 1) 0 (n_cut (xs 2) ((((xs 4).toInt64) <<< ((32 : Int32).toInt64 &&& 63)) ||| (((xs 5).toInt64) &&& 4294967295))) (n_cut (xs 3) ((((xs 6).toInt64) <<< ((32 : Int32).toInt64 &&& 63)) ||| (((xs 7).toInt64) &&& 4294967295))))]) rfl ?_
          refine lv_lload hx hb dL_law_1793 (lv_at hl 0 rfl) ?_
          refine W.lcmp hx hb dL_law_1795 ?_
          refine lv_if_eq (tgt := 1801) hx hb dL_law_1796 (by decide) (fun c_3496 => ?_) (fun c_3496 => ?_)
          · skip
            refine lv_goto (tgt := 1804) hx hb dL_law_1801 (by decide) ?_
            exact lk_tail hC hA2 (lv_sub hl [2, 6] rfl) hS (Nat.le_of_ble_eq_true rfl) (Nat.le_of_ble_eq_true rfl)
          · exact absurd ((lg_cmp_eq _ _).mpr (qx_f0 c_3149)) c_3496
      · exact absurd (by decide) c_3494
    · skip
      subst w_3164
      subst w_3165
      obtain ⟨hP, hD⟩ := va_join (wr := [(h0, .inr (10, [.ref x0, .int 0, .ref x1, .ref x2, .ref x3, .ref x4, .ref x5, .ref x6, .ref x7, .ref x8, .int 0, .int 3000])), (o0, .inl (kA 1, 1, .inr (.inl (vp_updL (fun _ => 0) 0 (n_apply (xs 1) 0 (n_cut (xs 2) ((((xs 4).toInt64) <<< ((32 : Int32).toInt64 &&& 63)) ||| (((xs 5).toInt64) &&& 4294967295))) (n_cut (xs 3) ((((xs 6).toInt64) <<< ((32 : Int32).toInt64 &&& 63)) ||| (((xs 7).toInt64) &&& 4294967295))))))))]) (w1 := [(m0, .inr (11, y0.set 9 (.int 0)))]) hP hD [0] [1, 2] rfl rfl (by decide) (by decide) hk1 hFc hP1 hD1
      generalize H1 = H at hP hS ⊢
      have hP : va_P D vwCl [(h0, .inr (10, [.ref x0, .int 0, .ref x1, .ref x2, .ref x3, .ref x4, .ref x5, .ref x6, .ref x7, .ref x8, .int 0, .int 3000])), (o0, .inl (kA 1, 1, .inr (.inl (vp_updL (fun _ => 0) 0 (n_apply (xs 1) 0 (n_cut (xs 2) ((((xs 4).toInt64) <<< ((32 : Int32).toInt64 &&& 63)) ||| (((xs 5).toInt64) &&& 4294967295))) (n_cut (xs 3) ((((xs 6).toInt64) <<< ((32 : Int32).toInt64 &&& 63)) ||| (((xs 7).toInt64) &&& 4294967295)))))))), (m0, .inr (11, y0.set 9 (.int 0)))] H := hP
      have hD : va_D A [(h0, .inr (10, [.ref x0, .int 0, .ref x1, .ref x2, .ref x3, .ref x4, .ref x5, .ref x6, .ref x7, .ref x8, .int 0, .int 3000])), (o0, .inl (kA 1, 1, .inr (.inl (vp_updL (fun _ => 0) 0 (n_apply (xs 1) 0 (n_cut (xs 2) ((((xs 4).toInt64) <<< ((32 : Int32).toInt64 &&& 63)) ||| (((xs 5).toInt64) &&& 4294967295))) (n_cut (xs 3) ((((xs 6).toInt64) <<< ((32 : Int32).toInt64 &&& 63)) ||| (((xs 7).toInt64) &&& 4294967295)))))))), (m0, .inr (11, y0.set 9 (.int 0)))] := hD
      refine lv_lstore (lv' := [(6, .long (r_special ((xs 1) - 6) 0 (n_cut (xs 2) ((((xs 4).toInt64) <<< ((32 : Int32).toInt64 &&& 63)) ||| (((xs 5).toInt64) &&& 4294967295))) 0)), (5, .int 0), (0, .ref b), (1, .ref h0), (2, .ref m0), (3, .ref o0), (4, .int 0)]) hx hb dL_law_1772 hl (by decide) rfl (fun ls hl => ?_)
      refine lv_aload_n hx hb dL_law_1774 rfl (lv_at hl 4 rfl) ?_
      have hPc := hP.sub (ws' := [(m0, .inr (11, y0.set 9 (.int 0)))]) [2] rfl
      have hDc := hD.sub (ws' := [(m0, .inr (11, y0.set 9 (.int 0)))]) [2] (by decide) rfl
      have hFc := va_free (wc := [(m0, .inr (11, y0.set 9 (.int 0)))]) hD hS hA [2] rfl
      refine va_calli (va_runV (As := []) (rest := []) ⟨hx, hb, hml, hown, hts⟩ (a94_X12_thrown l  D kA V H.size m0 (y0.set 9 (.int 0)) (fun k hk => (by rw [List.length_set]; exact (hq k hk))) (List.getElem?_set_self (hq 9 (by decide)))) (cwV 0 hts (gw_V gw_1879 gw_1880 gw_1881 gw_16 gw_1882) rfl rfl rfl (by decide +kernel) ⟨(Nat.le_of_ble_eq_true rfl), (Nat.le_of_ble_eq_true rfl)⟩) ⟨aP.blind, va_recv hK hP (ci := 11) (q0 := 2) rfl rfl, aP.pre hE hS hPc hK hDc hFc⟩ rfl rfl hl.1 rfl (lv_room (Nat.le_of_ble_eq_true rfl)) dL_law_1775 ⟨(Nat.le_of_ble_eq_true rfl), (Nat.le_of_ble_eq_true rfl)⟩) hS (fun q _ h => hFc q h) hFc (fun r_3497 u t H1 locs ht hvm hw hB hz1 hk1 hS => ?_)
      obtain ⟨hP1, hD1⟩ := hB
      rw [ht] at hP1
      try dsimp only at hw hP1 hD1
      have w_3498 := hw
      subst w_3498
      obtain ⟨hP, hD⟩ := va_join (wr := [(h0, .inr (10, [.ref x0, .int 0, .ref x1, .ref x2, .ref x3, .ref x4, .ref x5, .ref x6, .ref x7, .ref x8, .int 0, .int 3000])), (o0, .inl (kA 1, 1, .inr (.inl (vp_updL (fun _ => 0) 0 (n_apply (xs 1) 0 (n_cut (xs 2) ((((xs 4).toInt64) <<< ((32 : Int32).toInt64 &&& 63)) ||| (((xs 5).toInt64) &&& 4294967295))) (n_cut (xs 3) ((((xs 6).toInt64) <<< ((32 : Int32).toInt64 &&& 63)) ||| (((xs 7).toInt64) &&& 4294967295))))))))]) (w1 := [(m0, .inr (11, (y0.set 9 (.int 0))))]) hP hD [2] [0, 1] rfl rfl (by decide) (by decide) hk1 hFc hP1 hD1
      generalize H1 = H at hP hS ⊢
      have hP : va_P D vwCl [(h0, .inr (10, [.ref x0, .int 0, .ref x1, .ref x2, .ref x3, .ref x4, .ref x5, .ref x6, .ref x7, .ref x8, .int 0, .int 3000])), (o0, .inl (kA 1, 1, .inr (.inl (vp_updL (fun _ => 0) 0 (n_apply (xs 1) 0 (n_cut (xs 2) ((((xs 4).toInt64) <<< ((32 : Int32).toInt64 &&& 63)) ||| (((xs 5).toInt64) &&& 4294967295))) (n_cut (xs 3) ((((xs 6).toInt64) <<< ((32 : Int32).toInt64 &&& 63)) ||| (((xs 7).toInt64) &&& 4294967295)))))))), (m0, .inr (11, (y0.set 9 (.int 0))))] H := hP
      have hD : va_D A [(h0, .inr (10, [.ref x0, .int 0, .ref x1, .ref x2, .ref x3, .ref x4, .ref x5, .ref x6, .ref x7, .ref x8, .int 0, .int 3000])), (o0, .inl (kA 1, 1, .inr (.inl (vp_updL (fun _ => 0) 0 (n_apply (xs 1) 0 (n_cut (xs 2) ((((xs 4).toInt64) <<< ((32 : Int32).toInt64 &&& 63)) ||| (((xs 5).toInt64) &&& 4294967295))) (n_cut (xs 3) ((((xs 6).toInt64) <<< ((32 : Int32).toInt64 &&& 63)) ||| (((xs 7).toInt64) &&& 4294967295)))))))), (m0, .inr (11, (y0.set 9 (.int 0))))] := hD
      refine lv_iload hx hb dL_law_1778 (lv_at hl 1 rfl) ?_
      refine lv_icmp_eq (tgt := 1785) hx hb dL_law_1780 (by decide) (fun c_3499 => ?_) (fun c_3499 => ?_)
      · skip
        refine lv_iload hx hb dL_law_1785 (lv_at hl 1 rfl) ?_
        refine lv_if_ne (tgt := 1801) hx hb dL_law_1787 (by decide) (fun c_3500 => ?_) (fun c_3500 => ?_)
        · exact absurd (by decide) c_3500
        · skip
          refine lv_aload_n hx hb dL_law_1790 rfl (lv_at hl 5 rfl) ?_
          refine lv_iconst (v := 0) hx hb dL_law_1791 (by decide) ?_
          refine va_lald hx hb hK hP 1 1 rfl rfl (show vp_in 0 1 by unfold vp_in; decide) dL_law_1792 ?_
          refine W.eq (g2 := F0 m 1793 ls [.long (n_apply (xs 1) 0 (n_cut (xs 2) ((((xs 4).toInt64) <<< ((32 : Int32).toInt64 &&& 63)) ||| (((xs 5).toInt64) &&& 4294967295))) (n_cut (xs 3) ((((xs 6).toInt64) <<< ((32 : Int32).toInt64 &&& 63)) ||| (((xs 7).toInt64) &&& 4294967295))))]) rfl ?_
          refine lv_lload hx hb dL_law_1793 (lv_at hl 0 rfl) ?_
          refine W.lcmp hx hb dL_law_1795 ?_
          refine lv_if_eq (tgt := 1801) hx hb dL_law_1796 (by decide) (fun c_3501 => ?_) (fun c_3501 => ?_)
          · skip
            refine lv_goto (tgt := 1804) hx hb dL_law_1801 (by decide) ?_
            exact lk_tail hC hA2 (lv_sub hl [2, 6] rfl) hS (Nat.le_of_ble_eq_true rfl) (Nat.le_of_ble_eq_true rfl)
          · exact absurd ((lg_cmp_eq _ _).mpr (qx_e c_3161 c_3162 c_3163)) c_3501
      · exact absurd (by decide) c_3499
    · skip
      subst w_3177
      subst w_3178
      obtain ⟨hP, hD⟩ := va_join (wr := [(h0, .inr (10, [.ref x0, .int 0, .ref x1, .ref x2, .ref x3, .ref x4, .ref x5, .ref x6, .ref x7, .ref x8, .int 0, .int 3000])), (o0, .inl (kA 1, 1, .inr (.inl (vp_updL (fun _ => 0) 0 (n_apply (xs 1) 0 (n_cut (xs 2) ((((xs 4).toInt64) <<< ((32 : Int32).toInt64 &&& 63)) ||| (((xs 5).toInt64) &&& 4294967295))) (n_cut (xs 3) ((((xs 6).toInt64) <<< ((32 : Int32).toInt64 &&& 63)) ||| (((xs 7).toInt64) &&& 4294967295))))))))]) (w1 := [(m0, .inr (11, y0.set 9 (.int 0)))]) hP hD [0] [1, 2] rfl rfl (by decide) (by decide) hk1 hFc hP1 hD1
      generalize H1 = H at hP hS ⊢
      have hP : va_P D vwCl [(h0, .inr (10, [.ref x0, .int 0, .ref x1, .ref x2, .ref x3, .ref x4, .ref x5, .ref x6, .ref x7, .ref x8, .int 0, .int 3000])), (o0, .inl (kA 1, 1, .inr (.inl (vp_updL (fun _ => 0) 0 (n_apply (xs 1) 0 (n_cut (xs 2) ((((xs 4).toInt64) <<< ((32 : Int32).toInt64 &&& 63)) ||| (((xs 5).toInt64) &&& 4294967295))) (n_cut (xs 3) ((((xs 6).toInt64) <<< ((32 : Int32).toInt64 &&& 63)) ||| (((xs 7).toInt64) &&& 4294967295)))))))), (m0, .inr (11, y0.set 9 (.int 0)))] H := hP
      have hD : va_D A [(h0, .inr (10, [.ref x0, .int 0, .ref x1, .ref x2, .ref x3, .ref x4, .ref x5, .ref x6, .ref x7, .ref x8, .int 0, .int 3000])), (o0, .inl (kA 1, 1, .inr (.inl (vp_updL (fun _ => 0) 0 (n_apply (xs 1) 0 (n_cut (xs 2) ((((xs 4).toInt64) <<< ((32 : Int32).toInt64 &&& 63)) ||| (((xs 5).toInt64) &&& 4294967295))) (n_cut (xs 3) ((((xs 6).toInt64) <<< ((32 : Int32).toInt64 &&& 63)) ||| (((xs 7).toInt64) &&& 4294967295)))))))), (m0, .inr (11, y0.set 9 (.int 0)))] := hD
      refine lv_lstore (lv' := [(6, .long (r_special 0 0 (n_cut (xs 2) ((((xs 4).toInt64) <<< ((32 : Int32).toInt64 &&& 63)) ||| (((xs 5).toInt64) &&& 4294967295))) 0)), (5, .int 0), (0, .ref b), (1, .ref h0), (2, .ref m0), (3, .ref o0), (4, .int 0)]) hx hb dL_law_1772 hl (by decide) rfl (fun ls hl => ?_)
      refine lv_aload_n hx hb dL_law_1774 rfl (lv_at hl 4 rfl) ?_
      have hPc := hP.sub (ws' := [(m0, .inr (11, y0.set 9 (.int 0)))]) [2] rfl
      have hDc := hD.sub (ws' := [(m0, .inr (11, y0.set 9 (.int 0)))]) [2] (by decide) rfl
      have hFc := va_free (wc := [(m0, .inr (11, y0.set 9 (.int 0)))]) hD hS hA [2] rfl
      refine va_calli (va_runV (As := []) (rest := []) ⟨hx, hb, hml, hown, hts⟩ (a94_X12_thrown l  D kA V H.size m0 (y0.set 9 (.int 0)) (fun k hk => (by rw [List.length_set]; exact (hq k hk))) (List.getElem?_set_self (hq 9 (by decide)))) (cwV 0 hts (gw_V gw_1879 gw_1880 gw_1881 gw_16 gw_1882) rfl rfl rfl (by decide +kernel) ⟨(Nat.le_of_ble_eq_true rfl), (Nat.le_of_ble_eq_true rfl)⟩) ⟨aP.blind, va_recv hK hP (ci := 11) (q0 := 2) rfl rfl, aP.pre hE hS hPc hK hDc hFc⟩ rfl rfl hl.1 rfl (lv_room (Nat.le_of_ble_eq_true rfl)) dL_law_1775 ⟨(Nat.le_of_ble_eq_true rfl), (Nat.le_of_ble_eq_true rfl)⟩) hS (fun q _ h => hFc q h) hFc (fun r_3502 u t H1 locs ht hvm hw hB hz1 hk1 hS => ?_)
      obtain ⟨hP1, hD1⟩ := hB
      rw [ht] at hP1
      try dsimp only at hw hP1 hD1
      have w_3503 := hw
      subst w_3503
      obtain ⟨hP, hD⟩ := va_join (wr := [(h0, .inr (10, [.ref x0, .int 0, .ref x1, .ref x2, .ref x3, .ref x4, .ref x5, .ref x6, .ref x7, .ref x8, .int 0, .int 3000])), (o0, .inl (kA 1, 1, .inr (.inl (vp_updL (fun _ => 0) 0 (n_apply (xs 1) 0 (n_cut (xs 2) ((((xs 4).toInt64) <<< ((32 : Int32).toInt64 &&& 63)) ||| (((xs 5).toInt64) &&& 4294967295))) (n_cut (xs 3) ((((xs 6).toInt64) <<< ((32 : Int32).toInt64 &&& 63)) ||| (((xs 7).toInt64) &&& 4294967295))))))))]) (w1 := [(m0, .inr (11, (y0.set 9 (.int 0))))]) hP hD [2] [0, 1] rfl rfl (by decide) (by decide) hk1 hFc hP1 hD1
      generalize H1 = H at hP hS ⊢
      have hP : va_P D vwCl [(h0, .inr (10, [.ref x0, .int 0, .ref x1, .ref x2, .ref x3, .ref x4, .ref x5, .ref x6, .ref x7, .ref x8, .int 0, .int 3000])), (o0, .inl (kA 1, 1, .inr (.inl (vp_updL (fun _ => 0) 0 (n_apply (xs 1) 0 (n_cut (xs 2) ((((xs 4).toInt64) <<< ((32 : Int32).toInt64 &&& 63)) ||| (((xs 5).toInt64) &&& 4294967295))) (n_cut (xs 3) ((((xs 6).toInt64) <<< ((32 : Int32).toInt64 &&& 63)) ||| (((xs 7).toInt64) &&& 4294967295)))))))), (m0, .inr (11, (y0.set 9 (.int 0))))] H := hP
      have hD : va_D A [(h0, .inr (10, [.ref x0, .int 0, .ref x1, .ref x2, .ref x3, .ref x4, .ref x5, .ref x6, .ref x7, .ref x8, .int 0, .int 3000])), (o0, .inl (kA 1, 1, .inr (.inl (vp_updL (fun _ => 0) 0 (n_apply (xs 1) 0 (n_cut (xs 2) ((((xs 4).toInt64) <<< ((32 : Int32).toInt64 &&& 63)) ||| (((xs 5).toInt64) &&& 4294967295))) (n_cut (xs 3) ((((xs 6).toInt64) <<< ((32 : Int32).toInt64 &&& 63)) ||| (((xs 7).toInt64) &&& 4294967295)))))))), (m0, .inr (11, (y0.set 9 (.int 0))))] := hD
      refine lv_iload hx hb dL_law_1778 (lv_at hl 1 rfl) ?_
      refine lv_icmp_eq (tgt := 1785) hx hb dL_law_1780 (by decide) (fun c_3504 => ?_) (fun c_3504 => ?_)
      · skip
        refine lv_iload hx hb dL_law_1785 (lv_at hl 1 rfl) ?_
        refine lv_if_ne (tgt := 1801) hx hb dL_law_1787 (by decide) (fun c_3505 => ?_) (fun c_3505 => ?_)
        · exact absurd (by decide) c_3505
        · skip
          refine lv_aload_n hx hb dL_law_1790 rfl (lv_at hl 5 rfl) ?_
          refine lv_iconst (v := 0) hx hb dL_law_1791 (by decide) ?_
          refine va_lald hx hb hK hP 1 1 rfl rfl (show vp_in 0 1 by unfold vp_in; decide) dL_law_1792 ?_
          refine W.eq (g2 := F0 m 1793 ls [.long (n_apply (xs 1) 0 (n_cut (xs 2) ((((xs 4).toInt64) <<< ((32 : Int32).toInt64 &&& 63)) ||| (((xs 5).toInt64) &&& 4294967295))) (n_cut (xs 3) ((((xs 6).toInt64) <<< ((32 : Int32).toInt64 &&& 63)) ||| (((xs 7).toInt64) &&& 4294967295))))]) rfl ?_
          refine lv_lload hx hb dL_law_1793 (lv_at hl 0 rfl) ?_
          refine W.lcmp hx hb dL_law_1795 ?_
          refine lv_if_eq (tgt := 1801) hx hb dL_law_1796 (by decide) (fun c_3506 => ?_) (fun c_3506 => ?_)
          · skip
            refine lv_goto (tgt := 1804) hx hb dL_law_1801 (by decide) ?_
            exact lk_tail hC hA2 (lv_sub hl [2, 6] rfl) hS (Nat.le_of_ble_eq_true rfl) (Nat.le_of_ble_eq_true rfl)
          · exact absurd ((lg_cmp_eq _ _).mpr (qx_d c_3176)) c_3506
      · exact absurd (by decide) c_3504
    · skip
      subst w_3189
      subst w_3190
      obtain ⟨hP, hD⟩ := va_join (wr := [(h0, .inr (10, [.ref x0, .int 0, .ref x1, .ref x2, .ref x3, .ref x4, .ref x5, .ref x6, .ref x7, .ref x8, .int 0, .int 3000])), (o0, .inl (kA 1, 1, .inr (.inl (vp_updL (fun _ => 0) 0 (n_apply (xs 1) 0 (n_cut (xs 2) ((((xs 4).toInt64) <<< ((32 : Int32).toInt64 &&& 63)) ||| (((xs 5).toInt64) &&& 4294967295))) (n_cut (xs 3) ((((xs 6).toInt64) <<< ((32 : Int32).toInt64 &&& 63)) ||| (((xs 7).toInt64) &&& 4294967295))))))))]) (w1 := [(m0, .inr (11, y0.set 9 (.int 0)))]) hP hD [0] [1, 2] rfl rfl (by decide) (by decide) hk1 hFc hP1 hD1
      generalize H1 = H at hP hS ⊢
      have hP : va_P D vwCl [(h0, .inr (10, [.ref x0, .int 0, .ref x1, .ref x2, .ref x3, .ref x4, .ref x5, .ref x6, .ref x7, .ref x8, .int 0, .int 3000])), (o0, .inl (kA 1, 1, .inr (.inl (vp_updL (fun _ => 0) 0 (n_apply (xs 1) 0 (n_cut (xs 2) ((((xs 4).toInt64) <<< ((32 : Int32).toInt64 &&& 63)) ||| (((xs 5).toInt64) &&& 4294967295))) (n_cut (xs 3) ((((xs 6).toInt64) <<< ((32 : Int32).toInt64 &&& 63)) ||| (((xs 7).toInt64) &&& 4294967295)))))))), (m0, .inr (11, y0.set 9 (.int 0)))] H := hP
      have hD : va_D A [(h0, .inr (10, [.ref x0, .int 0, .ref x1, .ref x2, .ref x3, .ref x4, .ref x5, .ref x6, .ref x7, .ref x8, .int 0, .int 3000])), (o0, .inl (kA 1, 1, .inr (.inl (vp_updL (fun _ => 0) 0 (n_apply (xs 1) 0 (n_cut (xs 2) ((((xs 4).toInt64) <<< ((32 : Int32).toInt64 &&& 63)) ||| (((xs 5).toInt64) &&& 4294967295))) (n_cut (xs 3) ((((xs 6).toInt64) <<< ((32 : Int32).toInt64 &&& 63)) ||| (((xs 7).toInt64) &&& 4294967295)))))))), (m0, .inr (11, y0.set 9 (.int 0)))] := hD
      refine lv_lstore (lv' := [(6, .long (r_special ((xs 1) - 5) 0 (n_cut (xs 2) ((((xs 4).toInt64) <<< ((32 : Int32).toInt64 &&& 63)) ||| (((xs 5).toInt64) &&& 4294967295))) (n_cut (xs 3) ((((xs 6).toInt64) <<< ((32 : Int32).toInt64 &&& 63)) ||| (((xs 7).toInt64) &&& 4294967295))))), (5, .int 0), (0, .ref b), (1, .ref h0), (2, .ref m0), (3, .ref o0), (4, .int 0)]) hx hb dL_law_1772 hl (by decide) rfl (fun ls hl => ?_)
      refine lv_aload_n hx hb dL_law_1774 rfl (lv_at hl 4 rfl) ?_
      have hPc := hP.sub (ws' := [(m0, .inr (11, y0.set 9 (.int 0)))]) [2] rfl
      have hDc := hD.sub (ws' := [(m0, .inr (11, y0.set 9 (.int 0)))]) [2] (by decide) rfl
      have hFc := va_free (wc := [(m0, .inr (11, y0.set 9 (.int 0)))]) hD hS hA [2] rfl
      refine va_calli (va_runV (As := []) (rest := []) ⟨hx, hb, hml, hown, hts⟩ (a94_X12_thrown l  D kA V H.size m0 (y0.set 9 (.int 0)) (fun k hk => (by rw [List.length_set]; exact (hq k hk))) (List.getElem?_set_self (hq 9 (by decide)))) (cwV 0 hts (gw_V gw_1879 gw_1880 gw_1881 gw_16 gw_1882) rfl rfl rfl (by decide +kernel) ⟨(Nat.le_of_ble_eq_true rfl), (Nat.le_of_ble_eq_true rfl)⟩) ⟨aP.blind, va_recv hK hP (ci := 11) (q0 := 2) rfl rfl, aP.pre hE hS hPc hK hDc hFc⟩ rfl rfl hl.1 rfl (lv_room (Nat.le_of_ble_eq_true rfl)) dL_law_1775 ⟨(Nat.le_of_ble_eq_true rfl), (Nat.le_of_ble_eq_true rfl)⟩) hS (fun q _ h => hFc q h) hFc (fun r_3507 u t H1 locs ht hvm hw hB hz1 hk1 hS => ?_)
      obtain ⟨hP1, hD1⟩ := hB
      rw [ht] at hP1
      try dsimp only at hw hP1 hD1
      have w_3508 := hw
      subst w_3508
      obtain ⟨hP, hD⟩ := va_join (wr := [(h0, .inr (10, [.ref x0, .int 0, .ref x1, .ref x2, .ref x3, .ref x4, .ref x5, .ref x6, .ref x7, .ref x8, .int 0, .int 3000])), (o0, .inl (kA 1, 1, .inr (.inl (vp_updL (fun _ => 0) 0 (n_apply (xs 1) 0 (n_cut (xs 2) ((((xs 4).toInt64) <<< ((32 : Int32).toInt64 &&& 63)) ||| (((xs 5).toInt64) &&& 4294967295))) (n_cut (xs 3) ((((xs 6).toInt64) <<< ((32 : Int32).toInt64 &&& 63)) ||| (((xs 7).toInt64) &&& 4294967295))))))))]) (w1 := [(m0, .inr (11, (y0.set 9 (.int 0))))]) hP hD [2] [0, 1] rfl rfl (by decide) (by decide) hk1 hFc hP1 hD1
      generalize H1 = H at hP hS ⊢
      have hP : va_P D vwCl [(h0, .inr (10, [.ref x0, .int 0, .ref x1, .ref x2, .ref x3, .ref x4, .ref x5, .ref x6, .ref x7, .ref x8, .int 0, .int 3000])), (o0, .inl (kA 1, 1, .inr (.inl (vp_updL (fun _ => 0) 0 (n_apply (xs 1) 0 (n_cut (xs 2) ((((xs 4).toInt64) <<< ((32 : Int32).toInt64 &&& 63)) ||| (((xs 5).toInt64) &&& 4294967295))) (n_cut (xs 3) ((((xs 6).toInt64) <<< ((32 : Int32).toInt64 &&& 63)) ||| (((xs 7).toInt64) &&& 4294967295)))))))), (m0, .inr (11, (y0.set 9 (.int 0))))] H := hP
      have hD : va_D A [(h0, .inr (10, [.ref x0, .int 0, .ref x1, .ref x2, .ref x3, .ref x4, .ref x5, .ref x6, .ref x7, .ref x8, .int 0, .int 3000])), (o0, .inl (kA 1, 1, .inr (.inl (vp_updL (fun _ => 0) 0 (n_apply (xs 1) 0 (n_cut (xs 2) ((((xs 4).toInt64) <<< ((32 : Int32).toInt64 &&& 63)) ||| (((xs 5).toInt64) &&& 4294967295))) (n_cut (xs 3) ((((xs 6).toInt64) <<< ((32 : Int32).toInt64 &&& 63)) ||| (((xs 7).toInt64) &&& 4294967295)))))))), (m0, .inr (11, (y0.set 9 (.int 0))))] := hD
      refine lv_iload hx hb dL_law_1778 (lv_at hl 1 rfl) ?_
      refine lv_icmp_eq (tgt := 1785) hx hb dL_law_1780 (by decide) (fun c_3509 => ?_) (fun c_3509 => ?_)
      · skip
        refine lv_iload hx hb dL_law_1785 (lv_at hl 1 rfl) ?_
        refine lv_if_ne (tgt := 1801) hx hb dL_law_1787 (by decide) (fun c_3510 => ?_) (fun c_3510 => ?_)
        · exact absurd (by decide) c_3510
        · skip
          refine lv_aload_n hx hb dL_law_1790 rfl (lv_at hl 5 rfl) ?_
          refine lv_iconst (v := 0) hx hb dL_law_1791 (by decide) ?_
          refine va_lald hx hb hK hP 1 1 rfl rfl (show vp_in 0 1 by unfold vp_in; decide) dL_law_1792 ?_
          refine W.eq (g2 := F0 m 1793 ls [.long (n_apply (xs 1) 0 (n_cut (xs 2) ((((xs 4).toInt64) <<< ((32 : Int32).toInt64 &&& 63)) ||| (((xs 5).toInt64) &&& 4294967295))) (n_cut (xs 3) ((((xs 6).toInt64) <<< ((32 : Int32).toInt64 &&& 63)) ||| (((xs 7).toInt64) &&& 4294967295))))]) rfl ?_
          refine lv_lload hx hb dL_law_1793 (lv_at hl 0 rfl) ?_
          refine W.lcmp hx hb dL_law_1795 ?_
          refine lv_if_eq (tgt := 1801) hx hb dL_law_1796 (by decide) (fun c_3511 => ?_) (fun c_3511 => ?_)
          · skip
            refine lv_goto (tgt := 1804) hx hb dL_law_1801 (by decide) ?_
            exact lk_tail hC hA2 (lv_sub hl [2, 6] rfl) hS (Nat.le_of_ble_eq_true rfl) (Nat.le_of_ble_eq_true rfl)
          · exact absurd ((lg_cmp_eq _ _).mpr (qx_c0 c_3187 c_3188)) c_3511
      · exact absurd (by decide) c_3509
    · skip
      subst w_3200
      subst w_3201
      obtain ⟨hP, hD⟩ := va_join (wr := [(h0, .inr (10, [.ref x0, .int 0, .ref x1, .ref x2, .ref x3, .ref x4, .ref x5, .ref x6, .ref x7, .ref x8, .int 0, .int 3000])), (o0, .inl (kA 1, 1, .inr (.inl (vp_updL (fun _ => 0) 0 (n_apply (xs 1) 0 (n_cut (xs 2) ((((xs 4).toInt64) <<< ((32 : Int32).toInt64 &&& 63)) ||| (((xs 5).toInt64) &&& 4294967295))) (n_cut (xs 3) ((((xs 6).toInt64) <<< ((32 : Int32).toInt64 &&& 63)) ||| (((xs 7).toInt64) &&& 4294967295))))))))]) (w1 := [(m0, .inr (11, y0.set 9 (.int 0)))]) hP hD [0] [1, 2] rfl rfl (by decide) (by decide) hk1 hFc hP1 hD1
      generalize H1 = H at hP hS ⊢
      have hP : va_P D vwCl [(h0, .inr (10, [.ref x0, .int 0, .ref x1, .ref x2, .ref x3, .ref x4, .ref x5, .ref x6, .ref x7, .ref x8, .int 0, .int 3000])), (o0, .inl (kA 1, 1, .inr (.inl (vp_updL (fun _ => 0) 0 (n_apply (xs 1) 0 (n_cut (xs 2) ((((xs 4).toInt64) <<< ((32 : Int32).toInt64 &&& 63)) ||| (((xs 5).toInt64) &&& 4294967295))) (n_cut (xs 3) ((((xs 6).toInt64) <<< ((32 : Int32).toInt64 &&& 63)) ||| (((xs 7).toInt64) &&& 4294967295)))))))), (m0, .inr (11, y0.set 9 (.int 0)))] H := hP
      have hD : va_D A [(h0, .inr (10, [.ref x0, .int 0, .ref x1, .ref x2, .ref x3, .ref x4, .ref x5, .ref x6, .ref x7, .ref x8, .int 0, .int 3000])), (o0, .inl (kA 1, 1, .inr (.inl (vp_updL (fun _ => 0) 0 (n_apply (xs 1) 0 (n_cut (xs 2) ((((xs 4).toInt64) <<< ((32 : Int32).toInt64 &&& 63)) ||| (((xs 5).toInt64) &&& 4294967295))) (n_cut (xs 3) ((((xs 6).toInt64) <<< ((32 : Int32).toInt64 &&& 63)) ||| (((xs 7).toInt64) &&& 4294967295)))))))), (m0, .inr (11, y0.set 9 (.int 0)))] := hD
      refine lv_lstore (lv' := [(6, .long (r_special ((xs 1) - 5) 1 (n_cut (xs 2) ((((xs 4).toInt64) <<< ((32 : Int32).toInt64 &&& 63)) ||| (((xs 5).toInt64) &&& 4294967295))) (n_cut (xs 3) ((((xs 6).toInt64) <<< ((32 : Int32).toInt64 &&& 63)) ||| (((xs 7).toInt64) &&& 4294967295))))), (5, .int 0), (0, .ref b), (1, .ref h0), (2, .ref m0), (3, .ref o0), (4, .int 0)]) hx hb dL_law_1772 hl (by decide) rfl (fun ls hl => ?_)
      refine lv_aload_n hx hb dL_law_1774 rfl (lv_at hl 4 rfl) ?_
      have hPc := hP.sub (ws' := [(m0, .inr (11, y0.set 9 (.int 0)))]) [2] rfl
      have hDc := hD.sub (ws' := [(m0, .inr (11, y0.set 9 (.int 0)))]) [2] (by decide) rfl
      have hFc := va_free (wc := [(m0, .inr (11, y0.set 9 (.int 0)))]) hD hS hA [2] rfl
      refine va_calli (va_runV (As := []) (rest := []) ⟨hx, hb, hml, hown, hts⟩ (a94_X12_thrown l  D kA V H.size m0 (y0.set 9 (.int 0)) (fun k hk => (by rw [List.length_set]; exact (hq k hk))) (List.getElem?_set_self (hq 9 (by decide)))) (cwV 0 hts (gw_V gw_1879 gw_1880 gw_1881 gw_16 gw_1882) rfl rfl rfl (by decide +kernel) ⟨(Nat.le_of_ble_eq_true rfl), (Nat.le_of_ble_eq_true rfl)⟩) ⟨aP.blind, va_recv hK hP (ci := 11) (q0 := 2) rfl rfl, aP.pre hE hS hPc hK hDc hFc⟩ rfl rfl hl.1 rfl (lv_room (Nat.le_of_ble_eq_true rfl)) dL_law_1775 ⟨(Nat.le_of_ble_eq_true rfl), (Nat.le_of_ble_eq_true rfl)⟩) hS (fun q _ h => hFc q h) hFc (fun r_3512 u t H1 locs ht hvm hw hB hz1 hk1 hS => ?_)
      obtain ⟨hP1, hD1⟩ := hB
      rw [ht] at hP1
      try dsimp only at hw hP1 hD1
      have w_3513 := hw
      subst w_3513
      obtain ⟨hP, hD⟩ := va_join (wr := [(h0, .inr (10, [.ref x0, .int 0, .ref x1, .ref x2, .ref x3, .ref x4, .ref x5, .ref x6, .ref x7, .ref x8, .int 0, .int 3000])), (o0, .inl (kA 1, 1, .inr (.inl (vp_updL (fun _ => 0) 0 (n_apply (xs 1) 0 (n_cut (xs 2) ((((xs 4).toInt64) <<< ((32 : Int32).toInt64 &&& 63)) ||| (((xs 5).toInt64) &&& 4294967295))) (n_cut (xs 3) ((((xs 6).toInt64) <<< ((32 : Int32).toInt64 &&& 63)) ||| (((xs 7).toInt64) &&& 4294967295))))))))]) (w1 := [(m0, .inr (11, (y0.set 9 (.int 0))))]) hP hD [2] [0, 1] rfl rfl (by decide) (by decide) hk1 hFc hP1 hD1
      generalize H1 = H at hP hS ⊢
      have hP : va_P D vwCl [(h0, .inr (10, [.ref x0, .int 0, .ref x1, .ref x2, .ref x3, .ref x4, .ref x5, .ref x6, .ref x7, .ref x8, .int 0, .int 3000])), (o0, .inl (kA 1, 1, .inr (.inl (vp_updL (fun _ => 0) 0 (n_apply (xs 1) 0 (n_cut (xs 2) ((((xs 4).toInt64) <<< ((32 : Int32).toInt64 &&& 63)) ||| (((xs 5).toInt64) &&& 4294967295))) (n_cut (xs 3) ((((xs 6).toInt64) <<< ((32 : Int32).toInt64 &&& 63)) ||| (((xs 7).toInt64) &&& 4294967295)))))))), (m0, .inr (11, (y0.set 9 (.int 0))))] H := hP
      have hD : va_D A [(h0, .inr (10, [.ref x0, .int 0, .ref x1, .ref x2, .ref x3, .ref x4, .ref x5, .ref x6, .ref x7, .ref x8, .int 0, .int 3000])), (o0, .inl (kA 1, 1, .inr (.inl (vp_updL (fun _ => 0) 0 (n_apply (xs 1) 0 (n_cut (xs 2) ((((xs 4).toInt64) <<< ((32 : Int32).toInt64 &&& 63)) ||| (((xs 5).toInt64) &&& 4294967295))) (n_cut (xs 3) ((((xs 6).toInt64) <<< ((32 : Int32).toInt64 &&& 63)) ||| (((xs 7).toInt64) &&& 4294967295)))))))), (m0, .inr (11, (y0.set 9 (.int 0))))] := hD
      refine lv_iload hx hb dL_law_1778 (lv_at hl 1 rfl) ?_
      refine lv_icmp_eq (tgt := 1785) hx hb dL_law_1780 (by decide) (fun c_3514 => ?_) (fun c_3514 => ?_)
      · skip
        refine lv_iload hx hb dL_law_1785 (lv_at hl 1 rfl) ?_
        refine lv_if_ne (tgt := 1801) hx hb dL_law_1787 (by decide) (fun c_3515 => ?_) (fun c_3515 => ?_)
        · exact absurd (by decide) c_3515
        · skip
          refine lv_aload_n hx hb dL_law_1790 rfl (lv_at hl 5 rfl) ?_
          refine lv_iconst (v := 0) hx hb dL_law_1791 (by decide) ?_
          refine va_lald hx hb hK hP 1 1 rfl rfl (show vp_in 0 1 by unfold vp_in; decide) dL_law_1792 ?_
          refine W.eq (g2 := F0 m 1793 ls [.long (n_apply (xs 1) 0 (n_cut (xs 2) ((((xs 4).toInt64) <<< ((32 : Int32).toInt64 &&& 63)) ||| (((xs 5).toInt64) &&& 4294967295))) (n_cut (xs 3) ((((xs 6).toInt64) <<< ((32 : Int32).toInt64 &&& 63)) ||| (((xs 7).toInt64) &&& 4294967295))))]) rfl ?_
          refine lv_lload hx hb dL_law_1793 (lv_at hl 0 rfl) ?_
          refine W.lcmp hx hb dL_law_1795 ?_
          refine lv_if_eq (tgt := 1801) hx hb dL_law_1796 (by decide) (fun c_3516 => ?_) (fun c_3516 => ?_)
          · skip
            refine lv_goto (tgt := 1804) hx hb dL_law_1801 (by decide) ?_
            exact lk_tail hC hA2 (lv_sub hl [2, 6] rfl) hS (Nat.le_of_ble_eq_true rfl) (Nat.le_of_ble_eq_true rfl)
          · exact absurd ((lg_cmp_eq _ _).mpr (qx_b c_3198 c_3199)) c_3516
      · exact absurd (by decide) c_3514
    · skip
      subst w_3215
      subst w_3216
      obtain ⟨hP, hD⟩ := va_join (wr := [(h0, .inr (10, [.ref x0, .int 0, .ref x1, .ref x2, .ref x3, .ref x4, .ref x5, .ref x6, .ref x7, .ref x8, .int 0, .int 3000])), (o0, .inl (kA 1, 1, .inr (.inl (vp_updL (fun _ => 0) 0 (n_apply (xs 1) 0 (n_cut (xs 2) ((((xs 4).toInt64) <<< ((32 : Int32).toInt64 &&& 63)) ||| (((xs 5).toInt64) &&& 4294967295))) (n_cut (xs 3) ((((xs 6).toInt64) <<< ((32 : Int32).toInt64 &&& 63)) ||| (((xs 7).toInt64) &&& 4294967295))))))))]) (w1 := [(m0, .inr (11, y0.set 9 (.int 0)))]) hP hD [0] [1, 2] rfl rfl (by decide) (by decide) hk1 hFc hP1 hD1
      generalize H1 = H at hP hS ⊢
      have hP : va_P D vwCl [(h0, .inr (10, [.ref x0, .int 0, .ref x1, .ref x2, .ref x3, .ref x4, .ref x5, .ref x6, .ref x7, .ref x8, .int 0, .int 3000])), (o0, .inl (kA 1, 1, .inr (.inl (vp_updL (fun _ => 0) 0 (n_apply (xs 1) 0 (n_cut (xs 2) ((((xs 4).toInt64) <<< ((32 : Int32).toInt64 &&& 63)) ||| (((xs 5).toInt64) &&& 4294967295))) (n_cut (xs 3) ((((xs 6).toInt64) <<< ((32 : Int32).toInt64 &&& 63)) ||| (((xs 7).toInt64) &&& 4294967295)))))))), (m0, .inr (11, y0.set 9 (.int 0)))] H := hP
      have hD : va_D A [(h0, .inr (10, [.ref x0, .int 0, .ref x1, .ref x2, .ref x3, .ref x4, .ref x5, .ref x6, .ref x7, .ref x8, .int 0, .int 3000])), (o0, .inl (kA 1, 1, .inr (.inl (vp_updL (fun _ => 0) 0 (n_apply (xs 1) 0 (n_cut (xs 2) ((((xs 4).toInt64) <<< ((32 : Int32).toInt64 &&& 63)) ||| (((xs 5).toInt64) &&& 4294967295))) (n_cut (xs 3) ((((xs 6).toInt64) <<< ((32 : Int32).toInt64 &&& 63)) ||| (((xs 7).toInt64) &&& 4294967295)))))))), (m0, .inr (11, y0.set 9 (.int 0)))] := hD
      refine lv_lstore (lv' := [(6, .long (r_two 220 1 (n_cut (xs 2) ((((xs 4).toInt64) <<< ((32 : Int32).toInt64 &&& 63)) ||| (((xs 5).toInt64) &&& 4294967295))) (n_cut (xs 3) ((((xs 6).toInt64) <<< ((32 : Int32).toInt64 &&& 63)) ||| (((xs 7).toInt64) &&& 4294967295))))), (5, .int 0), (0, .ref b), (1, .ref h0), (2, .ref m0), (3, .ref o0), (4, .int 0)]) hx hb dL_law_1772 hl (by decide) rfl (fun ls hl => ?_)
      refine lv_aload_n hx hb dL_law_1774 rfl (lv_at hl 4 rfl) ?_
      have hPc := hP.sub (ws' := [(m0, .inr (11, y0.set 9 (.int 0)))]) [2] rfl
      have hDc := hD.sub (ws' := [(m0, .inr (11, y0.set 9 (.int 0)))]) [2] (by decide) rfl
      have hFc := va_free (wc := [(m0, .inr (11, y0.set 9 (.int 0)))]) hD hS hA [2] rfl
      refine va_calli (va_runV (As := []) (rest := []) ⟨hx, hb, hml, hown, hts⟩ (a94_X12_thrown l  D kA V H.size m0 (y0.set 9 (.int 0)) (fun k hk => (by rw [List.length_set]; exact (hq k hk))) (List.getElem?_set_self (hq 9 (by decide)))) (cwV 0 hts (gw_V gw_1879 gw_1880 gw_1881 gw_16 gw_1882) rfl rfl rfl (by decide +kernel) ⟨(Nat.le_of_ble_eq_true rfl), (Nat.le_of_ble_eq_true rfl)⟩) ⟨aP.blind, va_recv hK hP (ci := 11) (q0 := 2) rfl rfl, aP.pre hE hS hPc hK hDc hFc⟩ rfl rfl hl.1 rfl (lv_room (Nat.le_of_ble_eq_true rfl)) dL_law_1775 ⟨(Nat.le_of_ble_eq_true rfl), (Nat.le_of_ble_eq_true rfl)⟩) hS (fun q _ h => hFc q h) hFc (fun r_3517 u t H1 locs ht hvm hw hB hz1 hk1 hS => ?_)
      obtain ⟨hP1, hD1⟩ := hB
      rw [ht] at hP1
      try dsimp only at hw hP1 hD1
      have w_3518 := hw
      subst w_3518
      obtain ⟨hP, hD⟩ := va_join (wr := [(h0, .inr (10, [.ref x0, .int 0, .ref x1, .ref x2, .ref x3, .ref x4, .ref x5, .ref x6, .ref x7, .ref x8, .int 0, .int 3000])), (o0, .inl (kA 1, 1, .inr (.inl (vp_updL (fun _ => 0) 0 (n_apply (xs 1) 0 (n_cut (xs 2) ((((xs 4).toInt64) <<< ((32 : Int32).toInt64 &&& 63)) ||| (((xs 5).toInt64) &&& 4294967295))) (n_cut (xs 3) ((((xs 6).toInt64) <<< ((32 : Int32).toInt64 &&& 63)) ||| (((xs 7).toInt64) &&& 4294967295))))))))]) (w1 := [(m0, .inr (11, (y0.set 9 (.int 0))))]) hP hD [2] [0, 1] rfl rfl (by decide) (by decide) hk1 hFc hP1 hD1
      generalize H1 = H at hP hS ⊢
      have hP : va_P D vwCl [(h0, .inr (10, [.ref x0, .int 0, .ref x1, .ref x2, .ref x3, .ref x4, .ref x5, .ref x6, .ref x7, .ref x8, .int 0, .int 3000])), (o0, .inl (kA 1, 1, .inr (.inl (vp_updL (fun _ => 0) 0 (n_apply (xs 1) 0 (n_cut (xs 2) ((((xs 4).toInt64) <<< ((32 : Int32).toInt64 &&& 63)) ||| (((xs 5).toInt64) &&& 4294967295))) (n_cut (xs 3) ((((xs 6).toInt64) <<< ((32 : Int32).toInt64 &&& 63)) ||| (((xs 7).toInt64) &&& 4294967295)))))))), (m0, .inr (11, (y0.set 9 (.int 0))))] H := hP
      have hD : va_D A [(h0, .inr (10, [.ref x0, .int 0, .ref x1, .ref x2, .ref x3, .ref x4, .ref x5, .ref x6, .ref x7, .ref x8, .int 0, .int 3000])), (o0, .inl (kA 1, 1, .inr (.inl (vp_updL (fun _ => 0) 0 (n_apply (xs 1) 0 (n_cut (xs 2) ((((xs 4).toInt64) <<< ((32 : Int32).toInt64 &&& 63)) ||| (((xs 5).toInt64) &&& 4294967295))) (n_cut (xs 3) ((((xs 6).toInt64) <<< ((32 : Int32).toInt64 &&& 63)) ||| (((xs 7).toInt64) &&& 4294967295)))))))), (m0, .inr (11, (y0.set 9 (.int 0))))] := hD
      refine lv_iload hx hb dL_law_1778 (lv_at hl 1 rfl) ?_
      refine lv_icmp_eq (tgt := 1785) hx hb dL_law_1780 (by decide) (fun c_3519 => ?_) (fun c_3519 => ?_)
      · skip
        refine lv_iload hx hb dL_law_1785 (lv_at hl 1 rfl) ?_
        refine lv_if_ne (tgt := 1801) hx hb dL_law_1787 (by decide) (fun c_3520 => ?_) (fun c_3520 => ?_)
        · exact absurd (by decide) c_3520
        · skip
          refine lv_aload_n hx hb dL_law_1790 rfl (lv_at hl 5 rfl) ?_
          refine lv_iconst (v := 0) hx hb dL_law_1791 (by decide) ?_
          refine va_lald hx hb hK hP 1 1 rfl rfl (show vp_in 0 1 by unfold vp_in; decide) dL_law_1792 ?_
          refine W.eq (g2 := F0 m 1793 ls [.long (n_apply (xs 1) 0 (n_cut (xs 2) ((((xs 4).toInt64) <<< ((32 : Int32).toInt64 &&& 63)) ||| (((xs 5).toInt64) &&& 4294967295))) (n_cut (xs 3) ((((xs 6).toInt64) <<< ((32 : Int32).toInt64 &&& 63)) ||| (((xs 7).toInt64) &&& 4294967295))))]) rfl ?_
          refine lv_lload hx hb dL_law_1793 (lv_at hl 0 rfl) ?_
          refine W.lcmp hx hb dL_law_1795 ?_
          refine lv_if_eq (tgt := 1801) hx hb dL_law_1796 (by decide) (fun c_3521 => ?_) (fun c_3521 => ?_)
          · skip
            refine lv_goto (tgt := 1804) hx hb dL_law_1801 (by decide) ?_
            exact lk_tail hC hA2 (lv_sub hl [2, 6] rfl) hS (Nat.le_of_ble_eq_true rfl) (Nat.le_of_ble_eq_true rfl)
          · exact absurd ((lg_cmp_eq _ _).mpr (qx_a c_40 c_3209 (by unfold q_cmp; rw [if_neg c_3210, if_neg c_3211, if_neg c_3212, if_neg c_3213, if_neg c_3214]))) c_3521
      · exact absurd (by decide) c_3519
    · skip
      subst w_3230
      subst w_3231
      obtain ⟨hP, hD⟩ := va_join (wr := [(h0, .inr (10, [.ref x0, .int 0, .ref x1, .ref x2, .ref x3, .ref x4, .ref x5, .ref x6, .ref x7, .ref x8, .int 0, .int 3000])), (o0, .inl (kA 1, 1, .inr (.inl (vp_updL (fun _ => 0) 0 (n_apply (xs 1) 0 (n_cut (xs 2) ((((xs 4).toInt64) <<< ((32 : Int32).toInt64 &&& 63)) ||| (((xs 5).toInt64) &&& 4294967295))) (n_cut (xs 3) ((((xs 6).toInt64) <<< ((32 : Int32).toInt64 &&& 63)) ||| (((xs 7).toInt64) &&& 4294967295))))))))]) (w1 := [(m0, .inr (11, y0.set 9 (.int 0)))]) hP hD [0] [1, 2] rfl rfl (by decide) (by decide) hk1 hFc hP1 hD1
      generalize H1 = H at hP hS ⊢
      have hP : va_P D vwCl [(h0, .inr (10, [.ref x0, .int 0, .ref x1, .ref x2, .ref x3, .ref x4, .ref x5, .ref x6, .ref x7, .ref x8, .int 0, .int 3000])), (o0, .inl (kA 1, 1, .inr (.inl (vp_updL (fun _ => 0) 0 (n_apply (xs 1) 0 (n_cut (xs 2) ((((xs 4).toInt64) <<< ((32 : Int32).toInt64 &&& 63)) ||| (((xs 5).toInt64) &&& 4294967295))) (n_cut (xs 3) ((((xs 6).toInt64) <<< ((32 : Int32).toInt64 &&& 63)) ||| (((xs 7).toInt64) &&& 4294967295)))))))), (m0, .inr (11, y0.set 9 (.int 0)))] H := hP
      have hD : va_D A [(h0, .inr (10, [.ref x0, .int 0, .ref x1, .ref x2, .ref x3, .ref x4, .ref x5, .ref x6, .ref x7, .ref x8, .int 0, .int 3000])), (o0, .inl (kA 1, 1, .inr (.inl (vp_updL (fun _ => 0) 0 (n_apply (xs 1) 0 (n_cut (xs 2) ((((xs 4).toInt64) <<< ((32 : Int32).toInt64 &&& 63)) ||| (((xs 5).toInt64) &&& 4294967295))) (n_cut (xs 3) ((((xs 6).toInt64) <<< ((32 : Int32).toInt64 &&& 63)) ||| (((xs 7).toInt64) &&& 4294967295)))))))), (m0, .inr (11, y0.set 9 (.int 0)))] := hD
      refine lv_lstore (lv' := [(6, .long (r_two 239 1 (n_cut (xs 2) ((((xs 4).toInt64) <<< ((32 : Int32).toInt64 &&& 63)) ||| (((xs 5).toInt64) &&& 4294967295))) (n_cut (xs 3) ((((xs 6).toInt64) <<< ((32 : Int32).toInt64 &&& 63)) ||| (((xs 7).toInt64) &&& 4294967295))))), (5, .int 0), (0, .ref b), (1, .ref h0), (2, .ref m0), (3, .ref o0), (4, .int 0)]) hx hb dL_law_1772 hl (by decide) rfl (fun ls hl => ?_)
      refine lv_aload_n hx hb dL_law_1774 rfl (lv_at hl 4 rfl) ?_
      have hPc := hP.sub (ws' := [(m0, .inr (11, y0.set 9 (.int 0)))]) [2] rfl
      have hDc := hD.sub (ws' := [(m0, .inr (11, y0.set 9 (.int 0)))]) [2] (by decide) rfl
      have hFc := va_free (wc := [(m0, .inr (11, y0.set 9 (.int 0)))]) hD hS hA [2] rfl
      refine va_calli (va_runV (As := []) (rest := []) ⟨hx, hb, hml, hown, hts⟩ (a94_X12_thrown l  D kA V H.size m0 (y0.set 9 (.int 0)) (fun k hk => (by rw [List.length_set]; exact (hq k hk))) (List.getElem?_set_self (hq 9 (by decide)))) (cwV 0 hts (gw_V gw_1879 gw_1880 gw_1881 gw_16 gw_1882) rfl rfl rfl (by decide +kernel) ⟨(Nat.le_of_ble_eq_true rfl), (Nat.le_of_ble_eq_true rfl)⟩) ⟨aP.blind, va_recv hK hP (ci := 11) (q0 := 2) rfl rfl, aP.pre hE hS hPc hK hDc hFc⟩ rfl rfl hl.1 rfl (lv_room (Nat.le_of_ble_eq_true rfl)) dL_law_1775 ⟨(Nat.le_of_ble_eq_true rfl), (Nat.le_of_ble_eq_true rfl)⟩) hS (fun q _ h => hFc q h) hFc (fun r_3522 u t H1 locs ht hvm hw hB hz1 hk1 hS => ?_)
      obtain ⟨hP1, hD1⟩ := hB
      rw [ht] at hP1
      try dsimp only at hw hP1 hD1
      have w_3523 := hw
      subst w_3523
      obtain ⟨hP, hD⟩ := va_join (wr := [(h0, .inr (10, [.ref x0, .int 0, .ref x1, .ref x2, .ref x3, .ref x4, .ref x5, .ref x6, .ref x7, .ref x8, .int 0, .int 3000])), (o0, .inl (kA 1, 1, .inr (.inl (vp_updL (fun _ => 0) 0 (n_apply (xs 1) 0 (n_cut (xs 2) ((((xs 4).toInt64) <<< ((32 : Int32).toInt64 &&& 63)) ||| (((xs 5).toInt64) &&& 4294967295))) (n_cut (xs 3) ((((xs 6).toInt64) <<< ((32 : Int32).toInt64 &&& 63)) ||| (((xs 7).toInt64) &&& 4294967295))))))))]) (w1 := [(m0, .inr (11, (y0.set 9 (.int 0))))]) hP hD [2] [0, 1] rfl rfl (by decide) (by decide) hk1 hFc hP1 hD1
      generalize H1 = H at hP hS ⊢
      have hP : va_P D vwCl [(h0, .inr (10, [.ref x0, .int 0, .ref x1, .ref x2, .ref x3, .ref x4, .ref x5, .ref x6, .ref x7, .ref x8, .int 0, .int 3000])), (o0, .inl (kA 1, 1, .inr (.inl (vp_updL (fun _ => 0) 0 (n_apply (xs 1) 0 (n_cut (xs 2) ((((xs 4).toInt64) <<< ((32 : Int32).toInt64 &&& 63)) ||| (((xs 5).toInt64) &&& 4294967295))) (n_cut (xs 3) ((((xs 6).toInt64) <<< ((32 : Int32).toInt64 &&& 63)) ||| (((xs 7).toInt64) &&& 4294967295)))))))), (m0, .inr (11, (y0.set 9 (.int 0))))] H := hP
      have hD : va_D A [(h0, .inr (10, [.ref x0, .int 0, .ref x1, .ref x2, .ref x3, .ref x4, .ref x5, .ref x6, .ref x7, .ref x8, .int 0, .int 3000])), (o0, .inl (kA 1, 1, .inr (.inl (vp_updL (fun _ => 0) 0 (n_apply (xs 1) 0 (n_cut (xs 2) ((((xs 4).toInt64) <<< ((32 : Int32).toInt64 &&& 63)) ||| (((xs 5).toInt64) &&& 4294967295))) (n_cut (xs 3) ((((xs 6).toInt64) <<< ((32 : Int32).toInt64 &&& 63)) ||| (((xs 7).toInt64) &&& 4294967295)))))))), (m0, .inr (11, (y0.set 9 (.int 0))))] := hD
      refine lv_iload hx hb dL_law_1778 (lv_at hl 1 rfl) ?_
      refine lv_icmp_eq (tgt := 1785) hx hb dL_law_1780 (by decide) (fun c_3524 => ?_) (fun c_3524 => ?_)
      · skip
        refine lv_iload hx hb dL_law_1785 (lv_at hl 1 rfl) ?_
        refine lv_if_ne (tgt := 1801) hx hb dL_law_1787 (by decide) (fun c_3525 => ?_) (fun c_3525 => ?_)
        · exact absurd (by decide) c_3525
        · skip
          refine lv_aload_n hx hb dL_law_1790 rfl (lv_at hl 5 rfl) ?_
          refine lv_iconst (v := 0) hx hb dL_law_1791 (by decide) ?_
          refine va_lald hx hb hK hP 1 1 rfl rfl (show vp_in 0 1 by unfold vp_in; decide) dL_law_1792 ?_
          refine W.eq (g2 := F0 m 1793 ls [.long (n_apply (xs 1) 0 (n_cut (xs 2) ((((xs 4).toInt64) <<< ((32 : Int32).toInt64 &&& 63)) ||| (((xs 5).toInt64) &&& 4294967295))) (n_cut (xs 3) ((((xs 6).toInt64) <<< ((32 : Int32).toInt64 &&& 63)) ||| (((xs 7).toInt64) &&& 4294967295))))]) rfl ?_
          refine lv_lload hx hb dL_law_1793 (lv_at hl 0 rfl) ?_
          refine W.lcmp hx hb dL_law_1795 ?_
          refine lv_if_eq (tgt := 1801) hx hb dL_law_1796 (by decide) (fun c_3526 => ?_) (fun c_3526 => ?_)
          · skip
            refine lv_goto (tgt := 1804) hx hb dL_law_1801 (by decide) ?_
            exact lk_tail hC hA2 (lv_sub hl [2, 6] rfl) hS (Nat.le_of_ble_eq_true rfl) (Nat.le_of_ble_eq_true rfl)
          · exact absurd ((lg_cmp_eq _ _).mpr (qx_a c_40 c_3224 (by rw [c_3229]; decide))) c_3526
      · exact absurd (by decide) c_3524
    · skip
      subst w_3244
      subst w_3245
      obtain ⟨hP, hD⟩ := va_join (wr := [(h0, .inr (10, [.ref x0, .int 0, .ref x1, .ref x2, .ref x3, .ref x4, .ref x5, .ref x6, .ref x7, .ref x8, .int 0, .int 3000])), (o0, .inl (kA 1, 1, .inr (.inl (vp_updL (fun _ => 0) 0 (n_apply (xs 1) 0 (n_cut (xs 2) ((((xs 4).toInt64) <<< ((32 : Int32).toInt64 &&& 63)) ||| (((xs 5).toInt64) &&& 4294967295))) (n_cut (xs 3) ((((xs 6).toInt64) <<< ((32 : Int32).toInt64 &&& 63)) ||| (((xs 7).toInt64) &&& 4294967295))))))))]) (w1 := [(m0, .inr (11, y0.set 9 (.int 0)))]) hP hD [0] [1, 2] rfl rfl (by decide) (by decide) hk1 hFc hP1 hD1
      generalize H1 = H at hP hS ⊢
      have hP : va_P D vwCl [(h0, .inr (10, [.ref x0, .int 0, .ref x1, .ref x2, .ref x3, .ref x4, .ref x5, .ref x6, .ref x7, .ref x8, .int 0, .int 3000])), (o0, .inl (kA 1, 1, .inr (.inl (vp_updL (fun _ => 0) 0 (n_apply (xs 1) 0 (n_cut (xs 2) ((((xs 4).toInt64) <<< ((32 : Int32).toInt64 &&& 63)) ||| (((xs 5).toInt64) &&& 4294967295))) (n_cut (xs 3) ((((xs 6).toInt64) <<< ((32 : Int32).toInt64 &&& 63)) ||| (((xs 7).toInt64) &&& 4294967295)))))))), (m0, .inr (11, y0.set 9 (.int 0)))] H := hP
      have hD : va_D A [(h0, .inr (10, [.ref x0, .int 0, .ref x1, .ref x2, .ref x3, .ref x4, .ref x5, .ref x6, .ref x7, .ref x8, .int 0, .int 3000])), (o0, .inl (kA 1, 1, .inr (.inl (vp_updL (fun _ => 0) 0 (n_apply (xs 1) 0 (n_cut (xs 2) ((((xs 4).toInt64) <<< ((32 : Int32).toInt64 &&& 63)) ||| (((xs 5).toInt64) &&& 4294967295))) (n_cut (xs 3) ((((xs 6).toInt64) <<< ((32 : Int32).toInt64 &&& 63)) ||| (((xs 7).toInt64) &&& 4294967295)))))))), (m0, .inr (11, y0.set 9 (.int 0)))] := hD
      refine lv_lstore (lv' := [(6, .long (r_two 219 1 (n_cut (xs 2) ((((xs 4).toInt64) <<< ((32 : Int32).toInt64 &&& 63)) ||| (((xs 5).toInt64) &&& 4294967295))) (n_cut (xs 3) ((((xs 6).toInt64) <<< ((32 : Int32).toInt64 &&& 63)) ||| (((xs 7).toInt64) &&& 4294967295))))), (5, .int 0), (0, .ref b), (1, .ref h0), (2, .ref m0), (3, .ref o0), (4, .int 0)]) hx hb dL_law_1772 hl (by decide) rfl (fun ls hl => ?_)
      refine lv_aload_n hx hb dL_law_1774 rfl (lv_at hl 4 rfl) ?_
      have hPc := hP.sub (ws' := [(m0, .inr (11, y0.set 9 (.int 0)))]) [2] rfl
      have hDc := hD.sub (ws' := [(m0, .inr (11, y0.set 9 (.int 0)))]) [2] (by decide) rfl
      have hFc := va_free (wc := [(m0, .inr (11, y0.set 9 (.int 0)))]) hD hS hA [2] rfl
      refine va_calli (va_runV (As := []) (rest := []) ⟨hx, hb, hml, hown, hts⟩ (a94_X12_thrown l  D kA V H.size m0 (y0.set 9 (.int 0)) (fun k hk => (by rw [List.length_set]; exact (hq k hk))) (List.getElem?_set_self (hq 9 (by decide)))) (cwV 0 hts (gw_V gw_1879 gw_1880 gw_1881 gw_16 gw_1882) rfl rfl rfl (by decide +kernel) ⟨(Nat.le_of_ble_eq_true rfl), (Nat.le_of_ble_eq_true rfl)⟩) ⟨aP.blind, va_recv hK hP (ci := 11) (q0 := 2) rfl rfl, aP.pre hE hS hPc hK hDc hFc⟩ rfl rfl hl.1 rfl (lv_room (Nat.le_of_ble_eq_true rfl)) dL_law_1775 ⟨(Nat.le_of_ble_eq_true rfl), (Nat.le_of_ble_eq_true rfl)⟩) hS (fun q _ h => hFc q h) hFc (fun r_3527 u t H1 locs ht hvm hw hB hz1 hk1 hS => ?_)
      obtain ⟨hP1, hD1⟩ := hB
      rw [ht] at hP1
      try dsimp only at hw hP1 hD1
      have w_3528 := hw
      subst w_3528
      obtain ⟨hP, hD⟩ := va_join (wr := [(h0, .inr (10, [.ref x0, .int 0, .ref x1, .ref x2, .ref x3, .ref x4, .ref x5, .ref x6, .ref x7, .ref x8, .int 0, .int 3000])), (o0, .inl (kA 1, 1, .inr (.inl (vp_updL (fun _ => 0) 0 (n_apply (xs 1) 0 (n_cut (xs 2) ((((xs 4).toInt64) <<< ((32 : Int32).toInt64 &&& 63)) ||| (((xs 5).toInt64) &&& 4294967295))) (n_cut (xs 3) ((((xs 6).toInt64) <<< ((32 : Int32).toInt64 &&& 63)) ||| (((xs 7).toInt64) &&& 4294967295))))))))]) (w1 := [(m0, .inr (11, (y0.set 9 (.int 0))))]) hP hD [2] [0, 1] rfl rfl (by decide) (by decide) hk1 hFc hP1 hD1
      generalize H1 = H at hP hS ⊢
      have hP : va_P D vwCl [(h0, .inr (10, [.ref x0, .int 0, .ref x1, .ref x2, .ref x3, .ref x4, .ref x5, .ref x6, .ref x7, .ref x8, .int 0, .int 3000])), (o0, .inl (kA 1, 1, .inr (.inl (vp_updL (fun _ => 0) 0 (n_apply (xs 1) 0 (n_cut (xs 2) ((((xs 4).toInt64) <<< ((32 : Int32).toInt64 &&& 63)) ||| (((xs 5).toInt64) &&& 4294967295))) (n_cut (xs 3) ((((xs 6).toInt64) <<< ((32 : Int32).toInt64 &&& 63)) ||| (((xs 7).toInt64) &&& 4294967295)))))))), (m0, .inr (11, (y0.set 9 (.int 0))))] H := hP
      have hD : va_D A [(h0, .inr (10, [.ref x0, .int 0, .ref x1, .ref x2, .ref x3, .ref x4, .ref x5, .ref x6, .ref x7, .ref x8, .int 0, .int 3000])), (o0, .inl (kA 1, 1, .inr (.inl (vp_updL (fun _ => 0) 0 (n_apply (xs 1) 0 (n_cut (xs 2) ((((xs 4).toInt64) <<< ((32 : Int32).toInt64 &&& 63)) ||| (((xs 5).toInt64) &&& 4294967295))) (n_cut (xs 3) ((((xs 6).toInt64) <<< ((32 : Int32).toInt64 &&& 63)) ||| (((xs 7).toInt64) &&& 4294967295)))))))), (m0, .inr (11, (y0.set 9 (.int 0))))] := hD
      refine lv_iload hx hb dL_law_1778 (lv_at hl 1 rfl) ?_
      refine lv_icmp_eq (tgt := 1785) hx hb dL_law_1780 (by decide) (fun c_3529 => ?_) (fun c_3529 => ?_)
      · skip
        refine lv_iload hx hb dL_law_1785 (lv_at hl 1 rfl) ?_
        refine lv_if_ne (tgt := 1801) hx hb dL_law_1787 (by decide) (fun c_3530 => ?_) (fun c_3530 => ?_)
        · exact absurd (by decide) c_3530
        · skip
          refine lv_aload_n hx hb dL_law_1790 rfl (lv_at hl 5 rfl) ?_
          refine lv_iconst (v := 0) hx hb dL_law_1791 (by decide) ?_
          refine va_lald hx hb hK hP 1 1 rfl rfl (show vp_in 0 1 by unfold vp_in; decide) dL_law_1792 ?_
          refine W.eq (g2 := F0 m 1793 ls [.long (n_apply (xs 1) 0 (n_cut (xs 2) ((((xs 4).toInt64) <<< ((32 : Int32).toInt64 &&& 63)) ||| (((xs 5).toInt64) &&& 4294967295))) (n_cut (xs 3) ((((xs 6).toInt64) <<< ((32 : Int32).toInt64 &&& 63)) ||| (((xs 7).toInt64) &&& 4294967295))))]) rfl ?_
          refine lv_lload hx hb dL_law_1793 (lv_at hl 0 rfl) ?_
          refine W.lcmp hx hb dL_law_1795 ?_
          refine lv_if_eq (tgt := 1801) hx hb dL_law_1796 (by decide) (fun c_3531 => ?_) (fun c_3531 => ?_)
          · skip
            refine lv_goto (tgt := 1804) hx hb dL_law_1801 (by decide) ?_
            exact lk_tail hC hA2 (lv_sub hl [2, 6] rfl) hS (Nat.le_of_ble_eq_true rfl) (Nat.le_of_ble_eq_true rfl)
          · exact absurd ((lg_cmp_eq _ _).mpr (qx_a c_40 c_3239 (by rw [c_3243]; decide))) c_3531
      · exact absurd (by decide) c_3529
    · skip
      subst w_3257
      subst w_3258
      obtain ⟨hP, hD⟩ := va_join (wr := [(h0, .inr (10, [.ref x0, .int 0, .ref x1, .ref x2, .ref x3, .ref x4, .ref x5, .ref x6, .ref x7, .ref x8, .int 0, .int 3000])), (o0, .inl (kA 1, 1, .inr (.inl (vp_updL (fun _ => 0) 0 (n_apply (xs 1) 0 (n_cut (xs 2) ((((xs 4).toInt64) <<< ((32 : Int32).toInt64 &&& 63)) ||| (((xs 5).toInt64) &&& 4294967295))) (n_cut (xs 3) ((((xs 6).toInt64) <<< ((32 : Int32).toInt64 &&& 63)) ||| (((xs 7).toInt64) &&& 4294967295))))))))]) (w1 := [(m0, .inr (11, y0.set 9 (.int 0)))]) hP hD [0] [1, 2] rfl rfl (by decide) (by decide) hk1 hFc hP1 hD1
      generalize H1 = H at hP hS ⊢
      have hP : va_P D vwCl [(h0, .inr (10, [.ref x0, .int 0, .ref x1, .ref x2, .ref x3, .ref x4, .ref x5, .ref x6, .ref x7, .ref x8, .int 0, .int 3000])), (o0, .inl (kA 1, 1, .inr (.inl (vp_updL (fun _ => 0) 0 (n_apply (xs 1) 0 (n_cut (xs 2) ((((xs 4).toInt64) <<< ((32 : Int32).toInt64 &&& 63)) ||| (((xs 5).toInt64) &&& 4294967295))) (n_cut (xs 3) ((((xs 6).toInt64) <<< ((32 : Int32).toInt64 &&& 63)) ||| (((xs 7).toInt64) &&& 4294967295)))))))), (m0, .inr (11, y0.set 9 (.int 0)))] H := hP
      have hD : va_D A [(h0, .inr (10, [.ref x0, .int 0, .ref x1, .ref x2, .ref x3, .ref x4, .ref x5, .ref x6, .ref x7, .ref x8, .int 0, .int 3000])), (o0, .inl (kA 1, 1, .inr (.inl (vp_updL (fun _ => 0) 0 (n_apply (xs 1) 0 (n_cut (xs 2) ((((xs 4).toInt64) <<< ((32 : Int32).toInt64 &&& 63)) ||| (((xs 5).toInt64) &&& 4294967295))) (n_cut (xs 3) ((((xs 6).toInt64) <<< ((32 : Int32).toInt64 &&& 63)) ||| (((xs 7).toInt64) &&& 4294967295)))))))), (m0, .inr (11, y0.set 9 (.int 0)))] := hD
      refine lv_lstore (lv' := [(6, .long (r_two 238 1 (n_cut (xs 2) ((((xs 4).toInt64) <<< ((32 : Int32).toInt64 &&& 63)) ||| (((xs 5).toInt64) &&& 4294967295))) (n_cut (xs 3) ((((xs 6).toInt64) <<< ((32 : Int32).toInt64 &&& 63)) ||| (((xs 7).toInt64) &&& 4294967295))))), (5, .int 0), (0, .ref b), (1, .ref h0), (2, .ref m0), (3, .ref o0), (4, .int 0)]) hx hb dL_law_1772 hl (by decide) rfl (fun ls hl => ?_)
      refine lv_aload_n hx hb dL_law_1774 rfl (lv_at hl 4 rfl) ?_
      have hPc := hP.sub (ws' := [(m0, .inr (11, y0.set 9 (.int 0)))]) [2] rfl
      have hDc := hD.sub (ws' := [(m0, .inr (11, y0.set 9 (.int 0)))]) [2] (by decide) rfl
      have hFc := va_free (wc := [(m0, .inr (11, y0.set 9 (.int 0)))]) hD hS hA [2] rfl
      refine va_calli (va_runV (As := []) (rest := []) ⟨hx, hb, hml, hown, hts⟩ (a94_X12_thrown l  D kA V H.size m0 (y0.set 9 (.int 0)) (fun k hk => (by rw [List.length_set]; exact (hq k hk))) (List.getElem?_set_self (hq 9 (by decide)))) (cwV 0 hts (gw_V gw_1879 gw_1880 gw_1881 gw_16 gw_1882) rfl rfl rfl (by decide +kernel) ⟨(Nat.le_of_ble_eq_true rfl), (Nat.le_of_ble_eq_true rfl)⟩) ⟨aP.blind, va_recv hK hP (ci := 11) (q0 := 2) rfl rfl, aP.pre hE hS hPc hK hDc hFc⟩ rfl rfl hl.1 rfl (lv_room (Nat.le_of_ble_eq_true rfl)) dL_law_1775 ⟨(Nat.le_of_ble_eq_true rfl), (Nat.le_of_ble_eq_true rfl)⟩) hS (fun q _ h => hFc q h) hFc (fun r_3532 u t H1 locs ht hvm hw hB hz1 hk1 hS => ?_)
      obtain ⟨hP1, hD1⟩ := hB
      rw [ht] at hP1
      try dsimp only at hw hP1 hD1
      have w_3533 := hw
      subst w_3533
      obtain ⟨hP, hD⟩ := va_join (wr := [(h0, .inr (10, [.ref x0, .int 0, .ref x1, .ref x2, .ref x3, .ref x4, .ref x5, .ref x6, .ref x7, .ref x8, .int 0, .int 3000])), (o0, .inl (kA 1, 1, .inr (.inl (vp_updL (fun _ => 0) 0 (n_apply (xs 1) 0 (n_cut (xs 2) ((((xs 4).toInt64) <<< ((32 : Int32).toInt64 &&& 63)) ||| (((xs 5).toInt64) &&& 4294967295))) (n_cut (xs 3) ((((xs 6).toInt64) <<< ((32 : Int32).toInt64 &&& 63)) ||| (((xs 7).toInt64) &&& 4294967295))))))))]) (w1 := [(m0, .inr (11, (y0.set 9 (.int 0))))]) hP hD [2] [0, 1] rfl rfl (by decide) (by decide) hk1 hFc hP1 hD1
      generalize H1 = H at hP hS ⊢
      have hP : va_P D vwCl [(h0, .inr (10, [.ref x0, .int 0, .ref x1, .ref x2, .ref x3, .ref x4, .ref x5, .ref x6, .ref x7, .ref x8, .int 0, .int 3000])), (o0, .inl (kA 1, 1, .inr (.inl (vp_updL (fun _ => 0) 0 (n_apply (xs 1) 0 (n_cut (xs 2) ((((xs 4).toInt64) <<< ((32 : Int32).toInt64 &&& 63)) ||| (((xs 5).toInt64) &&& 4294967295))) (n_cut (xs 3) ((((xs 6).toInt64) <<< ((32 : Int32).toInt64 &&& 63)) ||| (((xs 7).toInt64) &&& 4294967295)))))))), (m0, .inr (11, (y0.set 9 (.int 0))))] H := hP
      have hD : va_D A [(h0, .inr (10, [.ref x0, .int 0, .ref x1, .ref x2, .ref x3, .ref x4, .ref x5, .ref x6, .ref x7, .ref x8, .int 0, .int 3000])), (o0, .inl (kA 1, 1, .inr (.inl (vp_updL (fun _ => 0) 0 (n_apply (xs 1) 0 (n_cut (xs 2) ((((xs 4).toInt64) <<< ((32 : Int32).toInt64 &&& 63)) ||| (((xs 5).toInt64) &&& 4294967295))) (n_cut (xs 3) ((((xs 6).toInt64) <<< ((32 : Int32).toInt64 &&& 63)) ||| (((xs 7).toInt64) &&& 4294967295)))))))), (m0, .inr (11, (y0.set 9 (.int 0))))] := hD
      refine lv_iload hx hb dL_law_1778 (lv_at hl 1 rfl) ?_
      refine lv_icmp_eq (tgt := 1785) hx hb dL_law_1780 (by decide) (fun c_3534 => ?_) (fun c_3534 => ?_)
      · skip
        refine lv_iload hx hb dL_law_1785 (lv_at hl 1 rfl) ?_
        refine lv_if_ne (tgt := 1801) hx hb dL_law_1787 (by decide) (fun c_3535 => ?_) (fun c_3535 => ?_)
        · exact absurd (by decide) c_3535
        · skip
          refine lv_aload_n hx hb dL_law_1790 rfl (lv_at hl 5 rfl) ?_
          refine lv_iconst (v := 0) hx hb dL_law_1791 (by decide) ?_
          refine va_lald hx hb hK hP 1 1 rfl rfl (show vp_in 0 1 by unfold vp_in; decide) dL_law_1792 ?_
          refine W.eq (g2 := F0 m 1793 ls [.long (n_apply (xs 1) 0 (n_cut (xs 2) ((((xs 4).toInt64) <<< ((32 : Int32).toInt64 &&& 63)) ||| (((xs 5).toInt64) &&& 4294967295))) (n_cut (xs 3) ((((xs 6).toInt64) <<< ((32 : Int32).toInt64 &&& 63)) ||| (((xs 7).toInt64) &&& 4294967295))))]) rfl ?_
          refine lv_lload hx hb dL_law_1793 (lv_at hl 0 rfl) ?_
          refine W.lcmp hx hb dL_law_1795 ?_
          refine lv_if_eq (tgt := 1801) hx hb dL_law_1796 (by decide) (fun c_3536 => ?_) (fun c_3536 => ?_)
          · skip
            refine lv_goto (tgt := 1804) hx hb dL_law_1801 (by decide) ?_
            exact lk_tail hC hA2 (lv_sub hl [2, 6] rfl) hS (Nat.le_of_ble_eq_true rfl) (Nat.le_of_ble_eq_true rfl)
          · exact absurd ((lg_cmp_eq _ _).mpr (qx_a c_40 c_3253 (by rw [c_3256]; decide))) c_3536
      · exact absurd (by decide) c_3534
    · skip
      subst w_3269
      subst w_3270
      obtain ⟨hP, hD⟩ := va_join (wr := [(h0, .inr (10, [.ref x0, .int 0, .ref x1, .ref x2, .ref x3, .ref x4, .ref x5, .ref x6, .ref x7, .ref x8, .int 0, .int 3000])), (o0, .inl (kA 1, 1, .inr (.inl (vp_updL (fun _ => 0) 0 (n_apply (xs 1) 0 (n_cut (xs 2) ((((xs 4).toInt64) <<< ((32 : Int32).toInt64 &&& 63)) ||| (((xs 5).toInt64) &&& 4294967295))) (n_cut (xs 3) ((((xs 6).toInt64) <<< ((32 : Int32).toInt64 &&& 63)) ||| (((xs 7).toInt64) &&& 4294967295))))))))]) (w1 := [(m0, .inr (11, y0.set 9 (.int 0)))]) hP hD [0] [1, 2] rfl rfl (by decide) (by decide) hk1 hFc hP1 hD1
      generalize H1 = H at hP hS ⊢
      have hP : va_P D vwCl [(h0, .inr (10, [.ref x0, .int 0, .ref x1, .ref x2, .ref x3, .ref x4, .ref x5, .ref x6, .ref x7, .ref x8, .int 0, .int 3000])), (o0, .inl (kA 1, 1, .inr (.inl (vp_updL (fun _ => 0) 0 (n_apply (xs 1) 0 (n_cut (xs 2) ((((xs 4).toInt64) <<< ((32 : Int32).toInt64 &&& 63)) ||| (((xs 5).toInt64) &&& 4294967295))) (n_cut (xs 3) ((((xs 6).toInt64) <<< ((32 : Int32).toInt64 &&& 63)) ||| (((xs 7).toInt64) &&& 4294967295)))))))), (m0, .inr (11, y0.set 9 (.int 0)))] H := hP
      have hD : va_D A [(h0, .inr (10, [.ref x0, .int 0, .ref x1, .ref x2, .ref x3, .ref x4, .ref x5, .ref x6, .ref x7, .ref x8, .int 0, .int 3000])), (o0, .inl (kA 1, 1, .inr (.inl (vp_updL (fun _ => 0) 0 (n_apply (xs 1) 0 (n_cut (xs 2) ((((xs 4).toInt64) <<< ((32 : Int32).toInt64 &&& 63)) ||| (((xs 5).toInt64) &&& 4294967295))) (n_cut (xs 3) ((((xs 6).toInt64) <<< ((32 : Int32).toInt64 &&& 63)) ||| (((xs 7).toInt64) &&& 4294967295)))))))), (m0, .inr (11, y0.set 9 (.int 0)))] := hD
      refine lv_lstore (lv' := [(6, .long (r_two 218 1 (n_cut (xs 2) ((((xs 4).toInt64) <<< ((32 : Int32).toInt64 &&& 63)) ||| (((xs 5).toInt64) &&& 4294967295))) (n_cut (xs 3) ((((xs 6).toInt64) <<< ((32 : Int32).toInt64 &&& 63)) ||| (((xs 7).toInt64) &&& 4294967295))))), (5, .int 0), (0, .ref b), (1, .ref h0), (2, .ref m0), (3, .ref o0), (4, .int 0)]) hx hb dL_law_1772 hl (by decide) rfl (fun ls hl => ?_)
      refine lv_aload_n hx hb dL_law_1774 rfl (lv_at hl 4 rfl) ?_
      have hPc := hP.sub (ws' := [(m0, .inr (11, y0.set 9 (.int 0)))]) [2] rfl
      have hDc := hD.sub (ws' := [(m0, .inr (11, y0.set 9 (.int 0)))]) [2] (by decide) rfl
      have hFc := va_free (wc := [(m0, .inr (11, y0.set 9 (.int 0)))]) hD hS hA [2] rfl
      refine va_calli (va_runV (As := []) (rest := []) ⟨hx, hb, hml, hown, hts⟩ (a94_X12_thrown l  D kA V H.size m0 (y0.set 9 (.int 0)) (fun k hk => (by rw [List.length_set]; exact (hq k hk))) (List.getElem?_set_self (hq 9 (by decide)))) (cwV 0 hts (gw_V gw_1879 gw_1880 gw_1881 gw_16 gw_1882) rfl rfl rfl (by decide +kernel) ⟨(Nat.le_of_ble_eq_true rfl), (Nat.le_of_ble_eq_true rfl)⟩) ⟨aP.blind, va_recv hK hP (ci := 11) (q0 := 2) rfl rfl, aP.pre hE hS hPc hK hDc hFc⟩ rfl rfl hl.1 rfl (lv_room (Nat.le_of_ble_eq_true rfl)) dL_law_1775 ⟨(Nat.le_of_ble_eq_true rfl), (Nat.le_of_ble_eq_true rfl)⟩) hS (fun q _ h => hFc q h) hFc (fun r_3537 u t H1 locs ht hvm hw hB hz1 hk1 hS => ?_)
      obtain ⟨hP1, hD1⟩ := hB
      rw [ht] at hP1
      try dsimp only at hw hP1 hD1
      have w_3538 := hw
      subst w_3538
      obtain ⟨hP, hD⟩ := va_join (wr := [(h0, .inr (10, [.ref x0, .int 0, .ref x1, .ref x2, .ref x3, .ref x4, .ref x5, .ref x6, .ref x7, .ref x8, .int 0, .int 3000])), (o0, .inl (kA 1, 1, .inr (.inl (vp_updL (fun _ => 0) 0 (n_apply (xs 1) 0 (n_cut (xs 2) ((((xs 4).toInt64) <<< ((32 : Int32).toInt64 &&& 63)) ||| (((xs 5).toInt64) &&& 4294967295))) (n_cut (xs 3) ((((xs 6).toInt64) <<< ((32 : Int32).toInt64 &&& 63)) ||| (((xs 7).toInt64) &&& 4294967295))))))))]) (w1 := [(m0, .inr (11, (y0.set 9 (.int 0))))]) hP hD [2] [0, 1] rfl rfl (by decide) (by decide) hk1 hFc hP1 hD1
      generalize H1 = H at hP hS ⊢
      have hP : va_P D vwCl [(h0, .inr (10, [.ref x0, .int 0, .ref x1, .ref x2, .ref x3, .ref x4, .ref x5, .ref x6, .ref x7, .ref x8, .int 0, .int 3000])), (o0, .inl (kA 1, 1, .inr (.inl (vp_updL (fun _ => 0) 0 (n_apply (xs 1) 0 (n_cut (xs 2) ((((xs 4).toInt64) <<< ((32 : Int32).toInt64 &&& 63)) ||| (((xs 5).toInt64) &&& 4294967295))) (n_cut (xs 3) ((((xs 6).toInt64) <<< ((32 : Int32).toInt64 &&& 63)) ||| (((xs 7).toInt64) &&& 4294967295)))))))), (m0, .inr (11, (y0.set 9 (.int 0))))] H := hP
      have hD : va_D A [(h0, .inr (10, [.ref x0, .int 0, .ref x1, .ref x2, .ref x3, .ref x4, .ref x5, .ref x6, .ref x7, .ref x8, .int 0, .int 3000])), (o0, .inl (kA 1, 1, .inr (.inl (vp_updL (fun _ => 0) 0 (n_apply (xs 1) 0 (n_cut (xs 2) ((((xs 4).toInt64) <<< ((32 : Int32).toInt64 &&& 63)) ||| (((xs 5).toInt64) &&& 4294967295))) (n_cut (xs 3) ((((xs 6).toInt64) <<< ((32 : Int32).toInt64 &&& 63)) ||| (((xs 7).toInt64) &&& 4294967295)))))))), (m0, .inr (11, (y0.set 9 (.int 0))))] := hD
      refine lv_iload hx hb dL_law_1778 (lv_at hl 1 rfl) ?_
      refine lv_icmp_eq (tgt := 1785) hx hb dL_law_1780 (by decide) (fun c_3539 => ?_) (fun c_3539 => ?_)
      · skip
        refine lv_iload hx hb dL_law_1785 (lv_at hl 1 rfl) ?_
        refine lv_if_ne (tgt := 1801) hx hb dL_law_1787 (by decide) (fun c_3540 => ?_) (fun c_3540 => ?_)
        · exact absurd (by decide) c_3540
        · skip
          refine lv_aload_n hx hb dL_law_1790 rfl (lv_at hl 5 rfl) ?_
          refine lv_iconst (v := 0) hx hb dL_law_1791 (by decide) ?_
          refine va_lald hx hb hK hP 1 1 rfl rfl (show vp_in 0 1 by unfold vp_in; decide) dL_law_1792 ?_
          refine W.eq (g2 := F0 m 1793 ls [.long (n_apply (xs 1) 0 (n_cut (xs 2) ((((xs 4).toInt64) <<< ((32 : Int32).toInt64 &&& 63)) ||| (((xs 5).toInt64) &&& 4294967295))) (n_cut (xs 3) ((((xs 6).toInt64) <<< ((32 : Int32).toInt64 &&& 63)) ||| (((xs 7).toInt64) &&& 4294967295))))]) rfl ?_
          refine lv_lload hx hb dL_law_1793 (lv_at hl 0 rfl) ?_
          refine W.lcmp hx hb dL_law_1795 ?_
          refine lv_if_eq (tgt := 1801) hx hb dL_law_1796 (by decide) (fun c_3541 => ?_) (fun c_3541 => ?_)
          · skip
            refine lv_goto (tgt := 1804) hx hb dL_law_1801 (by decide) ?_
            exact lk_tail hC hA2 (lv_sub hl [2, 6] rfl) hS (Nat.le_of_ble_eq_true rfl) (Nat.le_of_ble_eq_true rfl)
          · exact absurd ((lg_cmp_eq _ _).mpr (qx_a c_40 c_3266 (by rw [c_3268]; decide))) c_3541
      · exact absurd (by decide) c_3539
    · skip
      subst w_3280
      subst w_3281
      obtain ⟨hP, hD⟩ := va_join (wr := [(h0, .inr (10, [.ref x0, .int 0, .ref x1, .ref x2, .ref x3, .ref x4, .ref x5, .ref x6, .ref x7, .ref x8, .int 0, .int 3000])), (o0, .inl (kA 1, 1, .inr (.inl (vp_updL (fun _ => 0) 0 (n_apply (xs 1) 0 (n_cut (xs 2) ((((xs 4).toInt64) <<< ((32 : Int32).toInt64 &&& 63)) ||| (((xs 5).toInt64) &&& 4294967295))) (n_cut (xs 3) ((((xs 6).toInt64) <<< ((32 : Int32).toInt64 &&& 63)) ||| (((xs 7).toInt64) &&& 4294967295))))))))]) (w1 := [(m0, .inr (11, y0.set 9 (.int 0)))]) hP hD [0] [1, 2] rfl rfl (by decide) (by decide) hk1 hFc hP1 hD1
      generalize H1 = H at hP hS ⊢
      have hP : va_P D vwCl [(h0, .inr (10, [.ref x0, .int 0, .ref x1, .ref x2, .ref x3, .ref x4, .ref x5, .ref x6, .ref x7, .ref x8, .int 0, .int 3000])), (o0, .inl (kA 1, 1, .inr (.inl (vp_updL (fun _ => 0) 0 (n_apply (xs 1) 0 (n_cut (xs 2) ((((xs 4).toInt64) <<< ((32 : Int32).toInt64 &&& 63)) ||| (((xs 5).toInt64) &&& 4294967295))) (n_cut (xs 3) ((((xs 6).toInt64) <<< ((32 : Int32).toInt64 &&& 63)) ||| (((xs 7).toInt64) &&& 4294967295)))))))), (m0, .inr (11, y0.set 9 (.int 0)))] H := hP
      have hD : va_D A [(h0, .inr (10, [.ref x0, .int 0, .ref x1, .ref x2, .ref x3, .ref x4, .ref x5, .ref x6, .ref x7, .ref x8, .int 0, .int 3000])), (o0, .inl (kA 1, 1, .inr (.inl (vp_updL (fun _ => 0) 0 (n_apply (xs 1) 0 (n_cut (xs 2) ((((xs 4).toInt64) <<< ((32 : Int32).toInt64 &&& 63)) ||| (((xs 5).toInt64) &&& 4294967295))) (n_cut (xs 3) ((((xs 6).toInt64) <<< ((32 : Int32).toInt64 &&& 63)) ||| (((xs 7).toInt64) &&& 4294967295)))))))), (m0, .inr (11, y0.set 9 (.int 0)))] := hD
      refine lv_lstore (lv' := [(6, .long (r_two 217 1 (n_cut (xs 2) ((((xs 4).toInt64) <<< ((32 : Int32).toInt64 &&& 63)) ||| (((xs 5).toInt64) &&& 4294967295))) (n_cut (xs 3) ((((xs 6).toInt64) <<< ((32 : Int32).toInt64 &&& 63)) ||| (((xs 7).toInt64) &&& 4294967295))))), (5, .int 0), (0, .ref b), (1, .ref h0), (2, .ref m0), (3, .ref o0), (4, .int 0)]) hx hb dL_law_1772 hl (by decide) rfl (fun ls hl => ?_)
      refine lv_aload_n hx hb dL_law_1774 rfl (lv_at hl 4 rfl) ?_
      have hPc := hP.sub (ws' := [(m0, .inr (11, y0.set 9 (.int 0)))]) [2] rfl
      have hDc := hD.sub (ws' := [(m0, .inr (11, y0.set 9 (.int 0)))]) [2] (by decide) rfl
      have hFc := va_free (wc := [(m0, .inr (11, y0.set 9 (.int 0)))]) hD hS hA [2] rfl
      refine va_calli (va_runV (As := []) (rest := []) ⟨hx, hb, hml, hown, hts⟩ (a94_X12_thrown l  D kA V H.size m0 (y0.set 9 (.int 0)) (fun k hk => (by rw [List.length_set]; exact (hq k hk))) (List.getElem?_set_self (hq 9 (by decide)))) (cwV 0 hts (gw_V gw_1879 gw_1880 gw_1881 gw_16 gw_1882) rfl rfl rfl (by decide +kernel) ⟨(Nat.le_of_ble_eq_true rfl), (Nat.le_of_ble_eq_true rfl)⟩) ⟨aP.blind, va_recv hK hP (ci := 11) (q0 := 2) rfl rfl, aP.pre hE hS hPc hK hDc hFc⟩ rfl rfl hl.1 rfl (lv_room (Nat.le_of_ble_eq_true rfl)) dL_law_1775 ⟨(Nat.le_of_ble_eq_true rfl), (Nat.le_of_ble_eq_true rfl)⟩) hS (fun q _ h => hFc q h) hFc (fun r_3542 u t H1 locs ht hvm hw hB hz1 hk1 hS => ?_)
      obtain ⟨hP1, hD1⟩ := hB
      rw [ht] at hP1
      try dsimp only at hw hP1 hD1
      have w_3543 := hw
      subst w_3543
      obtain ⟨hP, hD⟩ := va_join (wr := [(h0, .inr (10, [.ref x0, .int 0, .ref x1, .ref x2, .ref x3, .ref x4, .ref x5, .ref x6, .ref x7, .ref x8, .int 0, .int 3000])), (o0, .inl (kA 1, 1, .inr (.inl (vp_updL (fun _ => 0) 0 (n_apply (xs 1) 0 (n_cut (xs 2) ((((xs 4).toInt64) <<< ((32 : Int32).toInt64 &&& 63)) ||| (((xs 5).toInt64) &&& 4294967295))) (n_cut (xs 3) ((((xs 6).toInt64) <<< ((32 : Int32).toInt64 &&& 63)) ||| (((xs 7).toInt64) &&& 4294967295))))))))]) (w1 := [(m0, .inr (11, (y0.set 9 (.int 0))))]) hP hD [2] [0, 1] rfl rfl (by decide) (by decide) hk1 hFc hP1 hD1
      generalize H1 = H at hP hS ⊢
      have hP : va_P D vwCl [(h0, .inr (10, [.ref x0, .int 0, .ref x1, .ref x2, .ref x3, .ref x4, .ref x5, .ref x6, .ref x7, .ref x8, .int 0, .int 3000])), (o0, .inl (kA 1, 1, .inr (.inl (vp_updL (fun _ => 0) 0 (n_apply (xs 1) 0 (n_cut (xs 2) ((((xs 4).toInt64) <<< ((32 : Int32).toInt64 &&& 63)) ||| (((xs 5).toInt64) &&& 4294967295))) (n_cut (xs 3) ((((xs 6).toInt64) <<< ((32 : Int32).toInt64 &&& 63)) ||| (((xs 7).toInt64) &&& 4294967295)))))))), (m0, .inr (11, (y0.set 9 (.int 0))))] H := hP
      have hD : va_D A [(h0, .inr (10, [.ref x0, .int 0, .ref x1, .ref x2, .ref x3, .ref x4, .ref x5, .ref x6, .ref x7, .ref x8, .int 0, .int 3000])), (o0, .inl (kA 1, 1, .inr (.inl (vp_updL (fun _ => 0) 0 (n_apply (xs 1) 0 (n_cut (xs 2) ((((xs 4).toInt64) <<< ((32 : Int32).toInt64 &&& 63)) ||| (((xs 5).toInt64) &&& 4294967295))) (n_cut (xs 3) ((((xs 6).toInt64) <<< ((32 : Int32).toInt64 &&& 63)) ||| (((xs 7).toInt64) &&& 4294967295)))))))), (m0, .inr (11, (y0.set 9 (.int 0))))] := hD
      refine lv_iload hx hb dL_law_1778 (lv_at hl 1 rfl) ?_
      refine lv_icmp_eq (tgt := 1785) hx hb dL_law_1780 (by decide) (fun c_3544 => ?_) (fun c_3544 => ?_)
      · skip
        refine lv_iload hx hb dL_law_1785 (lv_at hl 1 rfl) ?_
        refine lv_if_ne (tgt := 1801) hx hb dL_law_1787 (by decide) (fun c_3545 => ?_) (fun c_3545 => ?_)
        · exact absurd (by decide) c_3545
        · skip
          refine lv_aload_n hx hb dL_law_1790 rfl (lv_at hl 5 rfl) ?_
          refine lv_iconst (v := 0) hx hb dL_law_1791 (by decide) ?_
          refine va_lald hx hb hK hP 1 1 rfl rfl (show vp_in 0 1 by unfold vp_in; decide) dL_law_1792 ?_
          refine W.eq (g2 := F0 m 1793 ls [.long (n_apply (xs 1) 0 (n_cut (xs 2) ((((xs 4).toInt64) <<< ((32 : Int32).toInt64 &&& 63)) ||| (((xs 5).toInt64) &&& 4294967295))) (n_cut (xs 3) ((((xs 6).toInt64) <<< ((32 : Int32).toInt64 &&& 63)) ||| (((xs 7).toInt64) &&& 4294967295))))]) rfl ?_
          refine lv_lload hx hb dL_law_1793 (lv_at hl 0 rfl) ?_
          refine W.lcmp hx hb dL_law_1795 ?_
          refine lv_if_eq (tgt := 1801) hx hb dL_law_1796 (by decide) (fun c_3546 => ?_) (fun c_3546 => ?_)
          · skip
            refine lv_goto (tgt := 1804) hx hb dL_law_1801 (by decide) ?_
            exact lk_tail hC hA2 (lv_sub hl [2, 6] rfl) hS (Nat.le_of_ble_eq_true rfl) (Nat.le_of_ble_eq_true rfl)
          · exact absurd ((lg_cmp_eq _ _).mpr (qx_a c_40 c_3278 (by rw [c_3279]; decide))) c_3546
      · exact absurd (by decide) c_3544
    · skip
      subst w_3297
      subst w_3298
      exact absurd c_3288 c_42
    · skip
      subst w_3314
      subst w_3315
      exact absurd c_3305 c_42
    · skip
      subst w_3330
      subst w_3331
      exact absurd c_3322 c_42
    · skip
      subst w_3345
      subst w_3346
      exact absurd c_3338 c_42
    · skip
      subst w_3359
      subst w_3360
      exact absurd c_3353 c_42
    · skip
      subst w_3372
      subst w_3373
      exact absurd c_3367 c_42
    · skip
      subst w_3384
      subst w_3385
      exact absurd c_3380 c_42
    · skip
      subst w_3395
      subst w_3396
      exact absurd c_3392 c_42
    · skip
      subst w_3410
      subst w_3411
      exact absurd c_3403 c_42
    · skip
      subst w_3425
      subst w_3426
      exact absurd c_3418 c_42
    · skip
      subst w_3439
      subst w_3440
      exact absurd c_3433 c_42
    · skip
      subst w_3452
      subst w_3453
      exact absurd c_3447 c_42
    · skip
      subst w_3464
      subst w_3465
      exact absurd c_3460 c_42
    · skip
      subst w_3475
      subst w_3476
      exact absurd c_3472 c_42
  · skip
    subst w_52
    subst w_53
    obtain ⟨hP, hD⟩ := va_join (wr := [(m0, .inr (11, y0))]) (w1 := [(h0, .inr (10, [.ref x0, .int 0, .ref x1, .ref x2, .ref x3, .ref x4, .ref x5, .ref x6, .ref x7, .ref x8, .int 0, .int 3000])), (o0, .inl (kA 1, 1, .inr (.inl (vp_updL (fun _ => 0) 0 (n_apply (xs 1) 1 (n_cut (xs 2) ((((xs 4).toInt64) <<< ((32 : Int32).toInt64 &&& 63)) ||| (((xs 5).toInt64) &&& 4294967295))) (n_cut (xs 3) ((((xs 6).toInt64) <<< ((32 : Int32).toInt64 &&& 63)) ||| (((xs 7).toInt64) &&& 4294967295))))))))]) hP hD [0, 2] [1] rfl rfl (by decide) (by decide) hk1 hFc hP1 hD1
    generalize H1 = H at hP hS ⊢
    have hP : va_P D vwCl [(m0, .inr (11, y0)), (h0, .inr (10, [.ref x0, .int 0, .ref x1, .ref x2, .ref x3, .ref x4, .ref x5, .ref x6, .ref x7, .ref x8, .int 0, .int 3000])), (o0, .inl (kA 1, 1, .inr (.inl (vp_updL (fun _ => 0) 0 (n_apply (xs 1) 1 (n_cut (xs 2) ((((xs 4).toInt64) <<< ((32 : Int32).toInt64 &&& 63)) ||| (((xs 5).toInt64) &&& 4294967295))) (n_cut (xs 3) ((((xs 6).toInt64) <<< ((32 : Int32).toInt64 &&& 63)) ||| (((xs 7).toInt64) &&& 4294967295))))))))] H := hP
    have hD : va_D A [(m0, .inr (11, y0)), (h0, .inr (10, [.ref x0, .int 0, .ref x1, .ref x2, .ref x3, .ref x4, .ref x5, .ref x6, .ref x7, .ref x8, .int 0, .int 3000])), (o0, .inl (kA 1, 1, .inr (.inl (vp_updL (fun _ => 0) 0 (n_apply (xs 1) 1 (n_cut (xs 2) ((((xs 4).toInt64) <<< ((32 : Int32).toInt64 &&& 63)) ||| (((xs 5).toInt64) &&& 4294967295))) (n_cut (xs 3) ((((xs 6).toInt64) <<< ((32 : Int32).toInt64 &&& 63)) ||| (((xs 7).toInt64) &&& 4294967295))))))))] := hD
    refine lv_istore (lv' := [(5, .int 0), (0, .ref b), (1, .ref h0), (2, .ref m0), (3, .ref o0), (4, .int 0)]) hx hb dL_law_1702 hl (by decide) rfl (fun ls hl => ?_)
    refine lv_aload_n hx hb dL_law_1704 rfl (lv_at hl 3 rfl) ?_
    refine lv_aload_n hx hb dL_law_1705 rfl (lv_at hl 1 rfl) ?_
    refine lv_iload hx hb dL_law_1706 (lv_at hl 5 rfl) ?_
    refine lv_iconst (v := 1) hx hb dL_law_1708 (by decide) ?_
    refine lv_iadd hx hb dL_law_1709 ?_
    refine W.eq (g2 := F0 m 1710 ls [.int 1, .ref b, .ref m0]) rfl ?_
    refine va_sld hx hb hX hbl hbA hS (show vp_in 1 8 by unfold vp_in; decide) dL_law_1710 ?_
    refine W.eq (g2 := F0 m 1711 ls [.int (xs 1), .ref m0]) rfl ?_
    refine lv_aload_n hx hb dL_law_1711 rfl (lv_at hl 1 rfl) ?_
    refine lv_iload hx hb dL_law_1712 (lv_at hl 5 rfl) ?_
    refine lv_iconst (v := 2) hx hb dL_law_1714 (by decide) ?_
    refine lv_iadd hx hb dL_law_1715 ?_
    refine W.eq (g2 := F0 m 1716 ls [.int 2, .ref b, .int (xs 1), .ref m0]) rfl ?_
    refine va_sld hx hb hX hbl hbA hS (show vp_in 2 8 by unfold vp_in; decide) dL_law_1716 ?_
    refine W.eq (g2 := F0 m 1717 ls [.int (xs 2), .int (xs 1), .ref m0]) rfl ?_
    refine lv_aload_n hx hb dL_law_1717 rfl (lv_at hl 1 rfl) ?_
    refine lv_iload hx hb dL_law_1718 (lv_at hl 5 rfl) ?_
    refine lv_iconst (v := 3) hx hb dL_law_1720 (by decide) ?_
    refine lv_iadd hx hb dL_law_1721 ?_
    refine W.eq (g2 := F0 m 1722 ls [.int 3, .ref b, .int (xs 2), .int (xs 1), .ref m0]) rfl ?_
    refine va_sld hx hb hX hbl hbA hS (show vp_in 3 8 by unfold vp_in; decide) dL_law_1722 ?_
    refine W.eq (g2 := F0 m 1723 ls [.int (xs 3), .int (xs 2), .int (xs 1), .ref m0]) rfl ?_
    refine lv_aload_n hx hb dL_law_1723 rfl (lv_at hl 1 rfl) ?_
    refine lv_iload hx hb dL_law_1724 (lv_at hl 5 rfl) ?_
    refine lv_iconst (v := 4) hx hb dL_law_1726 (by decide) ?_
    refine lv_iadd hx hb dL_law_1727 ?_
    refine W.eq (g2 := F0 m 1728 ls [.int 4, .ref b, .int (xs 3), .int (xs 2), .int (xs 1), .ref m0]) rfl ?_
    refine va_sld hx hb hX hbl hbA hS (show vp_in 4 8 by unfold vp_in; decide) dL_law_1728 ?_
    refine W.eq (g2 := F0 m 1729 ls [.int (xs 4), .int (xs 3), .int (xs 2), .int (xs 1), .ref m0]) rfl ?_
    refine lv_i2l (v := (xs 4).toInt64) hx hb dL_law_1729 rfl ?_
    refine lv_bipush (v := 32) hx hb dL_law_1730 (by decide) ?_
    refine lv_lshl (v := ((xs 4).toInt64) <<< ((32 : Int32).toInt64 &&& 63)) hx hb dL_law_1732 rfl ?_
    refine lv_aload_n hx hb dL_law_1733 rfl (lv_at hl 1 rfl) ?_
    refine lv_iload hx hb dL_law_1734 (lv_at hl 5 rfl) ?_
    refine lv_iconst (v := 5) hx hb dL_law_1736 (by decide) ?_
    refine lv_iadd hx hb dL_law_1737 ?_
    refine W.eq (g2 := F0 m 1738 ls [.int 5, .ref b, .long (((xs 4).toInt64) <<< ((32 : Int32).toInt64 &&& 63)), .int (xs 3), .int (xs 2), .int (xs 1), .ref m0]) rfl ?_
    refine va_sld hx hb hX hbl hbA hS (show vp_in 5 8 by unfold vp_in; decide) dL_law_1738 ?_
    refine W.eq (g2 := F0 m 1739 ls [.int (xs 5), .long (((xs 4).toInt64) <<< ((32 : Int32).toInt64 &&& 63)), .int (xs 3), .int (xs 2), .int (xs 1), .ref m0]) rfl ?_
    refine lv_i2l (v := (xs 5).toInt64) hx hb dL_law_1739 rfl ?_
    refine lv_ldc2 (v := 4294967295) hx hb hown (hG _ gw_2764) dL_law_1740 ?_
    refine lv_land hx hb dL_law_1743 ?_
    refine lv_lor hx hb dL_law_1744 ?_
    refine lv_aload_n hx hb dL_law_1745 rfl (lv_at hl 1 rfl) ?_
    refine lv_iload hx hb dL_law_1746 (lv_at hl 5 rfl) ?_
    refine lv_bipush (v := 6) hx hb dL_law_1748 (by decide) ?_
    refine lv_iadd hx hb dL_law_1750 ?_
    refine W.eq (g2 := F0 m 1751 ls [.int 6, .ref b, .long ((((xs 4).toInt64) <<< ((32 : Int32).toInt64 &&& 63)) ||| (((xs 5).toInt64) &&& 4294967295)), .int (xs 3), .int (xs 2), .int (xs 1), .ref m0]) rfl ?_
    refine va_sld hx hb hX hbl hbA hS (show vp_in 6 8 by unfold vp_in; decide) dL_law_1751 ?_
    refine W.eq (g2 := F0 m 1752 ls [.int (xs 6), .long ((((xs 4).toInt64) <<< ((32 : Int32).toInt64 &&& 63)) ||| (((xs 5).toInt64) &&& 4294967295)), .int (xs 3), .int (xs 2), .int (xs 1), .ref m0]) rfl ?_
    refine lv_i2l (v := (xs 6).toInt64) hx hb dL_law_1752 rfl ?_
    refine lv_bipush (v := 32) hx hb dL_law_1753 (by decide) ?_
    refine lv_lshl (v := ((xs 6).toInt64) <<< ((32 : Int32).toInt64 &&& 63)) hx hb dL_law_1755 rfl ?_
    refine lv_aload_n hx hb dL_law_1756 rfl (lv_at hl 1 rfl) ?_
    refine lv_iload hx hb dL_law_1757 (lv_at hl 5 rfl) ?_
    refine lv_bipush (v := 7) hx hb dL_law_1759 (by decide) ?_
    refine lv_iadd hx hb dL_law_1761 ?_
    refine W.eq (g2 := F0 m 1762 ls [.int 7, .ref b, .long (((xs 6).toInt64) <<< ((32 : Int32).toInt64 &&& 63)), .long ((((xs 4).toInt64) <<< ((32 : Int32).toInt64 &&& 63)) ||| (((xs 5).toInt64) &&& 4294967295)), .int (xs 3), .int (xs 2), .int (xs 1), .ref m0]) rfl ?_
    refine va_sld hx hb hX hbl hbA hS (show vp_in 7 8 by unfold vp_in; decide) dL_law_1762 ?_
    refine W.eq (g2 := F0 m 1763 ls [.int (xs 7), .long (((xs 6).toInt64) <<< ((32 : Int32).toInt64 &&& 63)), .long ((((xs 4).toInt64) <<< ((32 : Int32).toInt64 &&& 63)) ||| (((xs 5).toInt64) &&& 4294967295)), .int (xs 3), .int (xs 2), .int (xs 1), .ref m0]) rfl ?_
    refine lv_i2l (v := (xs 7).toInt64) hx hb dL_law_1763 rfl ?_
    refine lv_ldc2 (v := 4294967295) hx hb hown (hG _ gw_2764) dL_law_1764 ?_
    refine lv_land hx hb dL_law_1767 ?_
    refine lv_lor hx hb dL_law_1768 ?_
    have hPc := hP.sub (ws' := [(m0, .inr (11, y0))]) [0] rfl
    have hDc := hD.sub (ws' := [(m0, .inr (11, y0))]) [0] (by decide) rfl
    have hFc := va_free (wc := [(m0, .inr (11, y0))]) hD hS hA [0] rfl
    refine va_calll (va_runV (As := [.int (xs 1), .int (xs 2), .int (xs 3), .long ((((xs 4).toInt64) <<< ((32 : Int32).toInt64 &&& 63)) ||| (((xs 5).toInt64) &&& 4294967295)), .long ((((xs 6).toInt64) <<< ((32 : Int32).toInt64 &&& 63)) ||| (((xs 7).toInt64) &&& 4294967295))]) (rest := []) ⟨hx, hb, hml, hown, hts⟩ (a155_X12_tell l  D kA V H.size m0 (xs 1) (xs 2) (xs 3) ((((xs 4).toInt64) <<< ((32 : Int32).toInt64 &&& 63)) ||| (((xs 5).toInt64) &&& 4294967295)) ((((xs 6).toInt64) <<< ((32 : Int32).toInt64 &&& 63)) ||| (((xs 7).toInt64) &&& 4294967295)) y0 (fun k hk => (hq k hk)) hq9) (cwV 5 hts (gw_V gw_2760 gw_2761 gw_2762 gw_16 gw_2763) rfl rfl rfl (by decide +kernel) ⟨(Nat.le_of_ble_eq_true rfl), (Nat.le_of_ble_eq_true rfl)⟩) ⟨aP.blind, va_recv hK hP (ci := 11) (q0 := 0) rfl rfl, aP.pre hE hS hPc hK hDc hFc⟩ rfl rfl hl.1 rfl (lv_room (Nat.le_of_ble_eq_true rfl)) dL_law_1769 ⟨(Nat.le_of_ble_eq_true rfl), (Nat.le_of_ble_eq_true rfl)⟩) hS (fun q _ h => hFc q h) hFc (fun r_3547 u t H1 locs ht hvm hw hB hz1 hk1 hS => ?_)
    obtain ⟨u_3548, rfl⟩ : ∃ z, z = u := ⟨u, rfl⟩
    obtain ⟨hP1, hD1⟩ := hB
    rw [ht] at hP1
    try dsimp only at hw hP1 hD1
    rcases hw with ⟨c_3549, c_3550, w_3551, w_3552⟩ | ⟨c_3553, c_3554, c_3555, w_3556, w_3557⟩ | ⟨c_3558, c_3559, c_3560, c_3561, w_3562, w_3563⟩ | ⟨c_3564, c_3565, c_3566, c_3567, c_3568, w_3569, w_3570⟩ | ⟨c_3571, c_3572, c_3573, c_3574, c_3575, w_3576, w_3577⟩ | ⟨c_3578, c_3579, c_3580, w_3581, w_3582⟩ | ⟨c_3583, c_3584, c_3585, c_3586, w_3587, w_3588⟩ | ⟨c_3589, c_3590, c_3591, c_3592, c_3593, w_3594, w_3595⟩ | ⟨c_3596, c_3597, c_3598, c_3599, c_3600, c_3601, w_3602, w_3603⟩ | ⟨c_3604, c_3605, c_3606, c_3607, c_3608, c_3609, w_3610, w_3611⟩ | ⟨c_3612, c_3613, c_3614, w_3615, w_3616⟩ | ⟨c_3617, c_3618, c_3619, c_3620, w_3621, w_3622⟩ | ⟨c_3623, c_3624, c_3625, c_3626, c_3627, w_3628, w_3629⟩ | ⟨c_3630, c_3631, c_3632, c_3633, c_3634, c_3635, w_3636, w_3637⟩ | ⟨c_3638, c_3639, c_3640, c_3641, c_3642, c_3643, c_3644, c_3645, c_3646, c_3647, c_3648, c_3649, c_3650, c_3651, c_3652, w_3653, w_3654⟩ | ⟨c_3655, c_3656, c_3657, c_3658, c_3659, c_3660, c_3661, c_3662, c_3663, c_3664, c_3665, c_3666, c_3667, c_3668, c_3669, w_3670, w_3671⟩ | ⟨c_3672, c_3673, c_3674, c_3675, c_3676, c_3677, c_3678, c_3679, c_3680, c_3681, c_3682, c_3683, c_3684, c_3685, w_3686, w_3687⟩ | ⟨c_3688, c_3689, c_3690, c_3691, c_3692, c_3693, c_3694, c_3695, c_3696, c_3697, c_3698, c_3699, c_3700, w_3701, w_3702⟩ | ⟨c_3703, c_3704, c_3705, c_3706, c_3707, c_3708, c_3709, c_3710, c_3711, c_3712, c_3713, c_3714, w_3715, w_3716⟩ | ⟨c_3717, c_3718, c_3719, c_3720, c_3721, c_3722, c_3723, c_3724, c_3725, c_3726, c_3727, w_3728, w_3729⟩ | ⟨c_3730, c_3731, c_3732, c_3733, c_3734, c_3735, c_3736, c_3737, c_3738, c_3739, w_3740, w_3741⟩ | ⟨c_3742, c_3743, c_3744, c_3745, c_3746, c_3747, c_3748, c_3749, c_3750, w_3751, w_3752⟩ | ⟨c_3753, c_3754, c_3755, c_3756, c_3757, c_3758, c_3759, c_3760, c_3761, c_3762, c_3763, c_3764, c_3765, w_3766, w_3767⟩ | ⟨c_3768, c_3769, c_3770, c_3771, c_3772, c_3773, c_3774, c_3775, c_3776, c_3777, c_3778, c_3779, c_3780, w_3781, w_3782⟩ | ⟨c_3783, c_3784, c_3785, c_3786, c_3787, c_3788, c_3789, c_3790, c_3791, c_3792, c_3793, c_3794, w_3795, w_3796⟩ | ⟨c_3797, c_3798, c_3799, c_3800, c_3801, c_3802, c_3803, c_3804, c_3805, c_3806, c_3807, w_3808, w_3809⟩ | ⟨c_3810, c_3811, c_3812, c_3813, c_3814, c_3815, c_3816, c_3817, c_3818, c_3819, w_3820, w_3821⟩ | ⟨c_3822, c_3823, c_3824, c_3825, c_3826, c_3827, c_3828, c_3829, c_3830, w_3831, w_3832⟩ | ⟨c_3833, c_3834, c_3835, c_3836, c_3837, c_3838, c_3839, c_3840, c_3841, c_3842, c_3843, c_3844, c_3845, c_3846, c_3847, w_3848, w_3849⟩ | ⟨c_3850, c_3851, c_3852, c_3853, c_3854, c_3855, c_3856, c_3857, c_3858, c_3859, c_3860, c_3861, c_3862, c_3863, c_3864, w_3865, w_3866⟩ | ⟨c_3867, c_3868, c_3869, c_3870, c_3871, c_3872, c_3873, c_3874, c_3875, c_3876, c_3877, c_3878, c_3879, c_3880, w_3881, w_3882⟩ | ⟨c_3883, c_3884, c_3885, c_3886, c_3887, c_3888, c_3889, c_3890, c_3891, c_3892, c_3893, c_3894, c_3895, w_3896, w_3897⟩ | ⟨c_3898, c_3899, c_3900, c_3901, c_3902, c_3903, c_3904, c_3905, c_3906, c_3907, c_3908, c_3909, w_3910, w_3911⟩ | ⟨c_3912, c_3913, c_3914, c_3915, c_3916, c_3917, c_3918, c_3919, c_3920, c_3921, c_3922, w_3923, w_3924⟩ | ⟨c_3925, c_3926, c_3927, c_3928, c_3929, c_3930, c_3931, c_3932, c_3933, c_3934, w_3935, w_3936⟩ | ⟨c_3937, c_3938, c_3939, c_3940, c_3941, c_3942, c_3943, c_3944, c_3945, w_3946, w_3947⟩ | ⟨c_3948, c_3949, c_3950, c_3951, c_3952, c_3953, c_3954, c_3955, c_3956, c_3957, c_3958, c_3959, c_3960, w_3961, w_3962⟩ | ⟨c_3963, c_3964, c_3965, c_3966, c_3967, c_3968, c_3969, c_3970, c_3971, c_3972, c_3973, c_3974, c_3975, w_3976, w_3977⟩ | ⟨c_3978, c_3979, c_3980, c_3981, c_3982, c_3983, c_3984, c_3985, c_3986, c_3987, c_3988, c_3989, w_3990, w_3991⟩ | ⟨c_3992, c_3993, c_3994, c_3995, c_3996, c_3997, c_3998, c_3999, c_4000, c_4001, c_4002, w_4003, w_4004⟩ | ⟨c_4005, c_4006, c_4007, c_4008, c_4009, c_4010, c_4011, c_4012, c_4013, c_4014, w_4015, w_4016⟩ | ⟨c_4017, c_4018, c_4019, c_4020, c_4021, c_4022, c_4023, c_4024, c_4025, w_4026, w_4027⟩
    · skip
      subst w_3551
      subst w_3552
      exact absurd c_3549 c_49
    · skip
      subst w_3556
      subst w_3557
      exact absurd c_3553 c_49
    · skip
      subst w_3562
      subst w_3563
      exact absurd c_3558 c_49
    · skip
      subst w_3569
      subst w_3570
      exact absurd c_3564 c_49
    · skip
      subst w_3576
      subst w_3577
      exact absurd c_3571 c_49
    · skip
      subst w_3581
      subst w_3582
      exact absurd c_3579 (Int32.not_lt.mpr c_50)
    · skip
      subst w_3587
      subst w_3588
      exact absurd c_3584 (Int32.not_lt.mpr c_50)
    · skip
      subst w_3594
      subst w_3595
      exact absurd c_3590 (Int32.not_lt.mpr c_50)
    · skip
      subst w_3602
      subst w_3603
      exact absurd c_3597 (Int32.not_lt.mpr c_50)
    · skip
      subst w_3610
      subst w_3611
      exact absurd c_3605 (Int32.not_lt.mpr c_50)
    · skip
      subst w_3615
      subst w_3616
      exact absurd c_3614 c_45
    · skip
      subst w_3621
      subst w_3622
      exact absurd c_3620 c_46
    · skip
      subst w_3628
      subst w_3629
      exact absurd c_3627 c_47
    · skip
      subst w_3636
      subst w_3637
      exact absurd c_3635 c_48
    · skip
      subst w_3653
      subst w_3654
      exact absurd c_51 c_3644
    · skip
      subst w_3670
      subst w_3671
      exact absurd c_51 c_3661
    · skip
      subst w_3686
      subst w_3687
      exact absurd c_51 c_3678
    · skip
      subst w_3701
      subst w_3702
      exact absurd c_51 c_3694
    · skip
      subst w_3715
      subst w_3716
      exact absurd c_51 c_3709
    · skip
      subst w_3728
      subst w_3729
      exact absurd c_51 c_3723
    · skip
      subst w_3740
      subst w_3741
      exact absurd c_51 c_3736
    · skip
      subst w_3751
      subst w_3752
      exact absurd c_51 c_3748
    · skip
      subst w_3766
      subst w_3767
      exact absurd c_51 c_3759
    · skip
      subst w_3781
      subst w_3782
      exact absurd c_51 c_3774
    · skip
      subst w_3795
      subst w_3796
      exact absurd c_51 c_3789
    · skip
      subst w_3808
      subst w_3809
      exact absurd c_51 c_3803
    · skip
      subst w_3820
      subst w_3821
      exact absurd c_51 c_3816
    · skip
      subst w_3831
      subst w_3832
      exact absurd c_51 c_3828
    · skip
      subst w_3848
      subst w_3849
      obtain ⟨hP, hD⟩ := va_join (wr := [(h0, .inr (10, [.ref x0, .int 0, .ref x1, .ref x2, .ref x3, .ref x4, .ref x5, .ref x6, .ref x7, .ref x8, .int 0, .int 3000])), (o0, .inl (kA 1, 1, .inr (.inl (vp_updL (fun _ => 0) 0 (n_apply (xs 1) 1 (n_cut (xs 2) ((((xs 4).toInt64) <<< ((32 : Int32).toInt64 &&& 63)) ||| (((xs 5).toInt64) &&& 4294967295))) (n_cut (xs 3) ((((xs 6).toInt64) <<< ((32 : Int32).toInt64 &&& 63)) ||| (((xs 7).toInt64) &&& 4294967295))))))))]) (w1 := [(m0, .inr (11, y0.set 9 (.int 0)))]) hP hD [0] [1, 2] rfl rfl (by decide) (by decide) hk1 hFc hP1 hD1
      generalize H1 = H at hP hS ⊢
      have hP : va_P D vwCl [(h0, .inr (10, [.ref x0, .int 0, .ref x1, .ref x2, .ref x3, .ref x4, .ref x5, .ref x6, .ref x7, .ref x8, .int 0, .int 3000])), (o0, .inl (kA 1, 1, .inr (.inl (vp_updL (fun _ => 0) 0 (n_apply (xs 1) 1 (n_cut (xs 2) ((((xs 4).toInt64) <<< ((32 : Int32).toInt64 &&& 63)) ||| (((xs 5).toInt64) &&& 4294967295))) (n_cut (xs 3) ((((xs 6).toInt64) <<< ((32 : Int32).toInt64 &&& 63)) ||| (((xs 7).toInt64) &&& 4294967295)))))))), (m0, .inr (11, y0.set 9 (.int 0)))] H := hP
      have hD : va_D A [(h0, .inr (10, [.ref x0, .int 0, .ref x1, .ref x2, .ref x3, .ref x4, .ref x5, .ref x6, .ref x7, .ref x8, .int 0, .int 3000])), (o0, .inl (kA 1, 1, .inr (.inl (vp_updL (fun _ => 0) 0 (n_apply (xs 1) 1 (n_cut (xs 2) ((((xs 4).toInt64) <<< ((32 : Int32).toInt64 &&& 63)) ||| (((xs 5).toInt64) &&& 4294967295))) (n_cut (xs 3) ((((xs 6).toInt64) <<< ((32 : Int32).toInt64 &&& 63)) ||| (((xs 7).toInt64) &&& 4294967295)))))))), (m0, .inr (11, y0.set 9 (.int 0)))] := hD
      refine lv_lstore (lv' := [(6, .long 0), (5, .int 0), (0, .ref b), (1, .ref h0), (2, .ref m0), (3, .ref o0), (4, .int 0)]) hx hb dL_law_1772 hl (by decide) rfl (fun ls hl => ?_)
      refine lv_aload_n hx hb dL_law_1774 rfl (lv_at hl 4 rfl) ?_
      have hPc := hP.sub (ws' := [(m0, .inr (11, y0.set 9 (.int 0)))]) [2] rfl
      have hDc := hD.sub (ws' := [(m0, .inr (11, y0.set 9 (.int 0)))]) [2] (by decide) rfl
      have hFc := va_free (wc := [(m0, .inr (11, y0.set 9 (.int 0)))]) hD hS hA [2] rfl
      refine va_calli (va_runV (As := []) (rest := []) ⟨hx, hb, hml, hown, hts⟩ (a94_X12_thrown l  D kA V H.size m0 (y0.set 9 (.int 0)) (fun k hk => (by rw [List.length_set]; exact (hq k hk))) (List.getElem?_set_self (hq 9 (by decide)))) (cwV 0 hts (gw_V gw_1879 gw_1880 gw_1881 gw_16 gw_1882) rfl rfl rfl (by decide +kernel) ⟨(Nat.le_of_ble_eq_true rfl), (Nat.le_of_ble_eq_true rfl)⟩) ⟨aP.blind, va_recv hK hP (ci := 11) (q0 := 2) rfl rfl, aP.pre hE hS hPc hK hDc hFc⟩ rfl rfl hl.1 rfl (lv_room (Nat.le_of_ble_eq_true rfl)) dL_law_1775 ⟨(Nat.le_of_ble_eq_true rfl), (Nat.le_of_ble_eq_true rfl)⟩) hS (fun q _ h => hFc q h) hFc (fun r_4028 u t H1 locs ht hvm hw hB hz1 hk1 hS => ?_)
      obtain ⟨hP1, hD1⟩ := hB
      rw [ht] at hP1
      try dsimp only at hw hP1 hD1
      have w_4029 := hw
      subst w_4029
      obtain ⟨hP, hD⟩ := va_join (wr := [(h0, .inr (10, [.ref x0, .int 0, .ref x1, .ref x2, .ref x3, .ref x4, .ref x5, .ref x6, .ref x7, .ref x8, .int 0, .int 3000])), (o0, .inl (kA 1, 1, .inr (.inl (vp_updL (fun _ => 0) 0 (n_apply (xs 1) 1 (n_cut (xs 2) ((((xs 4).toInt64) <<< ((32 : Int32).toInt64 &&& 63)) ||| (((xs 5).toInt64) &&& 4294967295))) (n_cut (xs 3) ((((xs 6).toInt64) <<< ((32 : Int32).toInt64 &&& 63)) ||| (((xs 7).toInt64) &&& 4294967295))))))))]) (w1 := [(m0, .inr (11, (y0.set 9 (.int 0))))]) hP hD [2] [0, 1] rfl rfl (by decide) (by decide) hk1 hFc hP1 hD1
      generalize H1 = H at hP hS ⊢
      have hP : va_P D vwCl [(h0, .inr (10, [.ref x0, .int 0, .ref x1, .ref x2, .ref x3, .ref x4, .ref x5, .ref x6, .ref x7, .ref x8, .int 0, .int 3000])), (o0, .inl (kA 1, 1, .inr (.inl (vp_updL (fun _ => 0) 0 (n_apply (xs 1) 1 (n_cut (xs 2) ((((xs 4).toInt64) <<< ((32 : Int32).toInt64 &&& 63)) ||| (((xs 5).toInt64) &&& 4294967295))) (n_cut (xs 3) ((((xs 6).toInt64) <<< ((32 : Int32).toInt64 &&& 63)) ||| (((xs 7).toInt64) &&& 4294967295)))))))), (m0, .inr (11, (y0.set 9 (.int 0))))] H := hP
      have hD : va_D A [(h0, .inr (10, [.ref x0, .int 0, .ref x1, .ref x2, .ref x3, .ref x4, .ref x5, .ref x6, .ref x7, .ref x8, .int 0, .int 3000])), (o0, .inl (kA 1, 1, .inr (.inl (vp_updL (fun _ => 0) 0 (n_apply (xs 1) 1 (n_cut (xs 2) ((((xs 4).toInt64) <<< ((32 : Int32).toInt64 &&& 63)) ||| (((xs 5).toInt64) &&& 4294967295))) (n_cut (xs 3) ((((xs 6).toInt64) <<< ((32 : Int32).toInt64 &&& 63)) ||| (((xs 7).toInt64) &&& 4294967295)))))))), (m0, .inr (11, (y0.set 9 (.int 0))))] := hD
      refine lv_iload hx hb dL_law_1778 (lv_at hl 1 rfl) ?_
      refine lv_icmp_eq (tgt := 1785) hx hb dL_law_1780 (by decide) (fun c_4030 => ?_) (fun c_4030 => ?_)
      · skip
        refine lv_iload hx hb dL_law_1785 (lv_at hl 1 rfl) ?_
        refine lv_if_ne (tgt := 1801) hx hb dL_law_1787 (by decide) (fun c_4031 => ?_) (fun c_4031 => ?_)
        · exact absurd (by decide) c_4031
        · skip
          refine lv_aload_n hx hb dL_law_1790 rfl (lv_at hl 5 rfl) ?_
          refine lv_iconst (v := 0) hx hb dL_law_1791 (by decide) ?_
          refine va_lald hx hb hK hP 1 1 rfl rfl (show vp_in 0 1 by unfold vp_in; decide) dL_law_1792 ?_
          refine W.eq (g2 := F0 m 1793 ls [.long (n_apply (xs 1) 1 (n_cut (xs 2) ((((xs 4).toInt64) <<< ((32 : Int32).toInt64 &&& 63)) ||| (((xs 5).toInt64) &&& 4294967295))) (n_cut (xs 3) ((((xs 6).toInt64) <<< ((32 : Int32).toInt64 &&& 63)) ||| (((xs 7).toInt64) &&& 4294967295))))]) rfl ?_
          refine lv_lload hx hb dL_law_1793 (lv_at hl 0 rfl) ?_
          refine W.lcmp hx hb dL_law_1795 ?_
          refine lv_if_eq (tgt := 1801) hx hb dL_law_1796 (by decide) (fun c_4032 => ?_) (fun c_4032 => ?_)
          · skip
            refine lv_goto (tgt := 1804) hx hb dL_law_1801 (by decide) ?_
            exact lk_tail hC hA2 (lv_sub hl [2, 6] rfl) hS (Nat.le_of_ble_eq_true rfl) (Nat.le_of_ble_eq_true rfl)
          · exact absurd ((lg_cmp_eq _ _).mpr (qx_h0 (qx_16 c_3844 c_3834 c_3845 c_3846) (by decide) c_3847)) c_4032
      · exact absurd (by decide) c_4030
    · skip
      subst w_3865
      subst w_3866
      obtain ⟨hP, hD⟩ := va_join (wr := [(h0, .inr (10, [.ref x0, .int 0, .ref x1, .ref x2, .ref x3, .ref x4, .ref x5, .ref x6, .ref x7, .ref x8, .int 0, .int 3000])), (o0, .inl (kA 1, 1, .inr (.inl (vp_updL (fun _ => 0) 0 (n_apply (xs 1) 1 (n_cut (xs 2) ((((xs 4).toInt64) <<< ((32 : Int32).toInt64 &&& 63)) ||| (((xs 5).toInt64) &&& 4294967295))) (n_cut (xs 3) ((((xs 6).toInt64) <<< ((32 : Int32).toInt64 &&& 63)) ||| (((xs 7).toInt64) &&& 4294967295))))))))]) (w1 := [(m0, .inr (11, y0.set 9 (.int 0)))]) hP hD [0] [1, 2] rfl rfl (by decide) (by decide) hk1 hFc hP1 hD1
      generalize H1 = H at hP hS ⊢
      have hP : va_P D vwCl [(h0, .inr (10, [.ref x0, .int 0, .ref x1, .ref x2, .ref x3, .ref x4, .ref x5, .ref x6, .ref x7, .ref x8, .int 0, .int 3000])), (o0, .inl (kA 1, 1, .inr (.inl (vp_updL (fun _ => 0) 0 (n_apply (xs 1) 1 (n_cut (xs 2) ((((xs 4).toInt64) <<< ((32 : Int32).toInt64 &&& 63)) ||| (((xs 5).toInt64) &&& 4294967295))) (n_cut (xs 3) ((((xs 6).toInt64) <<< ((32 : Int32).toInt64 &&& 63)) ||| (((xs 7).toInt64) &&& 4294967295)))))))), (m0, .inr (11, y0.set 9 (.int 0)))] H := hP
      have hD : va_D A [(h0, .inr (10, [.ref x0, .int 0, .ref x1, .ref x2, .ref x3, .ref x4, .ref x5, .ref x6, .ref x7, .ref x8, .int 0, .int 3000])), (o0, .inl (kA 1, 1, .inr (.inl (vp_updL (fun _ => 0) 0 (n_apply (xs 1) 1 (n_cut (xs 2) ((((xs 4).toInt64) <<< ((32 : Int32).toInt64 &&& 63)) ||| (((xs 5).toInt64) &&& 4294967295))) (n_cut (xs 3) ((((xs 6).toInt64) <<< ((32 : Int32).toInt64 &&& 63)) ||| (((xs 7).toInt64) &&& 4294967295)))))))), (m0, .inr (11, y0.set 9 (.int 0)))] := hD
      refine lv_lstore (lv' := [(6, .long 1), (5, .int 0), (0, .ref b), (1, .ref h0), (2, .ref m0), (3, .ref o0), (4, .int 0)]) hx hb dL_law_1772 hl (by decide) rfl (fun ls hl => ?_)
      refine lv_aload_n hx hb dL_law_1774 rfl (lv_at hl 4 rfl) ?_
      have hPc := hP.sub (ws' := [(m0, .inr (11, y0.set 9 (.int 0)))]) [2] rfl
      have hDc := hD.sub (ws' := [(m0, .inr (11, y0.set 9 (.int 0)))]) [2] (by decide) rfl
      have hFc := va_free (wc := [(m0, .inr (11, y0.set 9 (.int 0)))]) hD hS hA [2] rfl
      refine va_calli (va_runV (As := []) (rest := []) ⟨hx, hb, hml, hown, hts⟩ (a94_X12_thrown l  D kA V H.size m0 (y0.set 9 (.int 0)) (fun k hk => (by rw [List.length_set]; exact (hq k hk))) (List.getElem?_set_self (hq 9 (by decide)))) (cwV 0 hts (gw_V gw_1879 gw_1880 gw_1881 gw_16 gw_1882) rfl rfl rfl (by decide +kernel) ⟨(Nat.le_of_ble_eq_true rfl), (Nat.le_of_ble_eq_true rfl)⟩) ⟨aP.blind, va_recv hK hP (ci := 11) (q0 := 2) rfl rfl, aP.pre hE hS hPc hK hDc hFc⟩ rfl rfl hl.1 rfl (lv_room (Nat.le_of_ble_eq_true rfl)) dL_law_1775 ⟨(Nat.le_of_ble_eq_true rfl), (Nat.le_of_ble_eq_true rfl)⟩) hS (fun q _ h => hFc q h) hFc (fun r_4033 u t H1 locs ht hvm hw hB hz1 hk1 hS => ?_)
      obtain ⟨hP1, hD1⟩ := hB
      rw [ht] at hP1
      try dsimp only at hw hP1 hD1
      have w_4034 := hw
      subst w_4034
      obtain ⟨hP, hD⟩ := va_join (wr := [(h0, .inr (10, [.ref x0, .int 0, .ref x1, .ref x2, .ref x3, .ref x4, .ref x5, .ref x6, .ref x7, .ref x8, .int 0, .int 3000])), (o0, .inl (kA 1, 1, .inr (.inl (vp_updL (fun _ => 0) 0 (n_apply (xs 1) 1 (n_cut (xs 2) ((((xs 4).toInt64) <<< ((32 : Int32).toInt64 &&& 63)) ||| (((xs 5).toInt64) &&& 4294967295))) (n_cut (xs 3) ((((xs 6).toInt64) <<< ((32 : Int32).toInt64 &&& 63)) ||| (((xs 7).toInt64) &&& 4294967295))))))))]) (w1 := [(m0, .inr (11, (y0.set 9 (.int 0))))]) hP hD [2] [0, 1] rfl rfl (by decide) (by decide) hk1 hFc hP1 hD1
      generalize H1 = H at hP hS ⊢
      have hP : va_P D vwCl [(h0, .inr (10, [.ref x0, .int 0, .ref x1, .ref x2, .ref x3, .ref x4, .ref x5, .ref x6, .ref x7, .ref x8, .int 0, .int 3000])), (o0, .inl (kA 1, 1, .inr (.inl (vp_updL (fun _ => 0) 0 (n_apply (xs 1) 1 (n_cut (xs 2) ((((xs 4).toInt64) <<< ((32 : Int32).toInt64 &&& 63)) ||| (((xs 5).toInt64) &&& 4294967295))) (n_cut (xs 3) ((((xs 6).toInt64) <<< ((32 : Int32).toInt64 &&& 63)) ||| (((xs 7).toInt64) &&& 4294967295)))))))), (m0, .inr (11, (y0.set 9 (.int 0))))] H := hP
      have hD : va_D A [(h0, .inr (10, [.ref x0, .int 0, .ref x1, .ref x2, .ref x3, .ref x4, .ref x5, .ref x6, .ref x7, .ref x8, .int 0, .int 3000])), (o0, .inl (kA 1, 1, .inr (.inl (vp_updL (fun _ => 0) 0 (n_apply (xs 1) 1 (n_cut (xs 2) ((((xs 4).toInt64) <<< ((32 : Int32).toInt64 &&& 63)) ||| (((xs 5).toInt64) &&& 4294967295))) (n_cut (xs 3) ((((xs 6).toInt64) <<< ((32 : Int32).toInt64 &&& 63)) ||| (((xs 7).toInt64) &&& 4294967295)))))))), (m0, .inr (11, (y0.set 9 (.int 0))))] := hD
      refine lv_iload hx hb dL_law_1778 (lv_at hl 1 rfl) ?_
      refine lv_icmp_eq (tgt := 1785) hx hb dL_law_1780 (by decide) (fun c_4035 => ?_) (fun c_4035 => ?_)
      · skip
        refine lv_iload hx hb dL_law_1785 (lv_at hl 1 rfl) ?_
        refine lv_if_ne (tgt := 1801) hx hb dL_law_1787 (by decide) (fun c_4036 => ?_) (fun c_4036 => ?_)
        · exact absurd (by decide) c_4036
        · skip
          refine lv_aload_n hx hb dL_law_1790 rfl (lv_at hl 5 rfl) ?_
          refine lv_iconst (v := 0) hx hb dL_law_1791 (by decide) ?_
          refine va_lald hx hb hK hP 1 1 rfl rfl (show vp_in 0 1 by unfold vp_in; decide) dL_law_1792 ?_
          refine W.eq (g2 := F0 m 1793 ls [.long (n_apply (xs 1) 1 (n_cut (xs 2) ((((xs 4).toInt64) <<< ((32 : Int32).toInt64 &&& 63)) ||| (((xs 5).toInt64) &&& 4294967295))) (n_cut (xs 3) ((((xs 6).toInt64) <<< ((32 : Int32).toInt64 &&& 63)) ||| (((xs 7).toInt64) &&& 4294967295))))]) rfl ?_
          refine lv_lload hx hb dL_law_1793 (lv_at hl 0 rfl) ?_
          refine W.lcmp hx hb dL_law_1795 ?_
          refine lv_if_eq (tgt := 1801) hx hb dL_law_1796 (by decide) (fun c_4037 => ?_) (fun c_4037 => ?_)
          · skip
            refine lv_goto (tgt := 1804) hx hb dL_law_1801 (by decide) ?_
            exact lk_tail hC hA2 (lv_sub hl [2, 6] rfl) hS (Nat.le_of_ble_eq_true rfl) (Nat.le_of_ble_eq_true rfl)
          · exact absurd ((lg_cmp_eq _ _).mpr (qx_h1 (qx_16 c_3861 c_3851 c_3862 c_3863) (by decide) c_3864)) c_4037
      · exact absurd (by decide) c_4035
    · skip
      subst w_3881
      subst w_3882
      obtain ⟨hP, hD⟩ := va_join (wr := [(h0, .inr (10, [.ref x0, .int 0, .ref x1, .ref x2, .ref x3, .ref x4, .ref x5, .ref x6, .ref x7, .ref x8, .int 0, .int 3000])), (o0, .inl (kA 1, 1, .inr (.inl (vp_updL (fun _ => 0) 0 (n_apply (xs 1) 1 (n_cut (xs 2) ((((xs 4).toInt64) <<< ((32 : Int32).toInt64 &&& 63)) ||| (((xs 5).toInt64) &&& 4294967295))) (n_cut (xs 3) ((((xs 6).toInt64) <<< ((32 : Int32).toInt64 &&& 63)) ||| (((xs 7).toInt64) &&& 4294967295))))))))]) (w1 := [(m0, .inr (11, y0.set 9 (.int 0)))]) hP hD [0] [1, 2] rfl rfl (by decide) (by decide) hk1 hFc hP1 hD1
      generalize H1 = H at hP hS ⊢
      have hP : va_P D vwCl [(h0, .inr (10, [.ref x0, .int 0, .ref x1, .ref x2, .ref x3, .ref x4, .ref x5, .ref x6, .ref x7, .ref x8, .int 0, .int 3000])), (o0, .inl (kA 1, 1, .inr (.inl (vp_updL (fun _ => 0) 0 (n_apply (xs 1) 1 (n_cut (xs 2) ((((xs 4).toInt64) <<< ((32 : Int32).toInt64 &&& 63)) ||| (((xs 5).toInt64) &&& 4294967295))) (n_cut (xs 3) ((((xs 6).toInt64) <<< ((32 : Int32).toInt64 &&& 63)) ||| (((xs 7).toInt64) &&& 4294967295)))))))), (m0, .inr (11, y0.set 9 (.int 0)))] H := hP
      have hD : va_D A [(h0, .inr (10, [.ref x0, .int 0, .ref x1, .ref x2, .ref x3, .ref x4, .ref x5, .ref x6, .ref x7, .ref x8, .int 0, .int 3000])), (o0, .inl (kA 1, 1, .inr (.inl (vp_updL (fun _ => 0) 0 (n_apply (xs 1) 1 (n_cut (xs 2) ((((xs 4).toInt64) <<< ((32 : Int32).toInt64 &&& 63)) ||| (((xs 5).toInt64) &&& 4294967295))) (n_cut (xs 3) ((((xs 6).toInt64) <<< ((32 : Int32).toInt64 &&& 63)) ||| (((xs 7).toInt64) &&& 4294967295)))))))), (m0, .inr (11, y0.set 9 (.int 0)))] := hD
      refine lv_lstore (lv' := [(6, .long ((n_cut (xs 2) ((((xs 4).toInt64) <<< ((32 : Int32).toInt64 &&& 63)) ||| (((xs 5).toInt64) &&& 4294967295))) ^^^ (-1))), (5, .int 0), (0, .ref b), (1, .ref h0), (2, .ref m0), (3, .ref o0), (4, .int 0)]) hx hb dL_law_1772 hl (by decide) rfl (fun ls hl => ?_)
      refine lv_aload_n hx hb dL_law_1774 rfl (lv_at hl 4 rfl) ?_
      have hPc := hP.sub (ws' := [(m0, .inr (11, y0.set 9 (.int 0)))]) [2] rfl
      have hDc := hD.sub (ws' := [(m0, .inr (11, y0.set 9 (.int 0)))]) [2] (by decide) rfl
      have hFc := va_free (wc := [(m0, .inr (11, y0.set 9 (.int 0)))]) hD hS hA [2] rfl
      refine va_calli (va_runV (As := []) (rest := []) ⟨hx, hb, hml, hown, hts⟩ (a94_X12_thrown l  D kA V H.size m0 (y0.set 9 (.int 0)) (fun k hk => (by rw [List.length_set]; exact (hq k hk))) (List.getElem?_set_self (hq 9 (by decide)))) (cwV 0 hts (gw_V gw_1879 gw_1880 gw_1881 gw_16 gw_1882) rfl rfl rfl (by decide +kernel) ⟨(Nat.le_of_ble_eq_true rfl), (Nat.le_of_ble_eq_true rfl)⟩) ⟨aP.blind, va_recv hK hP (ci := 11) (q0 := 2) rfl rfl, aP.pre hE hS hPc hK hDc hFc⟩ rfl rfl hl.1 rfl (lv_room (Nat.le_of_ble_eq_true rfl)) dL_law_1775 ⟨(Nat.le_of_ble_eq_true rfl), (Nat.le_of_ble_eq_true rfl)⟩) hS (fun q _ h => hFc q h) hFc (fun r_4038 u t H1 locs ht hvm hw hB hz1 hk1 hS => ?_)
      obtain ⟨hP1, hD1⟩ := hB
      rw [ht] at hP1
      try dsimp only at hw hP1 hD1
      have w_4039 := hw
      subst w_4039
      obtain ⟨hP, hD⟩ := va_join (wr := [(h0, .inr (10, [.ref x0, .int 0, .ref x1, .ref x2, .ref x3, .ref x4, .ref x5, .ref x6, .ref x7, .ref x8, .int 0, .int 3000])), (o0, .inl (kA 1, 1, .inr (.inl (vp_updL (fun _ => 0) 0 (n_apply (xs 1) 1 (n_cut (xs 2) ((((xs 4).toInt64) <<< ((32 : Int32).toInt64 &&& 63)) ||| (((xs 5).toInt64) &&& 4294967295))) (n_cut (xs 3) ((((xs 6).toInt64) <<< ((32 : Int32).toInt64 &&& 63)) ||| (((xs 7).toInt64) &&& 4294967295))))))))]) (w1 := [(m0, .inr (11, (y0.set 9 (.int 0))))]) hP hD [2] [0, 1] rfl rfl (by decide) (by decide) hk1 hFc hP1 hD1
      generalize H1 = H at hP hS ⊢
      have hP : va_P D vwCl [(h0, .inr (10, [.ref x0, .int 0, .ref x1, .ref x2, .ref x3, .ref x4, .ref x5, .ref x6, .ref x7, .ref x8, .int 0, .int 3000])), (o0, .inl (kA 1, 1, .inr (.inl (vp_updL (fun _ => 0) 0 (n_apply (xs 1) 1 (n_cut (xs 2) ((((xs 4).toInt64) <<< ((32 : Int32).toInt64 &&& 63)) ||| (((xs 5).toInt64) &&& 4294967295))) (n_cut (xs 3) ((((xs 6).toInt64) <<< ((32 : Int32).toInt64 &&& 63)) ||| (((xs 7).toInt64) &&& 4294967295)))))))), (m0, .inr (11, (y0.set 9 (.int 0))))] H := hP
      have hD : va_D A [(h0, .inr (10, [.ref x0, .int 0, .ref x1, .ref x2, .ref x3, .ref x4, .ref x5, .ref x6, .ref x7, .ref x8, .int 0, .int 3000])), (o0, .inl (kA 1, 1, .inr (.inl (vp_updL (fun _ => 0) 0 (n_apply (xs 1) 1 (n_cut (xs 2) ((((xs 4).toInt64) <<< ((32 : Int32).toInt64 &&& 63)) ||| (((xs 5).toInt64) &&& 4294967295))) (n_cut (xs 3) ((((xs 6).toInt64) <<< ((32 : Int32).toInt64 &&& 63)) ||| (((xs 7).toInt64) &&& 4294967295)))))))), (m0, .inr (11, (y0.set 9 (.int 0))))] := hD
      refine lv_iload hx hb dL_law_1778 (lv_at hl 1 rfl) ?_
      refine lv_icmp_eq (tgt := 1785) hx hb dL_law_1780 (by decide) (fun c_4040 => ?_) (fun c_4040 => ?_)
      · skip
        refine lv_iload hx hb dL_law_1785 (lv_at hl 1 rfl) ?_
        refine lv_if_ne (tgt := 1801) hx hb dL_law_1787 (by decide) (fun c_4041 => ?_) (fun c_4041 => ?_)
        · exact absurd (by decide) c_4041
        · skip
          refine lv_aload_n hx hb dL_law_1790 rfl (lv_at hl 5 rfl) ?_
          refine lv_iconst (v := 0) hx hb dL_law_1791 (by decide) ?_
          refine va_lald hx hb hK hP 1 1 rfl rfl (show vp_in 0 1 by unfold vp_in; decide) dL_law_1792 ?_
          refine W.eq (g2 := F0 m 1793 ls [.long (n_apply (xs 1) 1 (n_cut (xs 2) ((((xs 4).toInt64) <<< ((32 : Int32).toInt64 &&& 63)) ||| (((xs 5).toInt64) &&& 4294967295))) (n_cut (xs 3) ((((xs 6).toInt64) <<< ((32 : Int32).toInt64 &&& 63)) ||| (((xs 7).toInt64) &&& 4294967295))))]) rfl ?_
          refine lv_lload hx hb dL_law_1793 (lv_at hl 0 rfl) ?_
          refine W.lcmp hx hb dL_law_1795 ?_
          refine lv_if_eq (tgt := 1801) hx hb dL_law_1796 (by decide) (fun c_4042 => ?_) (fun c_4042 => ?_)
          · skip
            refine lv_goto (tgt := 1804) hx hb dL_law_1801 (by decide) ?_
            exact lk_tail hC hA2 (lv_sub hl [2, 6] rfl) hS (Nat.le_of_ble_eq_true rfl) (Nat.le_of_ble_eq_true rfl)
          · exact absurd ((lg_cmp_eq _ _).mpr (qx_g1 c_3880)) c_4042
      · exact absurd (by decide) c_4040
    · skip
      subst w_3896
      subst w_3897
      obtain ⟨hP, hD⟩ := va_join (wr := [(h0, .inr (10, [.ref x0, .int 0, .ref x1, .ref x2, .ref x3, .ref x4, .ref x5, .ref x6, .ref x7, .ref x8, .int 0, .int 3000])), (o0, .inl (kA 1, 1, .inr (.inl (vp_updL (fun _ => 0) 0 (n_apply (xs 1) 1 (n_cut (xs 2) ((((xs 4).toInt64) <<< ((32 : Int32).toInt64 &&& 63)) ||| (((xs 5).toInt64) &&& 4294967295))) (n_cut (xs 3) ((((xs 6).toInt64) <<< ((32 : Int32).toInt64 &&& 63)) ||| (((xs 7).toInt64) &&& 4294967295))))))))]) (w1 := [(m0, .inr (11, y0.set 9 (.int 0)))]) hP hD [0] [1, 2] rfl rfl (by decide) (by decide) hk1 hFc hP1 hD1
      generalize H1 = H at hP hS ⊢
      have hP : va_P D vwCl [(h0, .inr (10, [.ref x0, .int 0, .ref x1, .ref x2, .ref x3, .ref x4, .ref x5, .ref x6, .ref x7, .ref x8, .int 0, .int 3000])), (o0, .inl (kA 1, 1, .inr (.inl (vp_updL (fun _ => 0) 0 (n_apply (xs 1) 1 (n_cut (xs 2) ((((xs 4).toInt64) <<< ((32 : Int32).toInt64 &&& 63)) ||| (((xs 5).toInt64) &&& 4294967295))) (n_cut (xs 3) ((((xs 6).toInt64) <<< ((32 : Int32).toInt64 &&& 63)) ||| (((xs 7).toInt64) &&& 4294967295)))))))), (m0, .inr (11, y0.set 9 (.int 0)))] H := hP
      have hD : va_D A [(h0, .inr (10, [.ref x0, .int 0, .ref x1, .ref x2, .ref x3, .ref x4, .ref x5, .ref x6, .ref x7, .ref x8, .int 0, .int 3000])), (o0, .inl (kA 1, 1, .inr (.inl (vp_updL (fun _ => 0) 0 (n_apply (xs 1) 1 (n_cut (xs 2) ((((xs 4).toInt64) <<< ((32 : Int32).toInt64 &&& 63)) ||| (((xs 5).toInt64) &&& 4294967295))) (n_cut (xs 3) ((((xs 6).toInt64) <<< ((32 : Int32).toInt64 &&& 63)) ||| (((xs 7).toInt64) &&& 4294967295)))))))), (m0, .inr (11, y0.set 9 (.int 0)))] := hD
      refine lv_lstore (lv' := [(6, .long (r_worked 1 (-(n_cut (xs 2) ((((xs 4).toInt64) <<< ((32 : Int32).toInt64 &&& 63)) ||| (((xs 5).toInt64) &&& 4294967295)))))), (5, .int 0), (0, .ref b), (1, .ref h0), (2, .ref m0), (3, .ref o0), (4, .int 0)]) hx hb dL_law_1772 hl (by decide) rfl (fun ls hl => ?_)
      refine lv_aload_n hx hb dL_law_1774 rfl (lv_at hl 4 rfl) ?_
      have hPc := hP.sub (ws' := [(m0, .inr (11, y0.set 9 (.int 0)))]) [2] rfl
      have hDc := hD.sub (ws' := [(m0, .inr (11, y0.set 9 (.int 0)))]) [2] (by decide) rfl
      have hFc := va_free (wc := [(m0, .inr (11, y0.set 9 (.int 0)))]) hD hS hA [2] rfl
      refine va_calli (va_runV (As := []) (rest := []) ⟨hx, hb, hml, hown, hts⟩ (a94_X12_thrown l  D kA V H.size m0 (y0.set 9 (.int 0)) (fun k hk => (by rw [List.length_set]; exact (hq k hk))) (List.getElem?_set_self (hq 9 (by decide)))) (cwV 0 hts (gw_V gw_1879 gw_1880 gw_1881 gw_16 gw_1882) rfl rfl rfl (by decide +kernel) ⟨(Nat.le_of_ble_eq_true rfl), (Nat.le_of_ble_eq_true rfl)⟩) ⟨aP.blind, va_recv hK hP (ci := 11) (q0 := 2) rfl rfl, aP.pre hE hS hPc hK hDc hFc⟩ rfl rfl hl.1 rfl (lv_room (Nat.le_of_ble_eq_true rfl)) dL_law_1775 ⟨(Nat.le_of_ble_eq_true rfl), (Nat.le_of_ble_eq_true rfl)⟩) hS (fun q _ h => hFc q h) hFc (fun r_4043 u t H1 locs ht hvm hw hB hz1 hk1 hS => ?_)
      obtain ⟨hP1, hD1⟩ := hB
      rw [ht] at hP1
      try dsimp only at hw hP1 hD1
      have w_4044 := hw
      subst w_4044
      obtain ⟨hP, hD⟩ := va_join (wr := [(h0, .inr (10, [.ref x0, .int 0, .ref x1, .ref x2, .ref x3, .ref x4, .ref x5, .ref x6, .ref x7, .ref x8, .int 0, .int 3000])), (o0, .inl (kA 1, 1, .inr (.inl (vp_updL (fun _ => 0) 0 (n_apply (xs 1) 1 (n_cut (xs 2) ((((xs 4).toInt64) <<< ((32 : Int32).toInt64 &&& 63)) ||| (((xs 5).toInt64) &&& 4294967295))) (n_cut (xs 3) ((((xs 6).toInt64) <<< ((32 : Int32).toInt64 &&& 63)) ||| (((xs 7).toInt64) &&& 4294967295))))))))]) (w1 := [(m0, .inr (11, (y0.set 9 (.int 0))))]) hP hD [2] [0, 1] rfl rfl (by decide) (by decide) hk1 hFc hP1 hD1
      generalize H1 = H at hP hS ⊢
      have hP : va_P D vwCl [(h0, .inr (10, [.ref x0, .int 0, .ref x1, .ref x2, .ref x3, .ref x4, .ref x5, .ref x6, .ref x7, .ref x8, .int 0, .int 3000])), (o0, .inl (kA 1, 1, .inr (.inl (vp_updL (fun _ => 0) 0 (n_apply (xs 1) 1 (n_cut (xs 2) ((((xs 4).toInt64) <<< ((32 : Int32).toInt64 &&& 63)) ||| (((xs 5).toInt64) &&& 4294967295))) (n_cut (xs 3) ((((xs 6).toInt64) <<< ((32 : Int32).toInt64 &&& 63)) ||| (((xs 7).toInt64) &&& 4294967295)))))))), (m0, .inr (11, (y0.set 9 (.int 0))))] H := hP
      have hD : va_D A [(h0, .inr (10, [.ref x0, .int 0, .ref x1, .ref x2, .ref x3, .ref x4, .ref x5, .ref x6, .ref x7, .ref x8, .int 0, .int 3000])), (o0, .inl (kA 1, 1, .inr (.inl (vp_updL (fun _ => 0) 0 (n_apply (xs 1) 1 (n_cut (xs 2) ((((xs 4).toInt64) <<< ((32 : Int32).toInt64 &&& 63)) ||| (((xs 5).toInt64) &&& 4294967295))) (n_cut (xs 3) ((((xs 6).toInt64) <<< ((32 : Int32).toInt64 &&& 63)) ||| (((xs 7).toInt64) &&& 4294967295)))))))), (m0, .inr (11, (y0.set 9 (.int 0))))] := hD
      refine lv_iload hx hb dL_law_1778 (lv_at hl 1 rfl) ?_
      refine lv_icmp_eq (tgt := 1785) hx hb dL_law_1780 (by decide) (fun c_4045 => ?_) (fun c_4045 => ?_)
      · skip
        refine lv_iload hx hb dL_law_1785 (lv_at hl 1 rfl) ?_
        refine lv_if_ne (tgt := 1801) hx hb dL_law_1787 (by decide) (fun c_4046 => ?_) (fun c_4046 => ?_)
        · exact absurd (by decide) c_4046
        · skip
          refine lv_aload_n hx hb dL_law_1790 rfl (lv_at hl 5 rfl) ?_
          refine lv_iconst (v := 0) hx hb dL_law_1791 (by decide) ?_
          refine va_lald hx hb hK hP 1 1 rfl rfl (show vp_in 0 1 by unfold vp_in; decide) dL_law_1792 ?_
          refine W.eq (g2 := F0 m 1793 ls [.long (n_apply (xs 1) 1 (n_cut (xs 2) ((((xs 4).toInt64) <<< ((32 : Int32).toInt64 &&& 63)) ||| (((xs 5).toInt64) &&& 4294967295))) (n_cut (xs 3) ((((xs 6).toInt64) <<< ((32 : Int32).toInt64 &&& 63)) ||| (((xs 7).toInt64) &&& 4294967295))))]) rfl ?_
          refine lv_lload hx hb dL_law_1793 (lv_at hl 0 rfl) ?_
          refine W.lcmp hx hb dL_law_1795 ?_
          refine lv_if_eq (tgt := 1801) hx hb dL_law_1796 (by decide) (fun c_4047 => ?_) (fun c_4047 => ?_)
          · skip
            refine lv_goto (tgt := 1804) hx hb dL_law_1801 (by decide) ?_
            exact lk_tail hC hA2 (lv_sub hl [2, 6] rfl) hS (Nat.le_of_ble_eq_true rfl) (Nat.le_of_ble_eq_true rfl)
          · exact absurd ((lg_cmp_eq _ _).mpr (qx_f1 c_3895)) c_4047
      · exact absurd (by decide) c_4045
    · skip
      subst w_3910
      subst w_3911
      obtain ⟨hP, hD⟩ := va_join (wr := [(h0, .inr (10, [.ref x0, .int 0, .ref x1, .ref x2, .ref x3, .ref x4, .ref x5, .ref x6, .ref x7, .ref x8, .int 0, .int 3000])), (o0, .inl (kA 1, 1, .inr (.inl (vp_updL (fun _ => 0) 0 (n_apply (xs 1) 1 (n_cut (xs 2) ((((xs 4).toInt64) <<< ((32 : Int32).toInt64 &&& 63)) ||| (((xs 5).toInt64) &&& 4294967295))) (n_cut (xs 3) ((((xs 6).toInt64) <<< ((32 : Int32).toInt64 &&& 63)) ||| (((xs 7).toInt64) &&& 4294967295))))))))]) (w1 := [(m0, .inr (11, y0.set 9 (.int 0)))]) hP hD [0] [1, 2] rfl rfl (by decide) (by decide) hk1 hFc hP1 hD1
      generalize H1 = H at hP hS ⊢
      have hP : va_P D vwCl [(h0, .inr (10, [.ref x0, .int 0, .ref x1, .ref x2, .ref x3, .ref x4, .ref x5, .ref x6, .ref x7, .ref x8, .int 0, .int 3000])), (o0, .inl (kA 1, 1, .inr (.inl (vp_updL (fun _ => 0) 0 (n_apply (xs 1) 1 (n_cut (xs 2) ((((xs 4).toInt64) <<< ((32 : Int32).toInt64 &&& 63)) ||| (((xs 5).toInt64) &&& 4294967295))) (n_cut (xs 3) ((((xs 6).toInt64) <<< ((32 : Int32).toInt64 &&& 63)) ||| (((xs 7).toInt64) &&& 4294967295)))))))), (m0, .inr (11, y0.set 9 (.int 0)))] H := hP
      have hD : va_D A [(h0, .inr (10, [.ref x0, .int 0, .ref x1, .ref x2, .ref x3, .ref x4, .ref x5, .ref x6, .ref x7, .ref x8, .int 0, .int 3000])), (o0, .inl (kA 1, 1, .inr (.inl (vp_updL (fun _ => 0) 0 (n_apply (xs 1) 1 (n_cut (xs 2) ((((xs 4).toInt64) <<< ((32 : Int32).toInt64 &&& 63)) ||| (((xs 5).toInt64) &&& 4294967295))) (n_cut (xs 3) ((((xs 6).toInt64) <<< ((32 : Int32).toInt64 &&& 63)) ||| (((xs 7).toInt64) &&& 4294967295)))))))), (m0, .inr (11, y0.set 9 (.int 0)))] := hD
      refine lv_lstore (lv' := [(6, .long (r_special ((xs 1) - 6) 1 (n_cut (xs 2) ((((xs 4).toInt64) <<< ((32 : Int32).toInt64 &&& 63)) ||| (((xs 5).toInt64) &&& 4294967295))) 0)), (5, .int 0), (0, .ref b), (1, .ref h0), (2, .ref m0), (3, .ref o0), (4, .int 0)]) hx hb dL_law_1772 hl (by decide) rfl (fun ls hl => ?_)
      refine lv_aload_n hx hb dL_law_1774 rfl (lv_at hl 4 rfl) ?_
      have hPc := hP.sub (ws' := [(m0, .inr (11, y0.set 9 (.int 0)))]) [2] rfl
      have hDc := hD.sub (ws' := [(m0, .inr (11, y0.set 9 (.int 0)))]) [2] (by decide) rfl
      have hFc := va_free (wc := [(m0, .inr (11, y0.set 9 (.int 0)))]) hD hS hA [2] rfl
      refine va_calli (va_runV (As := []) (rest := []) ⟨hx, hb, hml, hown, hts⟩ (a94_X12_thrown l  D kA V H.size m0 (y0.set 9 (.int 0)) (fun k hk => (by rw [List.length_set]; exact (hq k hk))) (List.getElem?_set_self (hq 9 (by decide)))) (cwV 0 hts (gw_V gw_1879 gw_1880 gw_1881 gw_16 gw_1882) rfl rfl rfl (by decide +kernel) ⟨(Nat.le_of_ble_eq_true rfl), (Nat.le_of_ble_eq_true rfl)⟩) ⟨aP.blind, va_recv hK hP (ci := 11) (q0 := 2) rfl rfl, aP.pre hE hS hPc hK hDc hFc⟩ rfl rfl hl.1 rfl (lv_room (Nat.le_of_ble_eq_true rfl)) dL_law_1775 ⟨(Nat.le_of_ble_eq_true rfl), (Nat.le_of_ble_eq_true rfl)⟩) hS (fun q _ h => hFc q h) hFc (fun r_4048 u t H1 locs ht hvm hw hB hz1 hk1 hS => ?_)
      obtain ⟨hP1, hD1⟩ := hB
      rw [ht] at hP1
      try dsimp only at hw hP1 hD1
      have w_4049 := hw
      subst w_4049
      obtain ⟨hP, hD⟩ := va_join (wr := [(h0, .inr (10, [.ref x0, .int 0, .ref x1, .ref x2, .ref x3, .ref x4, .ref x5, .ref x6, .ref x7, .ref x8, .int 0, .int 3000])), (o0, .inl (kA 1, 1, .inr (.inl (vp_updL (fun _ => 0) 0 (n_apply (xs 1) 1 (n_cut (xs 2) ((((xs 4).toInt64) <<< ((32 : Int32).toInt64 &&& 63)) ||| (((xs 5).toInt64) &&& 4294967295))) (n_cut (xs 3) ((((xs 6).toInt64) <<< ((32 : Int32).toInt64 &&& 63)) ||| (((xs 7).toInt64) &&& 4294967295))))))))]) (w1 := [(m0, .inr (11, (y0.set 9 (.int 0))))]) hP hD [2] [0, 1] rfl rfl (by decide) (by decide) hk1 hFc hP1 hD1
      generalize H1 = H at hP hS ⊢
      have hP : va_P D vwCl [(h0, .inr (10, [.ref x0, .int 0, .ref x1, .ref x2, .ref x3, .ref x4, .ref x5, .ref x6, .ref x7, .ref x8, .int 0, .int 3000])), (o0, .inl (kA 1, 1, .inr (.inl (vp_updL (fun _ => 0) 0 (n_apply (xs 1) 1 (n_cut (xs 2) ((((xs 4).toInt64) <<< ((32 : Int32).toInt64 &&& 63)) ||| (((xs 5).toInt64) &&& 4294967295))) (n_cut (xs 3) ((((xs 6).toInt64) <<< ((32 : Int32).toInt64 &&& 63)) ||| (((xs 7).toInt64) &&& 4294967295)))))))), (m0, .inr (11, (y0.set 9 (.int 0))))] H := hP
      have hD : va_D A [(h0, .inr (10, [.ref x0, .int 0, .ref x1, .ref x2, .ref x3, .ref x4, .ref x5, .ref x6, .ref x7, .ref x8, .int 0, .int 3000])), (o0, .inl (kA 1, 1, .inr (.inl (vp_updL (fun _ => 0) 0 (n_apply (xs 1) 1 (n_cut (xs 2) ((((xs 4).toInt64) <<< ((32 : Int32).toInt64 &&& 63)) ||| (((xs 5).toInt64) &&& 4294967295))) (n_cut (xs 3) ((((xs 6).toInt64) <<< ((32 : Int32).toInt64 &&& 63)) ||| (((xs 7).toInt64) &&& 4294967295)))))))), (m0, .inr (11, (y0.set 9 (.int 0))))] := hD
      refine lv_iload hx hb dL_law_1778 (lv_at hl 1 rfl) ?_
      refine lv_icmp_eq (tgt := 1785) hx hb dL_law_1780 (by decide) (fun c_4050 => ?_) (fun c_4050 => ?_)
      · skip
        refine lv_iload hx hb dL_law_1785 (lv_at hl 1 rfl) ?_
        refine lv_if_ne (tgt := 1801) hx hb dL_law_1787 (by decide) (fun c_4051 => ?_) (fun c_4051 => ?_)
        · exact absurd (by decide) c_4051
        · skip
          refine lv_aload_n hx hb dL_law_1790 rfl (lv_at hl 5 rfl) ?_
          refine lv_iconst (v := 0) hx hb dL_law_1791 (by decide) ?_
          refine va_lald hx hb hK hP 1 1 rfl rfl (show vp_in 0 1 by unfold vp_in; decide) dL_law_1792 ?_
          refine W.eq (g2 := F0 m 1793 ls [.long (n_apply (xs 1) 1 (n_cut (xs 2) ((((xs 4).toInt64) <<< ((32 : Int32).toInt64 &&& 63)) ||| (((xs 5).toInt64) &&& 4294967295))) (n_cut (xs 3) ((((xs 6).toInt64) <<< ((32 : Int32).toInt64 &&& 63)) ||| (((xs 7).toInt64) &&& 4294967295))))]) rfl ?_
          refine lv_lload hx hb dL_law_1793 (lv_at hl 0 rfl) ?_
          refine W.lcmp hx hb dL_law_1795 ?_
          refine lv_if_eq (tgt := 1801) hx hb dL_law_1796 (by decide) (fun c_4052 => ?_) (fun c_4052 => ?_)
          · skip
            refine lv_goto (tgt := 1804) hx hb dL_law_1801 (by decide) ?_
            exact lk_tail hC hA2 (lv_sub hl [2, 6] rfl) hS (Nat.le_of_ble_eq_true rfl) (Nat.le_of_ble_eq_true rfl)
          · exact absurd ((lg_cmp_eq _ _).mpr (qx_e c_3907 c_3908 c_3909)) c_4052
      · exact absurd (by decide) c_4050
    · skip
      subst w_3923
      subst w_3924
      obtain ⟨hP, hD⟩ := va_join (wr := [(h0, .inr (10, [.ref x0, .int 0, .ref x1, .ref x2, .ref x3, .ref x4, .ref x5, .ref x6, .ref x7, .ref x8, .int 0, .int 3000])), (o0, .inl (kA 1, 1, .inr (.inl (vp_updL (fun _ => 0) 0 (n_apply (xs 1) 1 (n_cut (xs 2) ((((xs 4).toInt64) <<< ((32 : Int32).toInt64 &&& 63)) ||| (((xs 5).toInt64) &&& 4294967295))) (n_cut (xs 3) ((((xs 6).toInt64) <<< ((32 : Int32).toInt64 &&& 63)) ||| (((xs 7).toInt64) &&& 4294967295))))))))]) (w1 := [(m0, .inr (11, y0.set 9 (.int 0)))]) hP hD [0] [1, 2] rfl rfl (by decide) (by decide) hk1 hFc hP1 hD1
      generalize H1 = H at hP hS ⊢
      have hP : va_P D vwCl [(h0, .inr (10, [.ref x0, .int 0, .ref x1, .ref x2, .ref x3, .ref x4, .ref x5, .ref x6, .ref x7, .ref x8, .int 0, .int 3000])), (o0, .inl (kA 1, 1, .inr (.inl (vp_updL (fun _ => 0) 0 (n_apply (xs 1) 1 (n_cut (xs 2) ((((xs 4).toInt64) <<< ((32 : Int32).toInt64 &&& 63)) ||| (((xs 5).toInt64) &&& 4294967295))) (n_cut (xs 3) ((((xs 6).toInt64) <<< ((32 : Int32).toInt64 &&& 63)) ||| (((xs 7).toInt64) &&& 4294967295)))))))), (m0, .inr (11, y0.set 9 (.int 0)))] H := hP
      have hD : va_D A [(h0, .inr (10, [.ref x0, .int 0, .ref x1, .ref x2, .ref x3, .ref x4, .ref x5, .ref x6, .ref x7, .ref x8, .int 0, .int 3000])), (o0, .inl (kA 1, 1, .inr (.inl (vp_updL (fun _ => 0) 0 (n_apply (xs 1) 1 (n_cut (xs 2) ((((xs 4).toInt64) <<< ((32 : Int32).toInt64 &&& 63)) ||| (((xs 5).toInt64) &&& 4294967295))) (n_cut (xs 3) ((((xs 6).toInt64) <<< ((32 : Int32).toInt64 &&& 63)) ||| (((xs 7).toInt64) &&& 4294967295)))))))), (m0, .inr (11, y0.set 9 (.int 0)))] := hD
      refine lv_lstore (lv' := [(6, .long (r_special 0 1 (n_cut (xs 2) ((((xs 4).toInt64) <<< ((32 : Int32).toInt64 &&& 63)) ||| (((xs 5).toInt64) &&& 4294967295))) 0)), (5, .int 0), (0, .ref b), (1, .ref h0), (2, .ref m0), (3, .ref o0), (4, .int 0)]) hx hb dL_law_1772 hl (by decide) rfl (fun ls hl => ?_)
      refine lv_aload_n hx hb dL_law_1774 rfl (lv_at hl 4 rfl) ?_
      have hPc := hP.sub (ws' := [(m0, .inr (11, y0.set 9 (.int 0)))]) [2] rfl
      have hDc := hD.sub (ws' := [(m0, .inr (11, y0.set 9 (.int 0)))]) [2] (by decide) rfl
      have hFc := va_free (wc := [(m0, .inr (11, y0.set 9 (.int 0)))]) hD hS hA [2] rfl
      refine va_calli (va_runV (As := []) (rest := []) ⟨hx, hb, hml, hown, hts⟩ (a94_X12_thrown l  D kA V H.size m0 (y0.set 9 (.int 0)) (fun k hk => (by rw [List.length_set]; exact (hq k hk))) (List.getElem?_set_self (hq 9 (by decide)))) (cwV 0 hts (gw_V gw_1879 gw_1880 gw_1881 gw_16 gw_1882) rfl rfl rfl (by decide +kernel) ⟨(Nat.le_of_ble_eq_true rfl), (Nat.le_of_ble_eq_true rfl)⟩) ⟨aP.blind, va_recv hK hP (ci := 11) (q0 := 2) rfl rfl, aP.pre hE hS hPc hK hDc hFc⟩ rfl rfl hl.1 rfl (lv_room (Nat.le_of_ble_eq_true rfl)) dL_law_1775 ⟨(Nat.le_of_ble_eq_true rfl), (Nat.le_of_ble_eq_true rfl)⟩) hS (fun q _ h => hFc q h) hFc (fun r_4053 u t H1 locs ht hvm hw hB hz1 hk1 hS => ?_)
      obtain ⟨hP1, hD1⟩ := hB
      rw [ht] at hP1
      try dsimp only at hw hP1 hD1
      have w_4054 := hw
      subst w_4054
      obtain ⟨hP, hD⟩ := va_join (wr := [(h0, .inr (10, [.ref x0, .int 0, .ref x1, .ref x2, .ref x3, .ref x4, .ref x5, .ref x6, .ref x7, .ref x8, .int 0, .int 3000])), (o0, .inl (kA 1, 1, .inr (.inl (vp_updL (fun _ => 0) 0 (n_apply (xs 1) 1 (n_cut (xs 2) ((((xs 4).toInt64) <<< ((32 : Int32).toInt64 &&& 63)) ||| (((xs 5).toInt64) &&& 4294967295))) (n_cut (xs 3) ((((xs 6).toInt64) <<< ((32 : Int32).toInt64 &&& 63)) ||| (((xs 7).toInt64) &&& 4294967295))))))))]) (w1 := [(m0, .inr (11, (y0.set 9 (.int 0))))]) hP hD [2] [0, 1] rfl rfl (by decide) (by decide) hk1 hFc hP1 hD1
      generalize H1 = H at hP hS ⊢
      have hP : va_P D vwCl [(h0, .inr (10, [.ref x0, .int 0, .ref x1, .ref x2, .ref x3, .ref x4, .ref x5, .ref x6, .ref x7, .ref x8, .int 0, .int 3000])), (o0, .inl (kA 1, 1, .inr (.inl (vp_updL (fun _ => 0) 0 (n_apply (xs 1) 1 (n_cut (xs 2) ((((xs 4).toInt64) <<< ((32 : Int32).toInt64 &&& 63)) ||| (((xs 5).toInt64) &&& 4294967295))) (n_cut (xs 3) ((((xs 6).toInt64) <<< ((32 : Int32).toInt64 &&& 63)) ||| (((xs 7).toInt64) &&& 4294967295)))))))), (m0, .inr (11, (y0.set 9 (.int 0))))] H := hP
      have hD : va_D A [(h0, .inr (10, [.ref x0, .int 0, .ref x1, .ref x2, .ref x3, .ref x4, .ref x5, .ref x6, .ref x7, .ref x8, .int 0, .int 3000])), (o0, .inl (kA 1, 1, .inr (.inl (vp_updL (fun _ => 0) 0 (n_apply (xs 1) 1 (n_cut (xs 2) ((((xs 4).toInt64) <<< ((32 : Int32).toInt64 &&& 63)) ||| (((xs 5).toInt64) &&& 4294967295))) (n_cut (xs 3) ((((xs 6).toInt64) <<< ((32 : Int32).toInt64 &&& 63)) ||| (((xs 7).toInt64) &&& 4294967295)))))))), (m0, .inr (11, (y0.set 9 (.int 0))))] := hD
      refine lv_iload hx hb dL_law_1778 (lv_at hl 1 rfl) ?_
      refine lv_icmp_eq (tgt := 1785) hx hb dL_law_1780 (by decide) (fun c_4055 => ?_) (fun c_4055 => ?_)
      · skip
        refine lv_iload hx hb dL_law_1785 (lv_at hl 1 rfl) ?_
        refine lv_if_ne (tgt := 1801) hx hb dL_law_1787 (by decide) (fun c_4056 => ?_) (fun c_4056 => ?_)
        · exact absurd (by decide) c_4056
        · skip
          refine lv_aload_n hx hb dL_law_1790 rfl (lv_at hl 5 rfl) ?_
          refine lv_iconst (v := 0) hx hb dL_law_1791 (by decide) ?_
          refine va_lald hx hb hK hP 1 1 rfl rfl (show vp_in 0 1 by unfold vp_in; decide) dL_law_1792 ?_
          refine W.eq (g2 := F0 m 1793 ls [.long (n_apply (xs 1) 1 (n_cut (xs 2) ((((xs 4).toInt64) <<< ((32 : Int32).toInt64 &&& 63)) ||| (((xs 5).toInt64) &&& 4294967295))) (n_cut (xs 3) ((((xs 6).toInt64) <<< ((32 : Int32).toInt64 &&& 63)) ||| (((xs 7).toInt64) &&& 4294967295))))]) rfl ?_
          refine lv_lload hx hb dL_law_1793 (lv_at hl 0 rfl) ?_
          refine W.lcmp hx hb dL_law_1795 ?_
          refine lv_if_eq (tgt := 1801) hx hb dL_law_1796 (by decide) (fun c_4057 => ?_) (fun c_4057 => ?_)
          · skip
            refine lv_goto (tgt := 1804) hx hb dL_law_1801 (by decide) ?_
            exact lk_tail hC hA2 (lv_sub hl [2, 6] rfl) hS (Nat.le_of_ble_eq_true rfl) (Nat.le_of_ble_eq_true rfl)
          · exact absurd ((lg_cmp_eq _ _).mpr (qx_d c_3922)) c_4057
      · exact absurd (by decide) c_4055
    · skip
      subst w_3935
      subst w_3936
      obtain ⟨hP, hD⟩ := va_join (wr := [(h0, .inr (10, [.ref x0, .int 0, .ref x1, .ref x2, .ref x3, .ref x4, .ref x5, .ref x6, .ref x7, .ref x8, .int 0, .int 3000])), (o0, .inl (kA 1, 1, .inr (.inl (vp_updL (fun _ => 0) 0 (n_apply (xs 1) 1 (n_cut (xs 2) ((((xs 4).toInt64) <<< ((32 : Int32).toInt64 &&& 63)) ||| (((xs 5).toInt64) &&& 4294967295))) (n_cut (xs 3) ((((xs 6).toInt64) <<< ((32 : Int32).toInt64 &&& 63)) ||| (((xs 7).toInt64) &&& 4294967295))))))))]) (w1 := [(m0, .inr (11, y0.set 9 (.int 0)))]) hP hD [0] [1, 2] rfl rfl (by decide) (by decide) hk1 hFc hP1 hD1
      generalize H1 = H at hP hS ⊢
      have hP : va_P D vwCl [(h0, .inr (10, [.ref x0, .int 0, .ref x1, .ref x2, .ref x3, .ref x4, .ref x5, .ref x6, .ref x7, .ref x8, .int 0, .int 3000])), (o0, .inl (kA 1, 1, .inr (.inl (vp_updL (fun _ => 0) 0 (n_apply (xs 1) 1 (n_cut (xs 2) ((((xs 4).toInt64) <<< ((32 : Int32).toInt64 &&& 63)) ||| (((xs 5).toInt64) &&& 4294967295))) (n_cut (xs 3) ((((xs 6).toInt64) <<< ((32 : Int32).toInt64 &&& 63)) ||| (((xs 7).toInt64) &&& 4294967295)))))))), (m0, .inr (11, y0.set 9 (.int 0)))] H := hP
      have hD : va_D A [(h0, .inr (10, [.ref x0, .int 0, .ref x1, .ref x2, .ref x3, .ref x4, .ref x5, .ref x6, .ref x7, .ref x8, .int 0, .int 3000])), (o0, .inl (kA 1, 1, .inr (.inl (vp_updL (fun _ => 0) 0 (n_apply (xs 1) 1 (n_cut (xs 2) ((((xs 4).toInt64) <<< ((32 : Int32).toInt64 &&& 63)) ||| (((xs 5).toInt64) &&& 4294967295))) (n_cut (xs 3) ((((xs 6).toInt64) <<< ((32 : Int32).toInt64 &&& 63)) ||| (((xs 7).toInt64) &&& 4294967295)))))))), (m0, .inr (11, y0.set 9 (.int 0)))] := hD
      refine lv_lstore (lv' := [(6, .long (r_special ((xs 1) - 5) 1 (n_cut (xs 2) ((((xs 4).toInt64) <<< ((32 : Int32).toInt64 &&& 63)) ||| (((xs 5).toInt64) &&& 4294967295))) (n_cut (xs 3) ((((xs 6).toInt64) <<< ((32 : Int32).toInt64 &&& 63)) ||| (((xs 7).toInt64) &&& 4294967295))))), (5, .int 0), (0, .ref b), (1, .ref h0), (2, .ref m0), (3, .ref o0), (4, .int 0)]) hx hb dL_law_1772 hl (by decide) rfl (fun ls hl => ?_)
      refine lv_aload_n hx hb dL_law_1774 rfl (lv_at hl 4 rfl) ?_
      have hPc := hP.sub (ws' := [(m0, .inr (11, y0.set 9 (.int 0)))]) [2] rfl
      have hDc := hD.sub (ws' := [(m0, .inr (11, y0.set 9 (.int 0)))]) [2] (by decide) rfl
      have hFc := va_free (wc := [(m0, .inr (11, y0.set 9 (.int 0)))]) hD hS hA [2] rfl
      refine va_calli (va_runV (As := []) (rest := []) ⟨hx, hb, hml, hown, hts⟩ (a94_X12_thrown l  D kA V H.size m0 (y0.set 9 (.int 0)) (fun k hk => (by rw [List.length_set]; exact (hq k hk))) (List.getElem?_set_self (hq 9 (by decide)))) (cwV 0 hts (gw_V gw_1879 gw_1880 gw_1881 gw_16 gw_1882) rfl rfl rfl (by decide +kernel) ⟨(Nat.le_of_ble_eq_true rfl), (Nat.le_of_ble_eq_true rfl)⟩) ⟨aP.blind, va_recv hK hP (ci := 11) (q0 := 2) rfl rfl, aP.pre hE hS hPc hK hDc hFc⟩ rfl rfl hl.1 rfl (lv_room (Nat.le_of_ble_eq_true rfl)) dL_law_1775 ⟨(Nat.le_of_ble_eq_true rfl), (Nat.le_of_ble_eq_true rfl)⟩) hS (fun q _ h => hFc q h) hFc (fun r_4058 u t H1 locs ht hvm hw hB hz1 hk1 hS => ?_)
      obtain ⟨hP1, hD1⟩ := hB
      rw [ht] at hP1
      try dsimp only at hw hP1 hD1
      have w_4059 := hw
      subst w_4059
      obtain ⟨hP, hD⟩ := va_join (wr := [(h0, .inr (10, [.ref x0, .int 0, .ref x1, .ref x2, .ref x3, .ref x4, .ref x5, .ref x6, .ref x7, .ref x8, .int 0, .int 3000])), (o0, .inl (kA 1, 1, .inr (.inl (vp_updL (fun _ => 0) 0 (n_apply (xs 1) 1 (n_cut (xs 2) ((((xs 4).toInt64) <<< ((32 : Int32).toInt64 &&& 63)) ||| (((xs 5).toInt64) &&& 4294967295))) (n_cut (xs 3) ((((xs 6).toInt64) <<< ((32 : Int32).toInt64 &&& 63)) ||| (((xs 7).toInt64) &&& 4294967295))))))))]) (w1 := [(m0, .inr (11, (y0.set 9 (.int 0))))]) hP hD [2] [0, 1] rfl rfl (by decide) (by decide) hk1 hFc hP1 hD1
      generalize H1 = H at hP hS ⊢
      have hP : va_P D vwCl [(h0, .inr (10, [.ref x0, .int 0, .ref x1, .ref x2, .ref x3, .ref x4, .ref x5, .ref x6, .ref x7, .ref x8, .int 0, .int 3000])), (o0, .inl (kA 1, 1, .inr (.inl (vp_updL (fun _ => 0) 0 (n_apply (xs 1) 1 (n_cut (xs 2) ((((xs 4).toInt64) <<< ((32 : Int32).toInt64 &&& 63)) ||| (((xs 5).toInt64) &&& 4294967295))) (n_cut (xs 3) ((((xs 6).toInt64) <<< ((32 : Int32).toInt64 &&& 63)) ||| (((xs 7).toInt64) &&& 4294967295)))))))), (m0, .inr (11, (y0.set 9 (.int 0))))] H := hP
      have hD : va_D A [(h0, .inr (10, [.ref x0, .int 0, .ref x1, .ref x2, .ref x3, .ref x4, .ref x5, .ref x6, .ref x7, .ref x8, .int 0, .int 3000])), (o0, .inl (kA 1, 1, .inr (.inl (vp_updL (fun _ => 0) 0 (n_apply (xs 1) 1 (n_cut (xs 2) ((((xs 4).toInt64) <<< ((32 : Int32).toInt64 &&& 63)) ||| (((xs 5).toInt64) &&& 4294967295))) (n_cut (xs 3) ((((xs 6).toInt64) <<< ((32 : Int32).toInt64 &&& 63)) ||| (((xs 7).toInt64) &&& 4294967295)))))))), (m0, .inr (11, (y0.set 9 (.int 0))))] := hD
      refine lv_iload hx hb dL_law_1778 (lv_at hl 1 rfl) ?_
      refine lv_icmp_eq (tgt := 1785) hx hb dL_law_1780 (by decide) (fun c_4060 => ?_) (fun c_4060 => ?_)
      · skip
        refine lv_iload hx hb dL_law_1785 (lv_at hl 1 rfl) ?_
        refine lv_if_ne (tgt := 1801) hx hb dL_law_1787 (by decide) (fun c_4061 => ?_) (fun c_4061 => ?_)
        · exact absurd (by decide) c_4061
        · skip
          refine lv_aload_n hx hb dL_law_1790 rfl (lv_at hl 5 rfl) ?_
          refine lv_iconst (v := 0) hx hb dL_law_1791 (by decide) ?_
          refine va_lald hx hb hK hP 1 1 rfl rfl (show vp_in 0 1 by unfold vp_in; decide) dL_law_1792 ?_
          refine W.eq (g2 := F0 m 1793 ls [.long (n_apply (xs 1) 1 (n_cut (xs 2) ((((xs 4).toInt64) <<< ((32 : Int32).toInt64 &&& 63)) ||| (((xs 5).toInt64) &&& 4294967295))) (n_cut (xs 3) ((((xs 6).toInt64) <<< ((32 : Int32).toInt64 &&& 63)) ||| (((xs 7).toInt64) &&& 4294967295))))]) rfl ?_
          refine lv_lload hx hb dL_law_1793 (lv_at hl 0 rfl) ?_
          refine W.lcmp hx hb dL_law_1795 ?_
          refine lv_if_eq (tgt := 1801) hx hb dL_law_1796 (by decide) (fun c_4062 => ?_) (fun c_4062 => ?_)
          · skip
            refine lv_goto (tgt := 1804) hx hb dL_law_1801 (by decide) ?_
            exact lk_tail hC hA2 (lv_sub hl [2, 6] rfl) hS (Nat.le_of_ble_eq_true rfl) (Nat.le_of_ble_eq_true rfl)
          · exact absurd ((lg_cmp_eq _ _).mpr (qx_c1 c_3933 c_3934)) c_4062
      · exact absurd (by decide) c_4060
    · skip
      subst w_3946
      subst w_3947
      obtain ⟨hP, hD⟩ := va_join (wr := [(h0, .inr (10, [.ref x0, .int 0, .ref x1, .ref x2, .ref x3, .ref x4, .ref x5, .ref x6, .ref x7, .ref x8, .int 0, .int 3000])), (o0, .inl (kA 1, 1, .inr (.inl (vp_updL (fun _ => 0) 0 (n_apply (xs 1) 1 (n_cut (xs 2) ((((xs 4).toInt64) <<< ((32 : Int32).toInt64 &&& 63)) ||| (((xs 5).toInt64) &&& 4294967295))) (n_cut (xs 3) ((((xs 6).toInt64) <<< ((32 : Int32).toInt64 &&& 63)) ||| (((xs 7).toInt64) &&& 4294967295))))))))]) (w1 := [(m0, .inr (11, y0.set 9 (.int 0)))]) hP hD [0] [1, 2] rfl rfl (by decide) (by decide) hk1 hFc hP1 hD1
      generalize H1 = H at hP hS ⊢
      have hP : va_P D vwCl [(h0, .inr (10, [.ref x0, .int 0, .ref x1, .ref x2, .ref x3, .ref x4, .ref x5, .ref x6, .ref x7, .ref x8, .int 0, .int 3000])), (o0, .inl (kA 1, 1, .inr (.inl (vp_updL (fun _ => 0) 0 (n_apply (xs 1) 1 (n_cut (xs 2) ((((xs 4).toInt64) <<< ((32 : Int32).toInt64 &&& 63)) ||| (((xs 5).toInt64) &&& 4294967295))) (n_cut (xs 3) ((((xs 6).toInt64) <<< ((32 : Int32).toInt64 &&& 63)) ||| (((xs 7).toInt64) &&& 4294967295)))))))), (m0, .inr (11, y0.set 9 (.int 0)))] H := hP
      have hD : va_D A [(h0, .inr (10, [.ref x0, .int 0, .ref x1, .ref x2, .ref x3, .ref x4, .ref x5, .ref x6, .ref x7, .ref x8, .int 0, .int 3000])), (o0, .inl (kA 1, 1, .inr (.inl (vp_updL (fun _ => 0) 0 (n_apply (xs 1) 1 (n_cut (xs 2) ((((xs 4).toInt64) <<< ((32 : Int32).toInt64 &&& 63)) ||| (((xs 5).toInt64) &&& 4294967295))) (n_cut (xs 3) ((((xs 6).toInt64) <<< ((32 : Int32).toInt64 &&& 63)) ||| (((xs 7).toInt64) &&& 4294967295)))))))), (m0, .inr (11, y0.set 9 (.int 0)))] := hD
      refine lv_lstore (lv' := [(6, .long (r_special ((xs 1) - 5) 1 (n_cut (xs 2) ((((xs 4).toInt64) <<< ((32 : Int32).toInt64 &&& 63)) ||| (((xs 5).toInt64) &&& 4294967295))) (n_cut (xs 3) ((((xs 6).toInt64) <<< ((32 : Int32).toInt64 &&& 63)) ||| (((xs 7).toInt64) &&& 4294967295))))), (5, .int 0), (0, .ref b), (1, .ref h0), (2, .ref m0), (3, .ref o0), (4, .int 0)]) hx hb dL_law_1772 hl (by decide) rfl (fun ls hl => ?_)
      refine lv_aload_n hx hb dL_law_1774 rfl (lv_at hl 4 rfl) ?_
      have hPc := hP.sub (ws' := [(m0, .inr (11, y0.set 9 (.int 0)))]) [2] rfl
      have hDc := hD.sub (ws' := [(m0, .inr (11, y0.set 9 (.int 0)))]) [2] (by decide) rfl
      have hFc := va_free (wc := [(m0, .inr (11, y0.set 9 (.int 0)))]) hD hS hA [2] rfl
      refine va_calli (va_runV (As := []) (rest := []) ⟨hx, hb, hml, hown, hts⟩ (a94_X12_thrown l  D kA V H.size m0 (y0.set 9 (.int 0)) (fun k hk => (by rw [List.length_set]; exact (hq k hk))) (List.getElem?_set_self (hq 9 (by decide)))) (cwV 0 hts (gw_V gw_1879 gw_1880 gw_1881 gw_16 gw_1882) rfl rfl rfl (by decide +kernel) ⟨(Nat.le_of_ble_eq_true rfl), (Nat.le_of_ble_eq_true rfl)⟩) ⟨aP.blind, va_recv hK hP (ci := 11) (q0 := 2) rfl rfl, aP.pre hE hS hPc hK hDc hFc⟩ rfl rfl hl.1 rfl (lv_room (Nat.le_of_ble_eq_true rfl)) dL_law_1775 ⟨(Nat.le_of_ble_eq_true rfl), (Nat.le_of_ble_eq_true rfl)⟩) hS (fun q _ h => hFc q h) hFc (fun r_4063 u t H1 locs ht hvm hw hB hz1 hk1 hS => ?_)
      obtain ⟨hP1, hD1⟩ := hB
      rw [ht] at hP1
      try dsimp only at hw hP1 hD1
      have w_4064 := hw
      subst w_4064
      obtain ⟨hP, hD⟩ := va_join (wr := [(h0, .inr (10, [.ref x0, .int 0, .ref x1, .ref x2, .ref x3, .ref x4, .ref x5, .ref x6, .ref x7, .ref x8, .int 0, .int 3000])), (o0, .inl (kA 1, 1, .inr (.inl (vp_updL (fun _ => 0) 0 (n_apply (xs 1) 1 (n_cut (xs 2) ((((xs 4).toInt64) <<< ((32 : Int32).toInt64 &&& 63)) ||| (((xs 5).toInt64) &&& 4294967295))) (n_cut (xs 3) ((((xs 6).toInt64) <<< ((32 : Int32).toInt64 &&& 63)) ||| (((xs 7).toInt64) &&& 4294967295))))))))]) (w1 := [(m0, .inr (11, (y0.set 9 (.int 0))))]) hP hD [2] [0, 1] rfl rfl (by decide) (by decide) hk1 hFc hP1 hD1
      generalize H1 = H at hP hS ⊢
      have hP : va_P D vwCl [(h0, .inr (10, [.ref x0, .int 0, .ref x1, .ref x2, .ref x3, .ref x4, .ref x5, .ref x6, .ref x7, .ref x8, .int 0, .int 3000])), (o0, .inl (kA 1, 1, .inr (.inl (vp_updL (fun _ => 0) 0 (n_apply (xs 1) 1 (n_cut (xs 2) ((((xs 4).toInt64) <<< ((32 : Int32).toInt64 &&& 63)) ||| (((xs 5).toInt64) &&& 4294967295))) (n_cut (xs 3) ((((xs 6).toInt64) <<< ((32 : Int32).toInt64 &&& 63)) ||| (((xs 7).toInt64) &&& 4294967295)))))))), (m0, .inr (11, (y0.set 9 (.int 0))))] H := hP
      have hD : va_D A [(h0, .inr (10, [.ref x0, .int 0, .ref x1, .ref x2, .ref x3, .ref x4, .ref x5, .ref x6, .ref x7, .ref x8, .int 0, .int 3000])), (o0, .inl (kA 1, 1, .inr (.inl (vp_updL (fun _ => 0) 0 (n_apply (xs 1) 1 (n_cut (xs 2) ((((xs 4).toInt64) <<< ((32 : Int32).toInt64 &&& 63)) ||| (((xs 5).toInt64) &&& 4294967295))) (n_cut (xs 3) ((((xs 6).toInt64) <<< ((32 : Int32).toInt64 &&& 63)) ||| (((xs 7).toInt64) &&& 4294967295)))))))), (m0, .inr (11, (y0.set 9 (.int 0))))] := hD
      refine lv_iload hx hb dL_law_1778 (lv_at hl 1 rfl) ?_
      refine lv_icmp_eq (tgt := 1785) hx hb dL_law_1780 (by decide) (fun c_4065 => ?_) (fun c_4065 => ?_)
      · skip
        refine lv_iload hx hb dL_law_1785 (lv_at hl 1 rfl) ?_
        refine lv_if_ne (tgt := 1801) hx hb dL_law_1787 (by decide) (fun c_4066 => ?_) (fun c_4066 => ?_)
        · exact absurd (by decide) c_4066
        · skip
          refine lv_aload_n hx hb dL_law_1790 rfl (lv_at hl 5 rfl) ?_
          refine lv_iconst (v := 0) hx hb dL_law_1791 (by decide) ?_
          refine va_lald hx hb hK hP 1 1 rfl rfl (show vp_in 0 1 by unfold vp_in; decide) dL_law_1792 ?_
          refine W.eq (g2 := F0 m 1793 ls [.long (n_apply (xs 1) 1 (n_cut (xs 2) ((((xs 4).toInt64) <<< ((32 : Int32).toInt64 &&& 63)) ||| (((xs 5).toInt64) &&& 4294967295))) (n_cut (xs 3) ((((xs 6).toInt64) <<< ((32 : Int32).toInt64 &&& 63)) ||| (((xs 7).toInt64) &&& 4294967295))))]) rfl ?_
          refine lv_lload hx hb dL_law_1793 (lv_at hl 0 rfl) ?_
          refine W.lcmp hx hb dL_law_1795 ?_
          refine lv_if_eq (tgt := 1801) hx hb dL_law_1796 (by decide) (fun c_4067 => ?_) (fun c_4067 => ?_)
          · skip
            refine lv_goto (tgt := 1804) hx hb dL_law_1801 (by decide) ?_
            exact lk_tail hC hA2 (lv_sub hl [2, 6] rfl) hS (Nat.le_of_ble_eq_true rfl) (Nat.le_of_ble_eq_true rfl)
          · exact absurd ((lg_cmp_eq _ _).mpr (qx_b c_3944 c_3945)) c_4067
      · exact absurd (by decide) c_4065
    · skip
      subst w_3961
      subst w_3962
      obtain ⟨hP, hD⟩ := va_join (wr := [(h0, .inr (10, [.ref x0, .int 0, .ref x1, .ref x2, .ref x3, .ref x4, .ref x5, .ref x6, .ref x7, .ref x8, .int 0, .int 3000])), (o0, .inl (kA 1, 1, .inr (.inl (vp_updL (fun _ => 0) 0 (n_apply (xs 1) 1 (n_cut (xs 2) ((((xs 4).toInt64) <<< ((32 : Int32).toInt64 &&& 63)) ||| (((xs 5).toInt64) &&& 4294967295))) (n_cut (xs 3) ((((xs 6).toInt64) <<< ((32 : Int32).toInt64 &&& 63)) ||| (((xs 7).toInt64) &&& 4294967295))))))))]) (w1 := [(m0, .inr (11, y0.set 9 (.int 0)))]) hP hD [0] [1, 2] rfl rfl (by decide) (by decide) hk1 hFc hP1 hD1
      generalize H1 = H at hP hS ⊢
      have hP : va_P D vwCl [(h0, .inr (10, [.ref x0, .int 0, .ref x1, .ref x2, .ref x3, .ref x4, .ref x5, .ref x6, .ref x7, .ref x8, .int 0, .int 3000])), (o0, .inl (kA 1, 1, .inr (.inl (vp_updL (fun _ => 0) 0 (n_apply (xs 1) 1 (n_cut (xs 2) ((((xs 4).toInt64) <<< ((32 : Int32).toInt64 &&& 63)) ||| (((xs 5).toInt64) &&& 4294967295))) (n_cut (xs 3) ((((xs 6).toInt64) <<< ((32 : Int32).toInt64 &&& 63)) ||| (((xs 7).toInt64) &&& 4294967295)))))))), (m0, .inr (11, y0.set 9 (.int 0)))] H := hP
      have hD : va_D A [(h0, .inr (10, [.ref x0, .int 0, .ref x1, .ref x2, .ref x3, .ref x4, .ref x5, .ref x6, .ref x7, .ref x8, .int 0, .int 3000])), (o0, .inl (kA 1, 1, .inr (.inl (vp_updL (fun _ => 0) 0 (n_apply (xs 1) 1 (n_cut (xs 2) ((((xs 4).toInt64) <<< ((32 : Int32).toInt64 &&& 63)) ||| (((xs 5).toInt64) &&& 4294967295))) (n_cut (xs 3) ((((xs 6).toInt64) <<< ((32 : Int32).toInt64 &&& 63)) ||| (((xs 7).toInt64) &&& 4294967295)))))))), (m0, .inr (11, y0.set 9 (.int 0)))] := hD
      refine lv_lstore (lv' := [(6, .long (r_two 220 1 (n_cut (xs 2) ((((xs 4).toInt64) <<< ((32 : Int32).toInt64 &&& 63)) ||| (((xs 5).toInt64) &&& 4294967295))) (n_cut (xs 3) ((((xs 6).toInt64) <<< ((32 : Int32).toInt64 &&& 63)) ||| (((xs 7).toInt64) &&& 4294967295))))), (5, .int 0), (0, .ref b), (1, .ref h0), (2, .ref m0), (3, .ref o0), (4, .int 0)]) hx hb dL_law_1772 hl (by decide) rfl (fun ls hl => ?_)
      refine lv_aload_n hx hb dL_law_1774 rfl (lv_at hl 4 rfl) ?_
      have hPc := hP.sub (ws' := [(m0, .inr (11, y0.set 9 (.int 0)))]) [2] rfl
      have hDc := hD.sub (ws' := [(m0, .inr (11, y0.set 9 (.int 0)))]) [2] (by decide) rfl
      have hFc := va_free (wc := [(m0, .inr (11, y0.set 9 (.int 0)))]) hD hS hA [2] rfl
      refine va_calli (va_runV (As := []) (rest := []) ⟨hx, hb, hml, hown, hts⟩ (a94_X12_thrown l  D kA V H.size m0 (y0.set 9 (.int 0)) (fun k hk => (by rw [List.length_set]; exact (hq k hk))) (List.getElem?_set_self (hq 9 (by decide)))) (cwV 0 hts (gw_V gw_1879 gw_1880 gw_1881 gw_16 gw_1882) rfl rfl rfl (by decide +kernel) ⟨(Nat.le_of_ble_eq_true rfl), (Nat.le_of_ble_eq_true rfl)⟩) ⟨aP.blind, va_recv hK hP (ci := 11) (q0 := 2) rfl rfl, aP.pre hE hS hPc hK hDc hFc⟩ rfl rfl hl.1 rfl (lv_room (Nat.le_of_ble_eq_true rfl)) dL_law_1775 ⟨(Nat.le_of_ble_eq_true rfl), (Nat.le_of_ble_eq_true rfl)⟩) hS (fun q _ h => hFc q h) hFc (fun r_4068 u t H1 locs ht hvm hw hB hz1 hk1 hS => ?_)
      obtain ⟨hP1, hD1⟩ := hB
      rw [ht] at hP1
      try dsimp only at hw hP1 hD1
      have w_4069 := hw
      subst w_4069
      obtain ⟨hP, hD⟩ := va_join (wr := [(h0, .inr (10, [.ref x0, .int 0, .ref x1, .ref x2, .ref x3, .ref x4, .ref x5, .ref x6, .ref x7, .ref x8, .int 0, .int 3000])), (o0, .inl (kA 1, 1, .inr (.inl (vp_updL (fun _ => 0) 0 (n_apply (xs 1) 1 (n_cut (xs 2) ((((xs 4).toInt64) <<< ((32 : Int32).toInt64 &&& 63)) ||| (((xs 5).toInt64) &&& 4294967295))) (n_cut (xs 3) ((((xs 6).toInt64) <<< ((32 : Int32).toInt64 &&& 63)) ||| (((xs 7).toInt64) &&& 4294967295))))))))]) (w1 := [(m0, .inr (11, (y0.set 9 (.int 0))))]) hP hD [2] [0, 1] rfl rfl (by decide) (by decide) hk1 hFc hP1 hD1
      generalize H1 = H at hP hS ⊢
      have hP : va_P D vwCl [(h0, .inr (10, [.ref x0, .int 0, .ref x1, .ref x2, .ref x3, .ref x4, .ref x5, .ref x6, .ref x7, .ref x8, .int 0, .int 3000])), (o0, .inl (kA 1, 1, .inr (.inl (vp_updL (fun _ => 0) 0 (n_apply (xs 1) 1 (n_cut (xs 2) ((((xs 4).toInt64) <<< ((32 : Int32).toInt64 &&& 63)) ||| (((xs 5).toInt64) &&& 4294967295))) (n_cut (xs 3) ((((xs 6).toInt64) <<< ((32 : Int32).toInt64 &&& 63)) ||| (((xs 7).toInt64) &&& 4294967295)))))))), (m0, .inr (11, (y0.set 9 (.int 0))))] H := hP
      have hD : va_D A [(h0, .inr (10, [.ref x0, .int 0, .ref x1, .ref x2, .ref x3, .ref x4, .ref x5, .ref x6, .ref x7, .ref x8, .int 0, .int 3000])), (o0, .inl (kA 1, 1, .inr (.inl (vp_updL (fun _ => 0) 0 (n_apply (xs 1) 1 (n_cut (xs 2) ((((xs 4).toInt64) <<< ((32 : Int32).toInt64 &&& 63)) ||| (((xs 5).toInt64) &&& 4294967295))) (n_cut (xs 3) ((((xs 6).toInt64) <<< ((32 : Int32).toInt64 &&& 63)) ||| (((xs 7).toInt64) &&& 4294967295)))))))), (m0, .inr (11, (y0.set 9 (.int 0))))] := hD
      refine lv_iload hx hb dL_law_1778 (lv_at hl 1 rfl) ?_
      refine lv_icmp_eq (tgt := 1785) hx hb dL_law_1780 (by decide) (fun c_4070 => ?_) (fun c_4070 => ?_)
      · skip
        refine lv_iload hx hb dL_law_1785 (lv_at hl 1 rfl) ?_
        refine lv_if_ne (tgt := 1801) hx hb dL_law_1787 (by decide) (fun c_4071 => ?_) (fun c_4071 => ?_)
        · exact absurd (by decide) c_4071
        · skip
          refine lv_aload_n hx hb dL_law_1790 rfl (lv_at hl 5 rfl) ?_
          refine lv_iconst (v := 0) hx hb dL_law_1791 (by decide) ?_
          refine va_lald hx hb hK hP 1 1 rfl rfl (show vp_in 0 1 by unfold vp_in; decide) dL_law_1792 ?_
          refine W.eq (g2 := F0 m 1793 ls [.long (n_apply (xs 1) 1 (n_cut (xs 2) ((((xs 4).toInt64) <<< ((32 : Int32).toInt64 &&& 63)) ||| (((xs 5).toInt64) &&& 4294967295))) (n_cut (xs 3) ((((xs 6).toInt64) <<< ((32 : Int32).toInt64 &&& 63)) ||| (((xs 7).toInt64) &&& 4294967295))))]) rfl ?_
          refine lv_lload hx hb dL_law_1793 (lv_at hl 0 rfl) ?_
          refine W.lcmp hx hb dL_law_1795 ?_
          refine lv_if_eq (tgt := 1801) hx hb dL_law_1796 (by decide) (fun c_4072 => ?_) (fun c_4072 => ?_)
          · skip
            refine lv_goto (tgt := 1804) hx hb dL_law_1801 (by decide) ?_
            exact lk_tail hC hA2 (lv_sub hl [2, 6] rfl) hS (Nat.le_of_ble_eq_true rfl) (Nat.le_of_ble_eq_true rfl)
          · exact absurd ((lg_cmp_eq _ _).mpr (qx_a c_49 c_3955 (by unfold q_cmp; rw [if_neg c_3956, if_neg c_3957, if_neg c_3958, if_neg c_3959, if_neg c_3960]))) c_4072
      · exact absurd (by decide) c_4070
    · skip
      subst w_3976
      subst w_3977
      obtain ⟨hP, hD⟩ := va_join (wr := [(h0, .inr (10, [.ref x0, .int 0, .ref x1, .ref x2, .ref x3, .ref x4, .ref x5, .ref x6, .ref x7, .ref x8, .int 0, .int 3000])), (o0, .inl (kA 1, 1, .inr (.inl (vp_updL (fun _ => 0) 0 (n_apply (xs 1) 1 (n_cut (xs 2) ((((xs 4).toInt64) <<< ((32 : Int32).toInt64 &&& 63)) ||| (((xs 5).toInt64) &&& 4294967295))) (n_cut (xs 3) ((((xs 6).toInt64) <<< ((32 : Int32).toInt64 &&& 63)) ||| (((xs 7).toInt64) &&& 4294967295))))))))]) (w1 := [(m0, .inr (11, y0.set 9 (.int 0)))]) hP hD [0] [1, 2] rfl rfl (by decide) (by decide) hk1 hFc hP1 hD1
      generalize H1 = H at hP hS ⊢
      have hP : va_P D vwCl [(h0, .inr (10, [.ref x0, .int 0, .ref x1, .ref x2, .ref x3, .ref x4, .ref x5, .ref x6, .ref x7, .ref x8, .int 0, .int 3000])), (o0, .inl (kA 1, 1, .inr (.inl (vp_updL (fun _ => 0) 0 (n_apply (xs 1) 1 (n_cut (xs 2) ((((xs 4).toInt64) <<< ((32 : Int32).toInt64 &&& 63)) ||| (((xs 5).toInt64) &&& 4294967295))) (n_cut (xs 3) ((((xs 6).toInt64) <<< ((32 : Int32).toInt64 &&& 63)) ||| (((xs 7).toInt64) &&& 4294967295)))))))), (m0, .inr (11, y0.set 9 (.int 0)))] H := hP
      have hD : va_D A [(h0, .inr (10, [.ref x0, .int 0, .ref x1, .ref x2, .ref x3, .ref x4, .ref x5, .ref x6, .ref x7, .ref x8, .int 0, .int 3000])), (o0, .inl (kA 1, 1, .inr (.inl (vp_updL (fun _ => 0) 0 (n_apply (xs 1) 1 (n_cut (xs 2) ((((xs 4).toInt64) <<< ((32 : Int32).toInt64 &&& 63)) ||| (((xs 5).toInt64) &&& 4294967295))) (n_cut (xs 3) ((((xs 6).toInt64) <<< ((32 : Int32).toInt64 &&& 63)) ||| (((xs 7).toInt64) &&& 4294967295)))))))), (m0, .inr (11, y0.set 9 (.int 0)))] := hD
      refine lv_lstore (lv' := [(6, .long (r_two 239 1 (n_cut (xs 2) ((((xs 4).toInt64) <<< ((32 : Int32).toInt64 &&& 63)) ||| (((xs 5).toInt64) &&& 4294967295))) (n_cut (xs 3) ((((xs 6).toInt64) <<< ((32 : Int32).toInt64 &&& 63)) ||| (((xs 7).toInt64) &&& 4294967295))))), (5, .int 0), (0, .ref b), (1, .ref h0), (2, .ref m0), (3, .ref o0), (4, .int 0)]) hx hb dL_law_1772 hl (by decide) rfl (fun ls hl => ?_)
      refine lv_aload_n hx hb dL_law_1774 rfl (lv_at hl 4 rfl) ?_
      have hPc := hP.sub (ws' := [(m0, .inr (11, y0.set 9 (.int 0)))]) [2] rfl
      have hDc := hD.sub (ws' := [(m0, .inr (11, y0.set 9 (.int 0)))]) [2] (by decide) rfl
      have hFc := va_free (wc := [(m0, .inr (11, y0.set 9 (.int 0)))]) hD hS hA [2] rfl
      refine va_calli (va_runV (As := []) (rest := []) ⟨hx, hb, hml, hown, hts⟩ (a94_X12_thrown l  D kA V H.size m0 (y0.set 9 (.int 0)) (fun k hk => (by rw [List.length_set]; exact (hq k hk))) (List.getElem?_set_self (hq 9 (by decide)))) (cwV 0 hts (gw_V gw_1879 gw_1880 gw_1881 gw_16 gw_1882) rfl rfl rfl (by decide +kernel) ⟨(Nat.le_of_ble_eq_true rfl), (Nat.le_of_ble_eq_true rfl)⟩) ⟨aP.blind, va_recv hK hP (ci := 11) (q0 := 2) rfl rfl, aP.pre hE hS hPc hK hDc hFc⟩ rfl rfl hl.1 rfl (lv_room (Nat.le_of_ble_eq_true rfl)) dL_law_1775 ⟨(Nat.le_of_ble_eq_true rfl), (Nat.le_of_ble_eq_true rfl)⟩) hS (fun q _ h => hFc q h) hFc (fun r_4073 u t H1 locs ht hvm hw hB hz1 hk1 hS => ?_)
      obtain ⟨hP1, hD1⟩ := hB
      rw [ht] at hP1
      try dsimp only at hw hP1 hD1
      have w_4074 := hw
      subst w_4074
      obtain ⟨hP, hD⟩ := va_join (wr := [(h0, .inr (10, [.ref x0, .int 0, .ref x1, .ref x2, .ref x3, .ref x4, .ref x5, .ref x6, .ref x7, .ref x8, .int 0, .int 3000])), (o0, .inl (kA 1, 1, .inr (.inl (vp_updL (fun _ => 0) 0 (n_apply (xs 1) 1 (n_cut (xs 2) ((((xs 4).toInt64) <<< ((32 : Int32).toInt64 &&& 63)) ||| (((xs 5).toInt64) &&& 4294967295))) (n_cut (xs 3) ((((xs 6).toInt64) <<< ((32 : Int32).toInt64 &&& 63)) ||| (((xs 7).toInt64) &&& 4294967295))))))))]) (w1 := [(m0, .inr (11, (y0.set 9 (.int 0))))]) hP hD [2] [0, 1] rfl rfl (by decide) (by decide) hk1 hFc hP1 hD1
      generalize H1 = H at hP hS ⊢
      have hP : va_P D vwCl [(h0, .inr (10, [.ref x0, .int 0, .ref x1, .ref x2, .ref x3, .ref x4, .ref x5, .ref x6, .ref x7, .ref x8, .int 0, .int 3000])), (o0, .inl (kA 1, 1, .inr (.inl (vp_updL (fun _ => 0) 0 (n_apply (xs 1) 1 (n_cut (xs 2) ((((xs 4).toInt64) <<< ((32 : Int32).toInt64 &&& 63)) ||| (((xs 5).toInt64) &&& 4294967295))) (n_cut (xs 3) ((((xs 6).toInt64) <<< ((32 : Int32).toInt64 &&& 63)) ||| (((xs 7).toInt64) &&& 4294967295)))))))), (m0, .inr (11, (y0.set 9 (.int 0))))] H := hP
      have hD : va_D A [(h0, .inr (10, [.ref x0, .int 0, .ref x1, .ref x2, .ref x3, .ref x4, .ref x5, .ref x6, .ref x7, .ref x8, .int 0, .int 3000])), (o0, .inl (kA 1, 1, .inr (.inl (vp_updL (fun _ => 0) 0 (n_apply (xs 1) 1 (n_cut (xs 2) ((((xs 4).toInt64) <<< ((32 : Int32).toInt64 &&& 63)) ||| (((xs 5).toInt64) &&& 4294967295))) (n_cut (xs 3) ((((xs 6).toInt64) <<< ((32 : Int32).toInt64 &&& 63)) ||| (((xs 7).toInt64) &&& 4294967295)))))))), (m0, .inr (11, (y0.set 9 (.int 0))))] := hD
      refine lv_iload hx hb dL_law_1778 (lv_at hl 1 rfl) ?_
      refine lv_icmp_eq (tgt := 1785) hx hb dL_law_1780 (by decide) (fun c_4075 => ?_) (fun c_4075 => ?_)
      · skip
        refine lv_iload hx hb dL_law_1785 (lv_at hl 1 rfl) ?_
        refine lv_if_ne (tgt := 1801) hx hb dL_law_1787 (by decide) (fun c_4076 => ?_) (fun c_4076 => ?_)
        · exact absurd (by decide) c_4076
        · skip
          refine lv_aload_n hx hb dL_law_1790 rfl (lv_at hl 5 rfl) ?_
          refine lv_iconst (v := 0) hx hb dL_law_1791 (by decide) ?_
          refine va_lald hx hb hK hP 1 1 rfl rfl (show vp_in 0 1 by unfold vp_in; decide) dL_law_1792 ?_
          refine W.eq (g2 := F0 m 1793 ls [.long (n_apply (xs 1) 1 (n_cut (xs 2) ((((xs 4).toInt64) <<< ((32 : Int32).toInt64 &&& 63)) ||| (((xs 5).toInt64) &&& 4294967295))) (n_cut (xs 3) ((((xs 6).toInt64) <<< ((32 : Int32).toInt64 &&& 63)) ||| (((xs 7).toInt64) &&& 4294967295))))]) rfl ?_
          refine lv_lload hx hb dL_law_1793 (lv_at hl 0 rfl) ?_
          refine W.lcmp hx hb dL_law_1795 ?_
          refine lv_if_eq (tgt := 1801) hx hb dL_law_1796 (by decide) (fun c_4077 => ?_) (fun c_4077 => ?_)
          · skip
            refine lv_goto (tgt := 1804) hx hb dL_law_1801 (by decide) ?_
            exact lk_tail hC hA2 (lv_sub hl [2, 6] rfl) hS (Nat.le_of_ble_eq_true rfl) (Nat.le_of_ble_eq_true rfl)
          · exact absurd ((lg_cmp_eq _ _).mpr (qx_a c_49 c_3970 (by rw [c_3975]; decide))) c_4077
      · exact absurd (by decide) c_4075
    · skip
      subst w_3990
      subst w_3991
      obtain ⟨hP, hD⟩ := va_join (wr := [(h0, .inr (10, [.ref x0, .int 0, .ref x1, .ref x2, .ref x3, .ref x4, .ref x5, .ref x6, .ref x7, .ref x8, .int 0, .int 3000])), (o0, .inl (kA 1, 1, .inr (.inl (vp_updL (fun _ => 0) 0 (n_apply (xs 1) 1 (n_cut (xs 2) ((((xs 4).toInt64) <<< ((32 : Int32).toInt64 &&& 63)) ||| (((xs 5).toInt64) &&& 4294967295))) (n_cut (xs 3) ((((xs 6).toInt64) <<< ((32 : Int32).toInt64 &&& 63)) ||| (((xs 7).toInt64) &&& 4294967295))))))))]) (w1 := [(m0, .inr (11, y0.set 9 (.int 0)))]) hP hD [0] [1, 2] rfl rfl (by decide) (by decide) hk1 hFc hP1 hD1
      generalize H1 = H at hP hS ⊢
      have hP : va_P D vwCl [(h0, .inr (10, [.ref x0, .int 0, .ref x1, .ref x2, .ref x3, .ref x4, .ref x5, .ref x6, .ref x7, .ref x8, .int 0, .int 3000])), (o0, .inl (kA 1, 1, .inr (.inl (vp_updL (fun _ => 0) 0 (n_apply (xs 1) 1 (n_cut (xs 2) ((((xs 4).toInt64) <<< ((32 : Int32).toInt64 &&& 63)) ||| (((xs 5).toInt64) &&& 4294967295))) (n_cut (xs 3) ((((xs 6).toInt64) <<< ((32 : Int32).toInt64 &&& 63)) ||| (((xs 7).toInt64) &&& 4294967295)))))))), (m0, .inr (11, y0.set 9 (.int 0)))] H := hP
      have hD : va_D A [(h0, .inr (10, [.ref x0, .int 0, .ref x1, .ref x2, .ref x3, .ref x4, .ref x5, .ref x6, .ref x7, .ref x8, .int 0, .int 3000])), (o0, .inl (kA 1, 1, .inr (.inl (vp_updL (fun _ => 0) 0 (n_apply (xs 1) 1 (n_cut (xs 2) ((((xs 4).toInt64) <<< ((32 : Int32).toInt64 &&& 63)) ||| (((xs 5).toInt64) &&& 4294967295))) (n_cut (xs 3) ((((xs 6).toInt64) <<< ((32 : Int32).toInt64 &&& 63)) ||| (((xs 7).toInt64) &&& 4294967295)))))))), (m0, .inr (11, y0.set 9 (.int 0)))] := hD
      refine lv_lstore (lv' := [(6, .long (r_two 219 1 (n_cut (xs 2) ((((xs 4).toInt64) <<< ((32 : Int32).toInt64 &&& 63)) ||| (((xs 5).toInt64) &&& 4294967295))) (n_cut (xs 3) ((((xs 6).toInt64) <<< ((32 : Int32).toInt64 &&& 63)) ||| (((xs 7).toInt64) &&& 4294967295))))), (5, .int 0), (0, .ref b), (1, .ref h0), (2, .ref m0), (3, .ref o0), (4, .int 0)]) hx hb dL_law_1772 hl (by decide) rfl (fun ls hl => ?_)
      refine lv_aload_n hx hb dL_law_1774 rfl (lv_at hl 4 rfl) ?_
      have hPc := hP.sub (ws' := [(m0, .inr (11, y0.set 9 (.int 0)))]) [2] rfl
      have hDc := hD.sub (ws' := [(m0, .inr (11, y0.set 9 (.int 0)))]) [2] (by decide) rfl
      have hFc := va_free (wc := [(m0, .inr (11, y0.set 9 (.int 0)))]) hD hS hA [2] rfl
      refine va_calli (va_runV (As := []) (rest := []) ⟨hx, hb, hml, hown, hts⟩ (a94_X12_thrown l  D kA V H.size m0 (y0.set 9 (.int 0)) (fun k hk => (by rw [List.length_set]; exact (hq k hk))) (List.getElem?_set_self (hq 9 (by decide)))) (cwV 0 hts (gw_V gw_1879 gw_1880 gw_1881 gw_16 gw_1882) rfl rfl rfl (by decide +kernel) ⟨(Nat.le_of_ble_eq_true rfl), (Nat.le_of_ble_eq_true rfl)⟩) ⟨aP.blind, va_recv hK hP (ci := 11) (q0 := 2) rfl rfl, aP.pre hE hS hPc hK hDc hFc⟩ rfl rfl hl.1 rfl (lv_room (Nat.le_of_ble_eq_true rfl)) dL_law_1775 ⟨(Nat.le_of_ble_eq_true rfl), (Nat.le_of_ble_eq_true rfl)⟩) hS (fun q _ h => hFc q h) hFc (fun r_4078 u t H1 locs ht hvm hw hB hz1 hk1 hS => ?_)
      obtain ⟨hP1, hD1⟩ := hB
      rw [ht] at hP1
      try dsimp only at hw hP1 hD1
      have w_4079 := hw
      subst w_4079
      obtain ⟨hP, hD⟩ := va_join (wr := [(h0, .inr (10, [.ref x0, .int 0, .ref x1, .ref x2, .ref x3, .ref x4, .ref x5, .ref x6, .ref x7, .ref x8, .int 0, .int 3000])), (o0, .inl (kA 1, 1, .inr (.inl (vp_updL (fun _ => 0) 0 (n_apply (xs 1) 1 (n_cut (xs 2) ((((xs 4).toInt64) <<< ((32 : Int32).toInt64 &&& 63)) ||| (((xs 5).toInt64) &&& 4294967295))) (n_cut (xs 3) ((((xs 6).toInt64) <<< ((32 : Int32).toInt64 &&& 63)) ||| (((xs 7).toInt64) &&& 4294967295))))))))]) (w1 := [(m0, .inr (11, (y0.set 9 (.int 0))))]) hP hD [2] [0, 1] rfl rfl (by decide) (by decide) hk1 hFc hP1 hD1
      generalize H1 = H at hP hS ⊢
      have hP : va_P D vwCl [(h0, .inr (10, [.ref x0, .int 0, .ref x1, .ref x2, .ref x3, .ref x4, .ref x5, .ref x6, .ref x7, .ref x8, .int 0, .int 3000])), (o0, .inl (kA 1, 1, .inr (.inl (vp_updL (fun _ => 0) 0 (n_apply (xs 1) 1 (n_cut (xs 2) ((((xs 4).toInt64) <<< ((32 : Int32).toInt64 &&& 63)) ||| (((xs 5).toInt64) &&& 4294967295))) (n_cut (xs 3) ((((xs 6).toInt64) <<< ((32 : Int32).toInt64 &&& 63)) ||| (((xs 7).toInt64) &&& 4294967295)))))))), (m0, .inr (11, (y0.set 9 (.int 0))))] H := hP
      have hD : va_D A [(h0, .inr (10, [.ref x0, .int 0, .ref x1, .ref x2, .ref x3, .ref x4, .ref x5, .ref x6, .ref x7, .ref x8, .int 0, .int 3000])), (o0, .inl (kA 1, 1, .inr (.inl (vp_updL (fun _ => 0) 0 (n_apply (xs 1) 1 (n_cut (xs 2) ((((xs 4).toInt64) <<< ((32 : Int32).toInt64 &&& 63)) ||| (((xs 5).toInt64) &&& 4294967295))) (n_cut (xs 3) ((((xs 6).toInt64) <<< ((32 : Int32).toInt64 &&& 63)) ||| (((xs 7).toInt64) &&& 4294967295)))))))), (m0, .inr (11, (y0.set 9 (.int 0))))] := hD
      refine lv_iload hx hb dL_law_1778 (lv_at hl 1 rfl) ?_
      refine lv_icmp_eq (tgt := 1785) hx hb dL_law_1780 (by decide) (fun c_4080 => ?_) (fun c_4080 => ?_)
      · skip
        refine lv_iload hx hb dL_law_1785 (lv_at hl 1 rfl) ?_
        refine lv_if_ne (tgt := 1801) hx hb dL_law_1787 (by decide) (fun c_4081 => ?_) (fun c_4081 => ?_)
        · exact absurd (by decide) c_4081
        · skip
          refine lv_aload_n hx hb dL_law_1790 rfl (lv_at hl 5 rfl) ?_
          refine lv_iconst (v := 0) hx hb dL_law_1791 (by decide) ?_
          refine va_lald hx hb hK hP 1 1 rfl rfl (show vp_in 0 1 by unfold vp_in; decide) dL_law_1792 ?_
          refine W.eq (g2 := F0 m 1793 ls [.long (n_apply (xs 1) 1 (n_cut (xs 2) ((((xs 4).toInt64) <<< ((32 : Int32).toInt64 &&& 63)) ||| (((xs 5).toInt64) &&& 4294967295))) (n_cut (xs 3) ((((xs 6).toInt64) <<< ((32 : Int32).toInt64 &&& 63)) ||| (((xs 7).toInt64) &&& 4294967295))))]) rfl ?_
          refine lv_lload hx hb dL_law_1793 (lv_at hl 0 rfl) ?_
          refine W.lcmp hx hb dL_law_1795 ?_
          refine lv_if_eq (tgt := 1801) hx hb dL_law_1796 (by decide) (fun c_4082 => ?_) (fun c_4082 => ?_)
          · skip
            refine lv_goto (tgt := 1804) hx hb dL_law_1801 (by decide) ?_
            exact lk_tail hC hA2 (lv_sub hl [2, 6] rfl) hS (Nat.le_of_ble_eq_true rfl) (Nat.le_of_ble_eq_true rfl)
          · exact absurd ((lg_cmp_eq _ _).mpr (qx_a c_49 c_3985 (by rw [c_3989]; decide))) c_4082
      · exact absurd (by decide) c_4080
    · skip
      subst w_4003
      subst w_4004
      obtain ⟨hP, hD⟩ := va_join (wr := [(h0, .inr (10, [.ref x0, .int 0, .ref x1, .ref x2, .ref x3, .ref x4, .ref x5, .ref x6, .ref x7, .ref x8, .int 0, .int 3000])), (o0, .inl (kA 1, 1, .inr (.inl (vp_updL (fun _ => 0) 0 (n_apply (xs 1) 1 (n_cut (xs 2) ((((xs 4).toInt64) <<< ((32 : Int32).toInt64 &&& 63)) ||| (((xs 5).toInt64) &&& 4294967295))) (n_cut (xs 3) ((((xs 6).toInt64) <<< ((32 : Int32).toInt64 &&& 63)) ||| (((xs 7).toInt64) &&& 4294967295))))))))]) (w1 := [(m0, .inr (11, y0.set 9 (.int 0)))]) hP hD [0] [1, 2] rfl rfl (by decide) (by decide) hk1 hFc hP1 hD1
      generalize H1 = H at hP hS ⊢
      have hP : va_P D vwCl [(h0, .inr (10, [.ref x0, .int 0, .ref x1, .ref x2, .ref x3, .ref x4, .ref x5, .ref x6, .ref x7, .ref x8, .int 0, .int 3000])), (o0, .inl (kA 1, 1, .inr (.inl (vp_updL (fun _ => 0) 0 (n_apply (xs 1) 1 (n_cut (xs 2) ((((xs 4).toInt64) <<< ((32 : Int32).toInt64 &&& 63)) ||| (((xs 5).toInt64) &&& 4294967295))) (n_cut (xs 3) ((((xs 6).toInt64) <<< ((32 : Int32).toInt64 &&& 63)) ||| (((xs 7).toInt64) &&& 4294967295)))))))), (m0, .inr (11, y0.set 9 (.int 0)))] H := hP
      have hD : va_D A [(h0, .inr (10, [.ref x0, .int 0, .ref x1, .ref x2, .ref x3, .ref x4, .ref x5, .ref x6, .ref x7, .ref x8, .int 0, .int 3000])), (o0, .inl (kA 1, 1, .inr (.inl (vp_updL (fun _ => 0) 0 (n_apply (xs 1) 1 (n_cut (xs 2) ((((xs 4).toInt64) <<< ((32 : Int32).toInt64 &&& 63)) ||| (((xs 5).toInt64) &&& 4294967295))) (n_cut (xs 3) ((((xs 6).toInt64) <<< ((32 : Int32).toInt64 &&& 63)) ||| (((xs 7).toInt64) &&& 4294967295)))))))), (m0, .inr (11, y0.set 9 (.int 0)))] := hD
      refine lv_lstore (lv' := [(6, .long (r_two 238 1 (n_cut (xs 2) ((((xs 4).toInt64) <<< ((32 : Int32).toInt64 &&& 63)) ||| (((xs 5).toInt64) &&& 4294967295))) (n_cut (xs 3) ((((xs 6).toInt64) <<< ((32 : Int32).toInt64 &&& 63)) ||| (((xs 7).toInt64) &&& 4294967295))))), (5, .int 0), (0, .ref b), (1, .ref h0), (2, .ref m0), (3, .ref o0), (4, .int 0)]) hx hb dL_law_1772 hl (by decide) rfl (fun ls hl => ?_)
      refine lv_aload_n hx hb dL_law_1774 rfl (lv_at hl 4 rfl) ?_
      have hPc := hP.sub (ws' := [(m0, .inr (11, y0.set 9 (.int 0)))]) [2] rfl
      have hDc := hD.sub (ws' := [(m0, .inr (11, y0.set 9 (.int 0)))]) [2] (by decide) rfl
      have hFc := va_free (wc := [(m0, .inr (11, y0.set 9 (.int 0)))]) hD hS hA [2] rfl
      refine va_calli (va_runV (As := []) (rest := []) ⟨hx, hb, hml, hown, hts⟩ (a94_X12_thrown l  D kA V H.size m0 (y0.set 9 (.int 0)) (fun k hk => (by rw [List.length_set]; exact (hq k hk))) (List.getElem?_set_self (hq 9 (by decide)))) (cwV 0 hts (gw_V gw_1879 gw_1880 gw_1881 gw_16 gw_1882) rfl rfl rfl (by decide +kernel) ⟨(Nat.le_of_ble_eq_true rfl), (Nat.le_of_ble_eq_true rfl)⟩) ⟨aP.blind, va_recv hK hP (ci := 11) (q0 := 2) rfl rfl, aP.pre hE hS hPc hK hDc hFc⟩ rfl rfl hl.1 rfl (lv_room (Nat.le_of_ble_eq_true rfl)) dL_law_1775 ⟨(Nat.le_of_ble_eq_true rfl), (Nat.le_of_ble_eq_true rfl)⟩) hS (fun q _ h => hFc q h) hFc (fun r_4083 u t H1 locs ht hvm hw hB hz1 hk1 hS => ?_)
      obtain ⟨hP1, hD1⟩ := hB
      rw [ht] at hP1
      try dsimp only at hw hP1 hD1
      have w_4084 := hw
      subst w_4084
      obtain ⟨hP, hD⟩ := va_join (wr := [(h0, .inr (10, [.ref x0, .int 0, .ref x1, .ref x2, .ref x3, .ref x4, .ref x5, .ref x6, .ref x7, .ref x8, .int 0, .int 3000])), (o0, .inl (kA 1, 1, .inr (.inl (vp_updL (fun _ => 0) 0 (n_apply (xs 1) 1 (n_cut (xs 2) ((((xs 4).toInt64) <<< ((32 : Int32).toInt64 &&& 63)) ||| (((xs 5).toInt64) &&& 4294967295))) (n_cut (xs 3) ((((xs 6).toInt64) <<< ((32 : Int32).toInt64 &&& 63)) ||| (((xs 7).toInt64) &&& 4294967295))))))))]) (w1 := [(m0, .inr (11, (y0.set 9 (.int 0))))]) hP hD [2] [0, 1] rfl rfl (by decide) (by decide) hk1 hFc hP1 hD1
      generalize H1 = H at hP hS ⊢
      have hP : va_P D vwCl [(h0, .inr (10, [.ref x0, .int 0, .ref x1, .ref x2, .ref x3, .ref x4, .ref x5, .ref x6, .ref x7, .ref x8, .int 0, .int 3000])), (o0, .inl (kA 1, 1, .inr (.inl (vp_updL (fun _ => 0) 0 (n_apply (xs 1) 1 (n_cut (xs 2) ((((xs 4).toInt64) <<< ((32 : Int32).toInt64 &&& 63)) ||| (((xs 5).toInt64) &&& 4294967295))) (n_cut (xs 3) ((((xs 6).toInt64) <<< ((32 : Int32).toInt64 &&& 63)) ||| (((xs 7).toInt64) &&& 4294967295)))))))), (m0, .inr (11, (y0.set 9 (.int 0))))] H := hP
      have hD : va_D A [(h0, .inr (10, [.ref x0, .int 0, .ref x1, .ref x2, .ref x3, .ref x4, .ref x5, .ref x6, .ref x7, .ref x8, .int 0, .int 3000])), (o0, .inl (kA 1, 1, .inr (.inl (vp_updL (fun _ => 0) 0 (n_apply (xs 1) 1 (n_cut (xs 2) ((((xs 4).toInt64) <<< ((32 : Int32).toInt64 &&& 63)) ||| (((xs 5).toInt64) &&& 4294967295))) (n_cut (xs 3) ((((xs 6).toInt64) <<< ((32 : Int32).toInt64 &&& 63)) ||| (((xs 7).toInt64) &&& 4294967295)))))))), (m0, .inr (11, (y0.set 9 (.int 0))))] := hD
      refine lv_iload hx hb dL_law_1778 (lv_at hl 1 rfl) ?_
      refine lv_icmp_eq (tgt := 1785) hx hb dL_law_1780 (by decide) (fun c_4085 => ?_) (fun c_4085 => ?_)
      · skip
        refine lv_iload hx hb dL_law_1785 (lv_at hl 1 rfl) ?_
        refine lv_if_ne (tgt := 1801) hx hb dL_law_1787 (by decide) (fun c_4086 => ?_) (fun c_4086 => ?_)
        · exact absurd (by decide) c_4086
        · skip
          refine lv_aload_n hx hb dL_law_1790 rfl (lv_at hl 5 rfl) ?_
          refine lv_iconst (v := 0) hx hb dL_law_1791 (by decide) ?_
          refine va_lald hx hb hK hP 1 1 rfl rfl (show vp_in 0 1 by unfold vp_in; decide) dL_law_1792 ?_
          refine W.eq (g2 := F0 m 1793 ls [.long (n_apply (xs 1) 1 (n_cut (xs 2) ((((xs 4).toInt64) <<< ((32 : Int32).toInt64 &&& 63)) ||| (((xs 5).toInt64) &&& 4294967295))) (n_cut (xs 3) ((((xs 6).toInt64) <<< ((32 : Int32).toInt64 &&& 63)) ||| (((xs 7).toInt64) &&& 4294967295))))]) rfl ?_
          refine lv_lload hx hb dL_law_1793 (lv_at hl 0 rfl) ?_
          refine W.lcmp hx hb dL_law_1795 ?_
          refine lv_if_eq (tgt := 1801) hx hb dL_law_1796 (by decide) (fun c_4087 => ?_) (fun c_4087 => ?_)
          · skip
            refine lv_goto (tgt := 1804) hx hb dL_law_1801 (by decide) ?_
            exact lk_tail hC hA2 (lv_sub hl [2, 6] rfl) hS (Nat.le_of_ble_eq_true rfl) (Nat.le_of_ble_eq_true rfl)
          · exact absurd ((lg_cmp_eq _ _).mpr (qx_a c_49 c_3999 (by rw [c_4002]; decide))) c_4087
      · exact absurd (by decide) c_4085
    · skip
      subst w_4015
      subst w_4016
      obtain ⟨hP, hD⟩ := va_join (wr := [(h0, .inr (10, [.ref x0, .int 0, .ref x1, .ref x2, .ref x3, .ref x4, .ref x5, .ref x6, .ref x7, .ref x8, .int 0, .int 3000])), (o0, .inl (kA 1, 1, .inr (.inl (vp_updL (fun _ => 0) 0 (n_apply (xs 1) 1 (n_cut (xs 2) ((((xs 4).toInt64) <<< ((32 : Int32).toInt64 &&& 63)) ||| (((xs 5).toInt64) &&& 4294967295))) (n_cut (xs 3) ((((xs 6).toInt64) <<< ((32 : Int32).toInt64 &&& 63)) ||| (((xs 7).toInt64) &&& 4294967295))))))))]) (w1 := [(m0, .inr (11, y0.set 9 (.int 0)))]) hP hD [0] [1, 2] rfl rfl (by decide) (by decide) hk1 hFc hP1 hD1
      generalize H1 = H at hP hS ⊢
      have hP : va_P D vwCl [(h0, .inr (10, [.ref x0, .int 0, .ref x1, .ref x2, .ref x3, .ref x4, .ref x5, .ref x6, .ref x7, .ref x8, .int 0, .int 3000])), (o0, .inl (kA 1, 1, .inr (.inl (vp_updL (fun _ => 0) 0 (n_apply (xs 1) 1 (n_cut (xs 2) ((((xs 4).toInt64) <<< ((32 : Int32).toInt64 &&& 63)) ||| (((xs 5).toInt64) &&& 4294967295))) (n_cut (xs 3) ((((xs 6).toInt64) <<< ((32 : Int32).toInt64 &&& 63)) ||| (((xs 7).toInt64) &&& 4294967295)))))))), (m0, .inr (11, y0.set 9 (.int 0)))] H := hP
      have hD : va_D A [(h0, .inr (10, [.ref x0, .int 0, .ref x1, .ref x2, .ref x3, .ref x4, .ref x5, .ref x6, .ref x7, .ref x8, .int 0, .int 3000])), (o0, .inl (kA 1, 1, .inr (.inl (vp_updL (fun _ => 0) 0 (n_apply (xs 1) 1 (n_cut (xs 2) ((((xs 4).toInt64) <<< ((32 : Int32).toInt64 &&& 63)) ||| (((xs 5).toInt64) &&& 4294967295))) (n_cut (xs 3) ((((xs 6).toInt64) <<< ((32 : Int32).toInt64 &&& 63)) ||| (((xs 7).toInt64) &&& 4294967295)))))))), (m0, .inr (11, y0.set 9 (.int 0)))] := hD
      refine lv_lstore (lv' := [(6, .long (r_two 218 1 (n_cut (xs 2) ((((xs 4).toInt64) <<< ((32 : Int32).toInt64 &&& 63)) ||| (((xs 5).toInt64) &&& 4294967295))) (n_cut (xs 3) ((((xs 6).toInt64) <<< ((32 : Int32).toInt64 &&& 63)) ||| (((xs 7).toInt64) &&& 4294967295))))), (5, .int 0), (0, .ref b), (1, .ref h0), (2, .ref m0), (3, .ref o0), (4, .int 0)]) hx hb dL_law_1772 hl (by decide) rfl (fun ls hl => ?_)
      refine lv_aload_n hx hb dL_law_1774 rfl (lv_at hl 4 rfl) ?_
      have hPc := hP.sub (ws' := [(m0, .inr (11, y0.set 9 (.int 0)))]) [2] rfl
      have hDc := hD.sub (ws' := [(m0, .inr (11, y0.set 9 (.int 0)))]) [2] (by decide) rfl
      have hFc := va_free (wc := [(m0, .inr (11, y0.set 9 (.int 0)))]) hD hS hA [2] rfl
      refine va_calli (va_runV (As := []) (rest := []) ⟨hx, hb, hml, hown, hts⟩ (a94_X12_thrown l  D kA V H.size m0 (y0.set 9 (.int 0)) (fun k hk => (by rw [List.length_set]; exact (hq k hk))) (List.getElem?_set_self (hq 9 (by decide)))) (cwV 0 hts (gw_V gw_1879 gw_1880 gw_1881 gw_16 gw_1882) rfl rfl rfl (by decide +kernel) ⟨(Nat.le_of_ble_eq_true rfl), (Nat.le_of_ble_eq_true rfl)⟩) ⟨aP.blind, va_recv hK hP (ci := 11) (q0 := 2) rfl rfl, aP.pre hE hS hPc hK hDc hFc⟩ rfl rfl hl.1 rfl (lv_room (Nat.le_of_ble_eq_true rfl)) dL_law_1775 ⟨(Nat.le_of_ble_eq_true rfl), (Nat.le_of_ble_eq_true rfl)⟩) hS (fun q _ h => hFc q h) hFc (fun r_4088 u t H1 locs ht hvm hw hB hz1 hk1 hS => ?_)
      obtain ⟨hP1, hD1⟩ := hB
      rw [ht] at hP1
      try dsimp only at hw hP1 hD1
      have w_4089 := hw
      subst w_4089
      obtain ⟨hP, hD⟩ := va_join (wr := [(h0, .inr (10, [.ref x0, .int 0, .ref x1, .ref x2, .ref x3, .ref x4, .ref x5, .ref x6, .ref x7, .ref x8, .int 0, .int 3000])), (o0, .inl (kA 1, 1, .inr (.inl (vp_updL (fun _ => 0) 0 (n_apply (xs 1) 1 (n_cut (xs 2) ((((xs 4).toInt64) <<< ((32 : Int32).toInt64 &&& 63)) ||| (((xs 5).toInt64) &&& 4294967295))) (n_cut (xs 3) ((((xs 6).toInt64) <<< ((32 : Int32).toInt64 &&& 63)) ||| (((xs 7).toInt64) &&& 4294967295))))))))]) (w1 := [(m0, .inr (11, (y0.set 9 (.int 0))))]) hP hD [2] [0, 1] rfl rfl (by decide) (by decide) hk1 hFc hP1 hD1
      generalize H1 = H at hP hS ⊢
      have hP : va_P D vwCl [(h0, .inr (10, [.ref x0, .int 0, .ref x1, .ref x2, .ref x3, .ref x4, .ref x5, .ref x6, .ref x7, .ref x8, .int 0, .int 3000])), (o0, .inl (kA 1, 1, .inr (.inl (vp_updL (fun _ => 0) 0 (n_apply (xs 1) 1 (n_cut (xs 2) ((((xs 4).toInt64) <<< ((32 : Int32).toInt64 &&& 63)) ||| (((xs 5).toInt64) &&& 4294967295))) (n_cut (xs 3) ((((xs 6).toInt64) <<< ((32 : Int32).toInt64 &&& 63)) ||| (((xs 7).toInt64) &&& 4294967295)))))))), (m0, .inr (11, (y0.set 9 (.int 0))))] H := hP
      have hD : va_D A [(h0, .inr (10, [.ref x0, .int 0, .ref x1, .ref x2, .ref x3, .ref x4, .ref x5, .ref x6, .ref x7, .ref x8, .int 0, .int 3000])), (o0, .inl (kA 1, 1, .inr (.inl (vp_updL (fun _ => 0) 0 (n_apply (xs 1) 1 (n_cut (xs 2) ((((xs 4).toInt64) <<< ((32 : Int32).toInt64 &&& 63)) ||| (((xs 5).toInt64) &&& 4294967295))) (n_cut (xs 3) ((((xs 6).toInt64) <<< ((32 : Int32).toInt64 &&& 63)) ||| (((xs 7).toInt64) &&& 4294967295)))))))), (m0, .inr (11, (y0.set 9 (.int 0))))] := hD
      refine lv_iload hx hb dL_law_1778 (lv_at hl 1 rfl) ?_
      refine lv_icmp_eq (tgt := 1785) hx hb dL_law_1780 (by decide) (fun c_4090 => ?_) (fun c_4090 => ?_)
      · skip
        refine lv_iload hx hb dL_law_1785 (lv_at hl 1 rfl) ?_
        refine lv_if_ne (tgt := 1801) hx hb dL_law_1787 (by decide) (fun c_4091 => ?_) (fun c_4091 => ?_)
        · exact absurd (by decide) c_4091
        · skip
          refine lv_aload_n hx hb dL_law_1790 rfl (lv_at hl 5 rfl) ?_
          refine lv_iconst (v := 0) hx hb dL_law_1791 (by decide) ?_
          refine va_lald hx hb hK hP 1 1 rfl rfl (show vp_in 0 1 by unfold vp_in; decide) dL_law_1792 ?_
          refine W.eq (g2 := F0 m 1793 ls [.long (n_apply (xs 1) 1 (n_cut (xs 2) ((((xs 4).toInt64) <<< ((32 : Int32).toInt64 &&& 63)) ||| (((xs 5).toInt64) &&& 4294967295))) (n_cut (xs 3) ((((xs 6).toInt64) <<< ((32 : Int32).toInt64 &&& 63)) ||| (((xs 7).toInt64) &&& 4294967295))))]) rfl ?_
          refine lv_lload hx hb dL_law_1793 (lv_at hl 0 rfl) ?_
          refine W.lcmp hx hb dL_law_1795 ?_
          refine lv_if_eq (tgt := 1801) hx hb dL_law_1796 (by decide) (fun c_4092 => ?_) (fun c_4092 => ?_)
          · skip
            refine lv_goto (tgt := 1804) hx hb dL_law_1801 (by decide) ?_
            exact lk_tail hC hA2 (lv_sub hl [2, 6] rfl) hS (Nat.le_of_ble_eq_true rfl) (Nat.le_of_ble_eq_true rfl)
          · exact absurd ((lg_cmp_eq _ _).mpr (qx_a c_49 c_4012 (by rw [c_4014]; decide))) c_4092
      · exact absurd (by decide) c_4090
    · skip
      subst w_4026
      subst w_4027
      obtain ⟨hP, hD⟩ := va_join (wr := [(h0, .inr (10, [.ref x0, .int 0, .ref x1, .ref x2, .ref x3, .ref x4, .ref x5, .ref x6, .ref x7, .ref x8, .int 0, .int 3000])), (o0, .inl (kA 1, 1, .inr (.inl (vp_updL (fun _ => 0) 0 (n_apply (xs 1) 1 (n_cut (xs 2) ((((xs 4).toInt64) <<< ((32 : Int32).toInt64 &&& 63)) ||| (((xs 5).toInt64) &&& 4294967295))) (n_cut (xs 3) ((((xs 6).toInt64) <<< ((32 : Int32).toInt64 &&& 63)) ||| (((xs 7).toInt64) &&& 4294967295))))))))]) (w1 := [(m0, .inr (11, y0.set 9 (.int 0)))]) hP hD [0] [1, 2] rfl rfl (by decide) (by decide) hk1 hFc hP1 hD1
      generalize H1 = H at hP hS ⊢
      have hP : va_P D vwCl [(h0, .inr (10, [.ref x0, .int 0, .ref x1, .ref x2, .ref x3, .ref x4, .ref x5, .ref x6, .ref x7, .ref x8, .int 0, .int 3000])), (o0, .inl (kA 1, 1, .inr (.inl (vp_updL (fun _ => 0) 0 (n_apply (xs 1) 1 (n_cut (xs 2) ((((xs 4).toInt64) <<< ((32 : Int32).toInt64 &&& 63)) ||| (((xs 5).toInt64) &&& 4294967295))) (n_cut (xs 3) ((((xs 6).toInt64) <<< ((32 : Int32).toInt64 &&& 63)) ||| (((xs 7).toInt64) &&& 4294967295)))))))), (m0, .inr (11, y0.set 9 (.int 0)))] H := hP
      have hD : va_D A [(h0, .inr (10, [.ref x0, .int 0, .ref x1, .ref x2, .ref x3, .ref x4, .ref x5, .ref x6, .ref x7, .ref x8, .int 0, .int 3000])), (o0, .inl (kA 1, 1, .inr (.inl (vp_updL (fun _ => 0) 0 (n_apply (xs 1) 1 (n_cut (xs 2) ((((xs 4).toInt64) <<< ((32 : Int32).toInt64 &&& 63)) ||| (((xs 5).toInt64) &&& 4294967295))) (n_cut (xs 3) ((((xs 6).toInt64) <<< ((32 : Int32).toInt64 &&& 63)) ||| (((xs 7).toInt64) &&& 4294967295)))))))), (m0, .inr (11, y0.set 9 (.int 0)))] := hD
      refine lv_lstore (lv' := [(6, .long (r_two 217 1 (n_cut (xs 2) ((((xs 4).toInt64) <<< ((32 : Int32).toInt64 &&& 63)) ||| (((xs 5).toInt64) &&& 4294967295))) (n_cut (xs 3) ((((xs 6).toInt64) <<< ((32 : Int32).toInt64 &&& 63)) ||| (((xs 7).toInt64) &&& 4294967295))))), (5, .int 0), (0, .ref b), (1, .ref h0), (2, .ref m0), (3, .ref o0), (4, .int 0)]) hx hb dL_law_1772 hl (by decide) rfl (fun ls hl => ?_)
      refine lv_aload_n hx hb dL_law_1774 rfl (lv_at hl 4 rfl) ?_
      have hPc := hP.sub (ws' := [(m0, .inr (11, y0.set 9 (.int 0)))]) [2] rfl
      have hDc := hD.sub (ws' := [(m0, .inr (11, y0.set 9 (.int 0)))]) [2] (by decide) rfl
      have hFc := va_free (wc := [(m0, .inr (11, y0.set 9 (.int 0)))]) hD hS hA [2] rfl
      refine va_calli (va_runV (As := []) (rest := []) ⟨hx, hb, hml, hown, hts⟩ (a94_X12_thrown l  D kA V H.size m0 (y0.set 9 (.int 0)) (fun k hk => (by rw [List.length_set]; exact (hq k hk))) (List.getElem?_set_self (hq 9 (by decide)))) (cwV 0 hts (gw_V gw_1879 gw_1880 gw_1881 gw_16 gw_1882) rfl rfl rfl (by decide +kernel) ⟨(Nat.le_of_ble_eq_true rfl), (Nat.le_of_ble_eq_true rfl)⟩) ⟨aP.blind, va_recv hK hP (ci := 11) (q0 := 2) rfl rfl, aP.pre hE hS hPc hK hDc hFc⟩ rfl rfl hl.1 rfl (lv_room (Nat.le_of_ble_eq_true rfl)) dL_law_1775 ⟨(Nat.le_of_ble_eq_true rfl), (Nat.le_of_ble_eq_true rfl)⟩) hS (fun q _ h => hFc q h) hFc (fun r_4093 u t H1 locs ht hvm hw hB hz1 hk1 hS => ?_)
      obtain ⟨hP1, hD1⟩ := hB
      rw [ht] at hP1
      try dsimp only at hw hP1 hD1
      have w_4094 := hw
      subst w_4094
      obtain ⟨hP, hD⟩ := va_join (wr := [(h0, .inr (10, [.ref x0, .int 0, .ref x1, .ref x2, .ref x3, .ref x4, .ref x5, .ref x6, .ref x7, .ref x8, .int 0, .int 3000])), (o0, .inl (kA 1, 1, .inr (.inl (vp_updL (fun _ => 0) 0 (n_apply (xs 1) 1 (n_cut (xs 2) ((((xs 4).toInt64) <<< ((32 : Int32).toInt64 &&& 63)) ||| (((xs 5).toInt64) &&& 4294967295))) (n_cut (xs 3) ((((xs 6).toInt64) <<< ((32 : Int32).toInt64 &&& 63)) ||| (((xs 7).toInt64) &&& 4294967295))))))))]) (w1 := [(m0, .inr (11, (y0.set 9 (.int 0))))]) hP hD [2] [0, 1] rfl rfl (by decide) (by decide) hk1 hFc hP1 hD1
      generalize H1 = H at hP hS ⊢
      have hP : va_P D vwCl [(h0, .inr (10, [.ref x0, .int 0, .ref x1, .ref x2, .ref x3, .ref x4, .ref x5, .ref x6, .ref x7, .ref x8, .int 0, .int 3000])), (o0, .inl (kA 1, 1, .inr (.inl (vp_updL (fun _ => 0) 0 (n_apply (xs 1) 1 (n_cut (xs 2) ((((xs 4).toInt64) <<< ((32 : Int32).toInt64 &&& 63)) ||| (((xs 5).toInt64) &&& 4294967295))) (n_cut (xs 3) ((((xs 6).toInt64) <<< ((32 : Int32).toInt64 &&& 63)) ||| (((xs 7).toInt64) &&& 4294967295)))))))), (m0, .inr (11, (y0.set 9 (.int 0))))] H := hP
      have hD : va_D A [(h0, .inr (10, [.ref x0, .int 0, .ref x1, .ref x2, .ref x3, .ref x4, .ref x5, .ref x6, .ref x7, .ref x8, .int 0, .int 3000])), (o0, .inl (kA 1, 1, .inr (.inl (vp_updL (fun _ => 0) 0 (n_apply (xs 1) 1 (n_cut (xs 2) ((((xs 4).toInt64) <<< ((32 : Int32).toInt64 &&& 63)) ||| (((xs 5).toInt64) &&& 4294967295))) (n_cut (xs 3) ((((xs 6).toInt64) <<< ((32 : Int32).toInt64 &&& 63)) ||| (((xs 7).toInt64) &&& 4294967295)))))))), (m0, .inr (11, (y0.set 9 (.int 0))))] := hD
      refine lv_iload hx hb dL_law_1778 (lv_at hl 1 rfl) ?_
      refine lv_icmp_eq (tgt := 1785) hx hb dL_law_1780 (by decide) (fun c_4095 => ?_) (fun c_4095 => ?_)
      · skip
        refine lv_iload hx hb dL_law_1785 (lv_at hl 1 rfl) ?_
        refine lv_if_ne (tgt := 1801) hx hb dL_law_1787 (by decide) (fun c_4096 => ?_) (fun c_4096 => ?_)
        · exact absurd (by decide) c_4096
        · skip
          refine lv_aload_n hx hb dL_law_1790 rfl (lv_at hl 5 rfl) ?_
          refine lv_iconst (v := 0) hx hb dL_law_1791 (by decide) ?_
          refine va_lald hx hb hK hP 1 1 rfl rfl (show vp_in 0 1 by unfold vp_in; decide) dL_law_1792 ?_
          refine W.eq (g2 := F0 m 1793 ls [.long (n_apply (xs 1) 1 (n_cut (xs 2) ((((xs 4).toInt64) <<< ((32 : Int32).toInt64 &&& 63)) ||| (((xs 5).toInt64) &&& 4294967295))) (n_cut (xs 3) ((((xs 6).toInt64) <<< ((32 : Int32).toInt64 &&& 63)) ||| (((xs 7).toInt64) &&& 4294967295))))]) rfl ?_
          refine lv_lload hx hb dL_law_1793 (lv_at hl 0 rfl) ?_
          refine W.lcmp hx hb dL_law_1795 ?_
          refine lv_if_eq (tgt := 1801) hx hb dL_law_1796 (by decide) (fun c_4097 => ?_) (fun c_4097 => ?_)
          · skip
            refine lv_goto (tgt := 1804) hx hb dL_law_1801 (by decide) ?_
            exact lk_tail hC hA2 (lv_sub hl [2, 6] rfl) hS (Nat.le_of_ble_eq_true rfl) (Nat.le_of_ble_eq_true rfl)
          · exact absurd ((lg_cmp_eq _ _).mpr (qx_a c_49 c_4024 (by rw [c_4025]; decide))) c_4097
      · exact absurd (by decide) c_4095
