theorem dL_law_1633 : decode cL_law 1633 = .ok (.aload_n 1, 1) := by decide +kernel
theorem dL_law_1634 : decode cL_law 1634 = .ok (.aload_n 0, 1) := by decide +kernel
theorem dL_law_1635 : decode cL_law 1635 = .ok (.iload 4, 2) := by decide +kernel
theorem dL_law_1637 : decode cL_law 1637 = .ok (.iconst 1, 1) := by decide +kernel
theorem dL_law_1638 : decode cL_law 1638 = .ok (.iadd, 1) := by decide +kernel
theorem dL_law_1639 : decode cL_law 1639 = .ok (.iaload, 1) := by decide +kernel
theorem dL_law_1640 : decode cL_law 1640 = .ok (.aload_n 0, 1) := by decide +kernel
theorem dL_law_1641 : decode cL_law 1641 = .ok (.iload 4, 2) := by decide +kernel
theorem dL_law_1643 : decode cL_law 1643 = .ok (.iconst 2, 1) := by decide +kernel
theorem dL_law_1644 : decode cL_law 1644 = .ok (.iadd, 1) := by decide +kernel
theorem dL_law_1645 : decode cL_law 1645 = .ok (.iaload, 1) := by decide +kernel
theorem dL_law_1646 : decode cL_law 1646 = .ok (.aload_n 0, 1) := by decide +kernel
theorem dL_law_1647 : decode cL_law 1647 = .ok (.iload 4, 2) := by decide +kernel
theorem dL_law_1649 : decode cL_law 1649 = .ok (.iconst 3, 1) := by decide +kernel
theorem dL_law_1650 : decode cL_law 1650 = .ok (.iadd, 1) := by decide +kernel
theorem dL_law_1651 : decode cL_law 1651 = .ok (.iaload, 1) := by decide +kernel
theorem dL_law_1652 : decode cL_law 1652 = .ok (.aload_n 0, 1) := by decide +kernel
theorem dL_law_1653 : decode cL_law 1653 = .ok (.iload 4, 2) := by decide +kernel
theorem dL_law_1655 : decode cL_law 1655 = .ok (.iconst 4, 1) := by decide +kernel
theorem dL_law_1656 : decode cL_law 1656 = .ok (.iadd, 1) := by decide +kernel
theorem dL_law_1657 : decode cL_law 1657 = .ok (.iaload, 1) := by decide +kernel
theorem dL_law_1658 : decode cL_law 1658 = .ok (.i2l, 1) := by decide +kernel
theorem dL_law_1659 : decode cL_law 1659 = .ok (.bipush 32, 2) := by decide +kernel
theorem dL_law_1661 : decode cL_law 1661 = .ok (.lshl, 1) := by decide +kernel
theorem dL_law_1662 : decode cL_law 1662 = .ok (.aload_n 0, 1) := by decide +kernel
theorem dL_law_1663 : decode cL_law 1663 = .ok (.iload 4, 2) := by decide +kernel
theorem dL_law_1665 : decode cL_law 1665 = .ok (.iconst 5, 1) := by decide +kernel
theorem dL_law_1666 : decode cL_law 1666 = .ok (.iadd, 1) := by decide +kernel
theorem dL_law_1667 : decode cL_law 1667 = .ok (.iaload, 1) := by decide +kernel
theorem dL_law_1668 : decode cL_law 1668 = .ok (.i2l, 1) := by decide +kernel
theorem dL_law_1669 : decode cL_law 1669 = .ok (.ldc2_w 148, 3) := by decide +kernel
theorem dL_law_1672 : decode cL_law 1672 = .ok (.land, 1) := by decide +kernel
theorem dL_law_1673 : decode cL_law 1673 = .ok (.lor, 1) := by decide +kernel
theorem dL_law_1674 : decode cL_law 1674 = .ok (.aload_n 0, 1) := by decide +kernel
theorem dL_law_1675 : decode cL_law 1675 = .ok (.iload 4, 2) := by decide +kernel
theorem dL_law_1677 : decode cL_law 1677 = .ok (.bipush 6, 2) := by decide +kernel
theorem dL_law_1679 : decode cL_law 1679 = .ok (.iadd, 1) := by decide +kernel
theorem dL_law_1680 : decode cL_law 1680 = .ok (.iaload, 1) := by decide +kernel
theorem dL_law_1681 : decode cL_law 1681 = .ok (.i2l, 1) := by decide +kernel
theorem dL_law_1682 : decode cL_law 1682 = .ok (.bipush 32, 2) := by decide +kernel
theorem dL_law_1684 : decode cL_law 1684 = .ok (.lshl, 1) := by decide +kernel
theorem dL_law_1685 : decode cL_law 1685 = .ok (.aload_n 0, 1) := by decide +kernel
theorem dL_law_1686 : decode cL_law 1686 = .ok (.iload 4, 2) := by decide +kernel
theorem dL_law_1688 : decode cL_law 1688 = .ok (.bipush 7, 2) := by decide +kernel
theorem dL_law_1690 : decode cL_law 1690 = .ok (.iadd, 1) := by decide +kernel
theorem dL_law_1691 : decode cL_law 1691 = .ok (.iaload, 1) := by decide +kernel
theorem dL_law_1692 : decode cL_law 1692 = .ok (.i2l, 1) := by decide +kernel
theorem dL_law_1693 : decode cL_law 1693 = .ok (.ldc2_w 148, 3) := by decide +kernel
theorem dL_law_1696 : decode cL_law 1696 = .ok (.land, 1) := by decide +kernel
theorem dL_law_1697 : decode cL_law 1697 = .ok (.lor, 1) := by decide +kernel
theorem dL_law_1698 : decode cL_law 1698 = .ok (.aload_n 3, 1) := by decide +kernel
theorem dL_law_1699 : decode cL_law 1699 = .ok (.invokestatic 187, 3) := by decide +kernel
theorem dL_law_1702 : decode cL_law 1702 = .ok (.istore 5, 2) := by decide +kernel
theorem dL_law_1704 : decode cL_law 1704 = .ok (.aload_n 2, 1) := by decide +kernel
theorem dL_law_1705 : decode cL_law 1705 = .ok (.aload_n 0, 1) := by decide +kernel
theorem dL_law_1706 : decode cL_law 1706 = .ok (.iload 4, 2) := by decide +kernel
theorem dL_law_1708 : decode cL_law 1708 = .ok (.iconst 1, 1) := by decide +kernel
theorem dL_law_1709 : decode cL_law 1709 = .ok (.iadd, 1) := by decide +kernel
theorem dL_law_1710 : decode cL_law 1710 = .ok (.iaload, 1) := by decide +kernel
theorem dL_law_1711 : decode cL_law 1711 = .ok (.aload_n 0, 1) := by decide +kernel
theorem dL_law_1712 : decode cL_law 1712 = .ok (.iload 4, 2) := by decide +kernel
theorem dL_law_1714 : decode cL_law 1714 = .ok (.iconst 2, 1) := by decide +kernel
theorem dL_law_1715 : decode cL_law 1715 = .ok (.iadd, 1) := by decide +kernel
theorem dL_law_1716 : decode cL_law 1716 = .ok (.iaload, 1) := by decide +kernel
theorem dL_law_1717 : decode cL_law 1717 = .ok (.aload_n 0, 1) := by decide +kernel
theorem dL_law_1718 : decode cL_law 1718 = .ok (.iload 4, 2) := by decide +kernel
theorem dL_law_1720 : decode cL_law 1720 = .ok (.iconst 3, 1) := by decide +kernel
theorem dL_law_1721 : decode cL_law 1721 = .ok (.iadd, 1) := by decide +kernel
theorem dL_law_1722 : decode cL_law 1722 = .ok (.iaload, 1) := by decide +kernel
theorem dL_law_1723 : decode cL_law 1723 = .ok (.aload_n 0, 1) := by decide +kernel
theorem dL_law_1724 : decode cL_law 1724 = .ok (.iload 4, 2) := by decide +kernel
theorem dL_law_1726 : decode cL_law 1726 = .ok (.iconst 4, 1) := by decide +kernel
theorem dL_law_1727 : decode cL_law 1727 = .ok (.iadd, 1) := by decide +kernel
theorem dL_law_1728 : decode cL_law 1728 = .ok (.iaload, 1) := by decide +kernel
theorem dL_law_1729 : decode cL_law 1729 = .ok (.i2l, 1) := by decide +kernel
theorem dL_law_1730 : decode cL_law 1730 = .ok (.bipush 32, 2) := by decide +kernel
theorem dL_law_1732 : decode cL_law 1732 = .ok (.lshl, 1) := by decide +kernel
theorem dL_law_1733 : decode cL_law 1733 = .ok (.aload_n 0, 1) := by decide +kernel
theorem dL_law_1734 : decode cL_law 1734 = .ok (.iload 4, 2) := by decide +kernel
theorem dL_law_1736 : decode cL_law 1736 = .ok (.iconst 5, 1) := by decide +kernel
theorem dL_law_1737 : decode cL_law 1737 = .ok (.iadd, 1) := by decide +kernel
theorem dL_law_1738 : decode cL_law 1738 = .ok (.iaload, 1) := by decide +kernel
theorem dL_law_1739 : decode cL_law 1739 = .ok (.i2l, 1) := by decide +kernel
theorem dL_law_1740 : decode cL_law 1740 = .ok (.ldc2_w 148, 3) := by decide +kernel
theorem dL_law_1743 : decode cL_law 1743 = .ok (.land, 1) := by decide +kernel
theorem dL_law_1744 : decode cL_law 1744 = .ok (.lor, 1) := by decide +kernel
theorem dL_law_1745 : decode cL_law 1745 = .ok (.aload_n 0, 1) := by decide +kernel
theorem dL_law_1746 : decode cL_law 1746 = .ok (.iload 4, 2) := by decide +kernel
theorem dL_law_1748 : decode cL_law 1748 = .ok (.bipush 6, 2) := by decide +kernel
theorem dL_law_1750 : decode cL_law 1750 = .ok (.iadd, 1) := by decide +kernel
theorem dL_law_1751 : decode cL_law 1751 = .ok (.iaload, 1) := by decide +kernel
theorem dL_law_1752 : decode cL_law 1752 = .ok (.i2l, 1) := by decide +kernel
theorem dL_law_1753 : decode cL_law 1753 = .ok (.bipush 32, 2) := by decide +kernel
theorem dL_law_1755 : decode cL_law 1755 = .ok (.lshl, 1) := by decide +kernel
theorem dL_law_1756 : decode cL_law 1756 = .ok (.aload_n 0, 1) := by decide +kernel
theorem dL_law_1757 : decode cL_law 1757 = .ok (.iload 4, 2) := by decide +kernel
theorem dL_law_1759 : decode cL_law 1759 = .ok (.bipush 7, 2) := by decide +kernel
theorem dL_law_1761 : decode cL_law 1761 = .ok (.iadd, 1) := by decide +kernel
theorem dL_law_1762 : decode cL_law 1762 = .ok (.iaload, 1) := by decide +kernel
theorem dL_law_1763 : decode cL_law 1763 = .ok (.i2l, 1) := by decide +kernel
theorem dL_law_1764 : decode cL_law 1764 = .ok (.ldc2_w 148, 3) := by decide +kernel
theorem dL_law_1767 : decode cL_law 1767 = .ok (.land, 1) := by decide +kernel
theorem dL_law_1768 : decode cL_law 1768 = .ok (.lor, 1) := by decide +kernel
theorem dL_law_1769 : decode cL_law 1769 = .ok (.invokevirtual 189, 3) := by decide +kernel
theorem dL_law_1772 : decode cL_law 1772 = .ok (.lstore 6, 2) := by decide +kernel
theorem dL_law_1774 : decode cL_law 1774 = .ok (.aload_n 2, 1) := by decide +kernel
theorem dL_law_1775 : decode cL_law 1775 = .ok (.invokevirtual 116, 3) := by decide +kernel
theorem dL_law_1778 : decode cL_law 1778 = .ok (.iload 5, 2) := by decide +kernel
theorem dL_law_1780 : decode cL_law 1780 = .ok (.if_icmp .eq 5, 3) := by decide +kernel
theorem dL_law_1785 : decode cL_law 1785 = .ok (.iload 5, 2) := by decide +kernel
theorem dL_law_1787 : decode cL_law 1787 = .ok (.ifCond .ne 14, 3) := by decide +kernel
theorem dL_law_1790 : decode cL_law 1790 = .ok (.aload_n 3, 1) := by decide +kernel
theorem dL_law_1791 : decode cL_law 1791 = .ok (.iconst 0, 1) := by decide +kernel
theorem dL_law_1792 : decode cL_law 1792 = .ok (.laload, 1) := by decide +kernel
theorem dL_law_1793 : decode cL_law 1793 = .ok (.lload 6, 2) := by decide +kernel
theorem dL_law_1795 : decode cL_law 1795 = .ok (.lcmp, 1) := by decide +kernel
theorem dL_law_1796 : decode cL_law 1796 = .ok (.ifCond .eq 5, 3) := by decide +kernel
theorem dL_law_1801 : decode cL_law 1801 = .ok (.goto 3, 3) := by decide +kernel
set_option maxHeartbeats 4000000 in
set_option maxRecDepth 100000 in
theorem lk_23_0 {p : Program} {l : Launch} {e : Env} {s : State} {m : MethodId} {below : List Frame} {meth : Method} {c : Code} {D : va_G} {kA : Nat → ClassId} {V : Nat → Nat} {b : Nat} {xs : Nat → Int32} {A : Nat → Prop} (hC : lw_C p l s m meth c b 8 xs D kA V A) (hA2 : ∀ q, A q → s.heap.size ≤ q) (h0 : Nat) (m0 : Nat) (o0 : Nat) (x0 : Nat) (x1 : Nat) (x2 : Nat) (x3 : Nat) (x4 : Nat) (x5 : Nat) (x6 : Nat) (x7 : Nat) (x8 : Nat) (y0 : List Value) (hq : ∀ k, k < 121 → k < y0.length) (hq9 : y0[9]? = some (.int 0)) (c_3 : (xs 2) < 0) {H : Heap} {locs : List Loc} {ls : Array Slot} (hl : lv_has ls 8 [(0, .ref b), (1, .ref h0), (2, .ref m0), (3, .ref o0), (4, .int 0)]) (hS : va_S A s.heap H locs) (hP : va_P D vwCl [(m0, .inr (11, y0)), (h0, .inr (10, [.ref x0, .int 0, .ref x1, .ref x2, .ref x3, .ref x4, .ref x5, .ref x6, .ref x7, .ref x8, .int 0, .int 3000])), (o0, .inl (kA 1, 1, .inr (.inl (fun _ => 0))))] H) (hD : va_D A [(m0, .inr (11, y0)), (h0, .inr (10, [.ref x0, .int 0, .ref x1, .ref x2, .ref x3, .ref x4, .ref x5, .ref x6, .ref x7, .ref x8, .int 0, .int 3000])), (o0, .inl (kA 1, 1, .inr (.inl (fun _ => 0))))]) : W p l e room_1 s m #[Value.ref b] below meth c H locs 515 172799 (lw_Z below #[Value.ref b] s) (F0 m 1702 ls [.int 1]) := by
  have ⟨hst, hx, hb, hr, hml, hown, hts, hG, hX, hbl, hbA, hlocks, hE, hK, hA⟩ := hC
  refine lv_istore (lv' := [(5, .int 1), (0, .ref b), (1, .ref h0), (2, .ref m0), (3, .ref o0), (4, .int 0)]) hx hb dL_law_1702 hl (by decide) rfl (fun ls hl => ?_)
  refine lv_aload_n hx hb dL_law_1704 rfl (lv_at hl 3 rfl) ?_
  refine lv_aload_n hx hb dL_law_1705 rfl (lv_at hl 1 rfl) ?_
  refine lv_iload hx hb dL_law_1706 (lv_at hl 5 rfl) ?_
  refine lv_iconst (v := 1) hx hb dL_law_1708 (by decide) ?_
  refine lv_iadd hx hb dL_law_1709 ?_
  refine W.eq (g2 := F0 m 1710 ls [.int 1, .ref b, .ref m0]) rfl ?_
  refine va_sld hx hb hX hbl hbA hS (show vp_in 1 8 by unfold vp_in; decide) dL_law_1710 ?_
  refine W.eq (g2 := F0 m 1711 ls [.int (xs 1), .ref m0]) rfl ?_
  refine lv_aload_n hx hb dL_law_1711 rfl (lv_at hl 1 rfl) ?_
  refine lv_iload hx hb dL_law_1712 (lv_at hl 5 rfl) ?_
  refine lv_iconst (v := 2) hx hb dL_law_1714 (by decide) ?_
  refine lv_iadd hx hb dL_law_1715 ?_
  refine W.eq (g2 := F0 m 1716 ls [.int 2, .ref b, .int (xs 1), .ref m0]) rfl ?_
  refine va_sld hx hb hX hbl hbA hS (show vp_in 2 8 by unfold vp_in; decide) dL_law_1716 ?_
  refine W.eq (g2 := F0 m 1717 ls [.int (xs 2), .int (xs 1), .ref m0]) rfl ?_
  refine lv_aload_n hx hb dL_law_1717 rfl (lv_at hl 1 rfl) ?_
  refine lv_iload hx hb dL_law_1718 (lv_at hl 5 rfl) ?_
  refine lv_iconst (v := 3) hx hb dL_law_1720 (by decide) ?_
  refine lv_iadd hx hb dL_law_1721 ?_
  refine W.eq (g2 := F0 m 1722 ls [.int 3, .ref b, .int (xs 2), .int (xs 1), .ref m0]) rfl ?_
  refine va_sld hx hb hX hbl hbA hS (show vp_in 3 8 by unfold vp_in; decide) dL_law_1722 ?_
  refine W.eq (g2 := F0 m 1723 ls [.int (xs 3), .int (xs 2), .int (xs 1), .ref m0]) rfl ?_
  refine lv_aload_n hx hb dL_law_1723 rfl (lv_at hl 1 rfl) ?_
  refine lv_iload hx hb dL_law_1724 (lv_at hl 5 rfl) ?_
  refine lv_iconst (v := 4) hx hb dL_law_1726 (by decide) ?_
  refine lv_iadd hx hb dL_law_1727 ?_
  refine W.eq (g2 := F0 m 1728 ls [.int 4, .ref b, .int (xs 3), .int (xs 2), .int (xs 1), .ref m0]) rfl ?_
  refine va_sld hx hb hX hbl hbA hS (show vp_in 4 8 by unfold vp_in; decide) dL_law_1728 ?_
  refine W.eq (g2 := F0 m 1729 ls [.int (xs 4), .int (xs 3), .int (xs 2), .int (xs 1), .ref m0]) rfl ?_
  refine lv_i2l (v := (xs 4).toInt64) hx hb dL_law_1729 rfl ?_
  refine lv_bipush (v := 32) hx hb dL_law_1730 (by decide) ?_
  refine lv_lshl (v := ((xs 4).toInt64) <<< ((32 : Int32).toInt64 &&& 63)) hx hb dL_law_1732 rfl ?_
  refine lv_aload_n hx hb dL_law_1733 rfl (lv_at hl 1 rfl) ?_
  refine lv_iload hx hb dL_law_1734 (lv_at hl 5 rfl) ?_
  refine lv_iconst (v := 5) hx hb dL_law_1736 (by decide) ?_
  refine lv_iadd hx hb dL_law_1737 ?_
  refine W.eq (g2 := F0 m 1738 ls [.int 5, .ref b, .long (((xs 4).toInt64) <<< ((32 : Int32).toInt64 &&& 63)), .int (xs 3), .int (xs 2), .int (xs 1), .ref m0]) rfl ?_
  refine va_sld hx hb hX hbl hbA hS (show vp_in 5 8 by unfold vp_in; decide) dL_law_1738 ?_
  refine W.eq (g2 := F0 m 1739 ls [.int (xs 5), .long (((xs 4).toInt64) <<< ((32 : Int32).toInt64 &&& 63)), .int (xs 3), .int (xs 2), .int (xs 1), .ref m0]) rfl ?_
  refine lv_i2l (v := (xs 5).toInt64) hx hb dL_law_1739 rfl ?_
  refine lv_ldc2 (v := 4294967295) hx hb hown (hG _ gw_2764) dL_law_1740 ?_
  refine lv_land hx hb dL_law_1743 ?_
  refine lv_lor hx hb dL_law_1744 ?_
  refine lv_aload_n hx hb dL_law_1745 rfl (lv_at hl 1 rfl) ?_
  refine lv_iload hx hb dL_law_1746 (lv_at hl 5 rfl) ?_
  refine lv_bipush (v := 6) hx hb dL_law_1748 (by decide) ?_
  refine lv_iadd hx hb dL_law_1750 ?_
  refine W.eq (g2 := F0 m 1751 ls [.int 6, .ref b, .long ((((xs 4).toInt64) <<< ((32 : Int32).toInt64 &&& 63)) ||| (((xs 5).toInt64) &&& 4294967295)), .int (xs 3), .int (xs 2), .int (xs 1), .ref m0]) rfl ?_
  refine va_sld hx hb hX hbl hbA hS (show vp_in 6 8 by unfold vp_in; decide) dL_law_1751 ?_
  refine W.eq (g2 := F0 m 1752 ls [.int (xs 6), .long ((((xs 4).toInt64) <<< ((32 : Int32).toInt64 &&& 63)) ||| (((xs 5).toInt64) &&& 4294967295)), .int (xs 3), .int (xs 2), .int (xs 1), .ref m0]) rfl ?_
  refine lv_i2l (v := (xs 6).toInt64) hx hb dL_law_1752 rfl ?_
  refine lv_bipush (v := 32) hx hb dL_law_1753 (by decide) ?_
  refine lv_lshl (v := ((xs 6).toInt64) <<< ((32 : Int32).toInt64 &&& 63)) hx hb dL_law_1755 rfl ?_
  refine lv_aload_n hx hb dL_law_1756 rfl (lv_at hl 1 rfl) ?_
  refine lv_iload hx hb dL_law_1757 (lv_at hl 5 rfl) ?_
  refine lv_bipush (v := 7) hx hb dL_law_1759 (by decide) ?_
  refine lv_iadd hx hb dL_law_1761 ?_
  refine W.eq (g2 := F0 m 1762 ls [.int 7, .ref b, .long (((xs 6).toInt64) <<< ((32 : Int32).toInt64 &&& 63)), .long ((((xs 4).toInt64) <<< ((32 : Int32).toInt64 &&& 63)) ||| (((xs 5).toInt64) &&& 4294967295)), .int (xs 3), .int (xs 2), .int (xs 1), .ref m0]) rfl ?_
  refine va_sld hx hb hX hbl hbA hS (show vp_in 7 8 by unfold vp_in; decide) dL_law_1762 ?_
  refine W.eq (g2 := F0 m 1763 ls [.int (xs 7), .long (((xs 6).toInt64) <<< ((32 : Int32).toInt64 &&& 63)), .long ((((xs 4).toInt64) <<< ((32 : Int32).toInt64 &&& 63)) ||| (((xs 5).toInt64) &&& 4294967295)), .int (xs 3), .int (xs 2), .int (xs 1), .ref m0]) rfl ?_
  refine lv_i2l (v := (xs 7).toInt64) hx hb dL_law_1763 rfl ?_
  refine lv_ldc2 (v := 4294967295) hx hb hown (hG _ gw_2764) dL_law_1764 ?_
  refine lv_land hx hb dL_law_1767 ?_
  refine lv_lor hx hb dL_law_1768 ?_
  have hPc := hP.sub (ws' := [(m0, .inr (11, y0))]) [0] rfl
  have hDc := hD.sub (ws' := [(m0, .inr (11, y0))]) [0] (by decide) rfl
  have hFc := va_free (wc := [(m0, .inr (11, y0))]) hD hS hA [0] rfl
  refine va_calll (va_runV (As := [.int (xs 1), .int (xs 2), .int (xs 3), .long ((((xs 4).toInt64) <<< ((32 : Int32).toInt64 &&& 63)) ||| (((xs 5).toInt64) &&& 4294967295)), .long ((((xs 6).toInt64) <<< ((32 : Int32).toInt64 &&& 63)) ||| (((xs 7).toInt64) &&& 4294967295))]) (rest := []) ⟨hx, hb, hml, hown, hts⟩ (a155_X12_tell l  D kA V H.size m0 (xs 1) (xs 2) (xs 3) ((((xs 4).toInt64) <<< ((32 : Int32).toInt64 &&& 63)) ||| (((xs 5).toInt64) &&& 4294967295)) ((((xs 6).toInt64) <<< ((32 : Int32).toInt64 &&& 63)) ||| (((xs 7).toInt64) &&& 4294967295)) y0 (fun k hk => (hq k hk)) hq9) (cwV 5 hts (gw_V gw_2760 gw_2761 gw_2762 gw_16 gw_2763) rfl rfl rfl (by decide +kernel) ⟨(Nat.le_of_ble_eq_true rfl), (Nat.le_of_ble_eq_true rfl)⟩) ⟨aP.blind, va_recv hK hP (ci := 11) (q0 := 0) rfl rfl, aP.pre hE hS hPc hK hDc hFc⟩ rfl rfl hl.1 rfl (lv_room (Nat.le_of_ble_eq_true rfl)) dL_law_1769 ⟨(Nat.le_of_ble_eq_true rfl), (Nat.le_of_ble_eq_true rfl)⟩) hS (fun q _ h => hFc q h) hFc (fun r_100001 u t H1 locs ht hvm hw hB hz1 hk1 hS => ?_)
  obtain ⟨u_100002, rfl⟩ : ∃ z, z = u := ⟨u, rfl⟩
  obtain ⟨hP1, hD1⟩ := hB
  rw [ht] at hP1
  try dsimp only at hw hP1 hD1
  rcases hw with hz | hz | hz | hz | hz | hz | hz | hz | hz | hz | hz | hz | hz | hz | hz | hz | hz | hz | hz | hz | hz | hz | hz | hz | hz | hz | hz | hz | hz | hz | hz | hz | hz | hz | hz | hz | hz | hz | hz | hz | hz | hz
  · obtain ⟨c_100003, c_100004, w_100005, w_100006⟩ := hz
    subst w_100005
    subst w_100006
    obtain ⟨hP, hD⟩ := va_join (wr := [(h0, .inr (10, [.ref x0, .int 0, .ref x1, .ref x2, .ref x3, .ref x4, .ref x5, .ref x6, .ref x7, .ref x8, .int 0, .int 3000])), (o0, .inl (kA 1, 1, .inr (.inl (fun _ => 0))))]) (w1 := [(m0, .inr (11, y0.set 9 (.int 1)))]) hP hD [0] [1, 2] rfl rfl (by decide) (by decide) hk1 hFc hP1 hD1
    generalize H1 = H at hP hS ⊢
    have hP : va_P D vwCl [(h0, .inr (10, [.ref x0, .int 0, .ref x1, .ref x2, .ref x3, .ref x4, .ref x5, .ref x6, .ref x7, .ref x8, .int 0, .int 3000])), (o0, .inl (kA 1, 1, .inr (.inl (fun _ => 0)))), (m0, .inr (11, y0.set 9 (.int 1)))] H := hP
    have hD : va_D A [(h0, .inr (10, [.ref x0, .int 0, .ref x1, .ref x2, .ref x3, .ref x4, .ref x5, .ref x6, .ref x7, .ref x8, .int 0, .int 3000])), (o0, .inl (kA 1, 1, .inr (.inl (fun _ => 0)))), (m0, .inr (11, y0.set 9 (.int 1)))] := hD
    refine lv_lstore (lv' := [(6, .long 0), (5, .int 1), (0, .ref b), (1, .ref h0), (2, .ref m0), (3, .ref o0), (4, .int 0)]) hx hb dL_law_1772 hl (by decide) rfl (fun ls hl => ?_)
    refine lv_aload_n hx hb dL_law_1774 rfl (lv_at hl 4 rfl) ?_
    have hPc := hP.sub (ws' := [(m0, .inr (11, y0.set 9 (.int 1)))]) [2] rfl
    have hDc := hD.sub (ws' := [(m0, .inr (11, y0.set 9 (.int 1)))]) [2] (by decide) rfl
    have hFc := va_free (wc := [(m0, .inr (11, y0.set 9 (.int 1)))]) hD hS hA [2] rfl
    refine va_calli (va_runV (As := []) (rest := []) ⟨hx, hb, hml, hown, hts⟩ (a174_X12_thrown l  D kA V H.size m0 (y0.set 9 (.int 1)) (fun k hk => (by rw [List.length_set]; exact (hq k hk))) (List.getElem?_set_self (hq 9 (by decide)))) (cwV 0 hts (gw_V gw_1879 gw_1880 gw_1881 gw_16 gw_1882) rfl rfl rfl (by decide +kernel) ⟨(Nat.le_of_ble_eq_true rfl), (Nat.le_of_ble_eq_true rfl)⟩) ⟨aP.blind, va_recv hK hP (ci := 11) (q0 := 2) rfl rfl, aP.pre hE hS hPc hK hDc hFc⟩ rfl rfl hl.1 rfl (lv_room (Nat.le_of_ble_eq_true rfl)) dL_law_1775 ⟨(Nat.le_of_ble_eq_true rfl), (Nat.le_of_ble_eq_true rfl)⟩) hS (fun q _ h => hFc q h) hFc (fun r_100482 u t H1 locs ht hvm hw hB hz1 hk1 hS => ?_)
    obtain ⟨hP1, hD1⟩ := hB
    rw [ht] at hP1
    try dsimp only at hw hP1 hD1
    have w_100483 := hw
    subst w_100483
    obtain ⟨hP, hD⟩ := va_join (wr := [(h0, .inr (10, [.ref x0, .int 0, .ref x1, .ref x2, .ref x3, .ref x4, .ref x5, .ref x6, .ref x7, .ref x8, .int 0, .int 3000])), (o0, .inl (kA 1, 1, .inr (.inl (fun _ => 0))))]) (w1 := [(m0, .inr (11, (y0.set 9 (.int 1))))]) hP hD [2] [0, 1] rfl rfl (by decide) (by decide) hk1 hFc hP1 hD1
    generalize H1 = H at hP hS ⊢
    have hP : va_P D vwCl [(h0, .inr (10, [.ref x0, .int 0, .ref x1, .ref x2, .ref x3, .ref x4, .ref x5, .ref x6, .ref x7, .ref x8, .int 0, .int 3000])), (o0, .inl (kA 1, 1, .inr (.inl (fun _ => 0)))), (m0, .inr (11, (y0.set 9 (.int 1))))] H := hP
    have hD : va_D A [(h0, .inr (10, [.ref x0, .int 0, .ref x1, .ref x2, .ref x3, .ref x4, .ref x5, .ref x6, .ref x7, .ref x8, .int 0, .int 3000])), (o0, .inl (kA 1, 1, .inr (.inl (fun _ => 0)))), (m0, .inr (11, (y0.set 9 (.int 1))))] := hD
    refine lv_iload hx hb dL_law_1778 (lv_at hl 1 rfl) ?_
    refine lv_icmp_eq (tgt := 1785) hx hb dL_law_1780 (by decide) (fun c_100484 => ?_) (fun c_100484 => ?_)
    · skip
      refine lv_iload hx hb dL_law_1785 (lv_at hl 1 rfl) ?_
      refine lv_if_ne (tgt := 1801) hx hb dL_law_1787 (by decide) (fun c_100485 => ?_) (fun c_100485 => ?_)
      · skip
        refine lv_goto (tgt := 1804) hx hb dL_law_1801 (by decide) ?_
        exact lk_tail hC hA2 (lv_sub hl [2, 6] rfl) hS (Nat.le_of_ble_eq_true rfl) (Nat.le_of_ble_eq_true rfl)
      · exact absurd c_100485 (by decide)
    · exact absurd (by decide) c_100484
  · exact absurd c_3 hz.2.1
  · exact absurd c_3 hz.2.1
  · exact absurd c_3 hz.2.1
  · exact absurd c_3 hz.2.1
  · obtain ⟨c_100032, c_100033, c_100034, w_100035, w_100036⟩ := hz
    subst w_100035
    subst w_100036
    obtain ⟨hP, hD⟩ := va_join (wr := [(h0, .inr (10, [.ref x0, .int 0, .ref x1, .ref x2, .ref x3, .ref x4, .ref x5, .ref x6, .ref x7, .ref x8, .int 0, .int 3000])), (o0, .inl (kA 1, 1, .inr (.inl (fun _ => 0))))]) (w1 := [(m0, .inr (11, y0.set 9 (.int 1)))]) hP hD [0] [1, 2] rfl rfl (by decide) (by decide) hk1 hFc hP1 hD1
    generalize H1 = H at hP hS ⊢
    have hP : va_P D vwCl [(h0, .inr (10, [.ref x0, .int 0, .ref x1, .ref x2, .ref x3, .ref x4, .ref x5, .ref x6, .ref x7, .ref x8, .int 0, .int 3000])), (o0, .inl (kA 1, 1, .inr (.inl (fun _ => 0)))), (m0, .inr (11, y0.set 9 (.int 1)))] H := hP
    have hD : va_D A [(h0, .inr (10, [.ref x0, .int 0, .ref x1, .ref x2, .ref x3, .ref x4, .ref x5, .ref x6, .ref x7, .ref x8, .int 0, .int 3000])), (o0, .inl (kA 1, 1, .inr (.inl (fun _ => 0)))), (m0, .inr (11, y0.set 9 (.int 1)))] := hD
    refine lv_lstore (lv' := [(6, .long 0), (5, .int 1), (0, .ref b), (1, .ref h0), (2, .ref m0), (3, .ref o0), (4, .int 0)]) hx hb dL_law_1772 hl (by decide) rfl (fun ls hl => ?_)
    refine lv_aload_n hx hb dL_law_1774 rfl (lv_at hl 4 rfl) ?_
    have hPc := hP.sub (ws' := [(m0, .inr (11, y0.set 9 (.int 1)))]) [2] rfl
    have hDc := hD.sub (ws' := [(m0, .inr (11, y0.set 9 (.int 1)))]) [2] (by decide) rfl
    have hFc := va_free (wc := [(m0, .inr (11, y0.set 9 (.int 1)))]) hD hS hA [2] rfl
    refine va_calli (va_runV (As := []) (rest := []) ⟨hx, hb, hml, hown, hts⟩ (a174_X12_thrown l  D kA V H.size m0 (y0.set 9 (.int 1)) (fun k hk => (by rw [List.length_set]; exact (hq k hk))) (List.getElem?_set_self (hq 9 (by decide)))) (cwV 0 hts (gw_V gw_1879 gw_1880 gw_1881 gw_16 gw_1882) rfl rfl rfl (by decide +kernel) ⟨(Nat.le_of_ble_eq_true rfl), (Nat.le_of_ble_eq_true rfl)⟩) ⟨aP.blind, va_recv hK hP (ci := 11) (q0 := 2) rfl rfl, aP.pre hE hS hPc hK hDc hFc⟩ rfl rfl hl.1 rfl (lv_room (Nat.le_of_ble_eq_true rfl)) dL_law_1775 ⟨(Nat.le_of_ble_eq_true rfl), (Nat.le_of_ble_eq_true rfl)⟩) hS (fun q _ h => hFc q h) hFc (fun r_100486 u t H1 locs ht hvm hw hB hz1 hk1 hS => ?_)
    obtain ⟨hP1, hD1⟩ := hB
    rw [ht] at hP1
    try dsimp only at hw hP1 hD1
    have w_100487 := hw
    subst w_100487
    obtain ⟨hP, hD⟩ := va_join (wr := [(h0, .inr (10, [.ref x0, .int 0, .ref x1, .ref x2, .ref x3, .ref x4, .ref x5, .ref x6, .ref x7, .ref x8, .int 0, .int 3000])), (o0, .inl (kA 1, 1, .inr (.inl (fun _ => 0))))]) (w1 := [(m0, .inr (11, (y0.set 9 (.int 1))))]) hP hD [2] [0, 1] rfl rfl (by decide) (by decide) hk1 hFc hP1 hD1
    generalize H1 = H at hP hS ⊢
    have hP : va_P D vwCl [(h0, .inr (10, [.ref x0, .int 0, .ref x1, .ref x2, .ref x3, .ref x4, .ref x5, .ref x6, .ref x7, .ref x8, .int 0, .int 3000])), (o0, .inl (kA 1, 1, .inr (.inl (fun _ => 0)))), (m0, .inr (11, (y0.set 9 (.int 1))))] H := hP
    have hD : va_D A [(h0, .inr (10, [.ref x0, .int 0, .ref x1, .ref x2, .ref x3, .ref x4, .ref x5, .ref x6, .ref x7, .ref x8, .int 0, .int 3000])), (o0, .inl (kA 1, 1, .inr (.inl (fun _ => 0)))), (m0, .inr (11, (y0.set 9 (.int 1))))] := hD
    refine lv_iload hx hb dL_law_1778 (lv_at hl 1 rfl) ?_
    refine lv_icmp_eq (tgt := 1785) hx hb dL_law_1780 (by decide) (fun c_100488 => ?_) (fun c_100488 => ?_)
    · skip
      refine lv_iload hx hb dL_law_1785 (lv_at hl 1 rfl) ?_
      refine lv_if_ne (tgt := 1801) hx hb dL_law_1787 (by decide) (fun c_100489 => ?_) (fun c_100489 => ?_)
      · skip
        refine lv_goto (tgt := 1804) hx hb dL_law_1801 (by decide) ?_
        exact lk_tail hC hA2 (lv_sub hl [2, 6] rfl) hS (Nat.le_of_ble_eq_true rfl) (Nat.le_of_ble_eq_true rfl)
      · exact absurd c_100489 (by decide)
    · exact absurd (by decide) c_100488
  · exact absurd c_3 hz.2.2.1
  · exact absurd c_3 hz.2.2.1
  · exact absurd c_3 hz.2.2.1
  · exact absurd c_3 hz.2.2.1
  · obtain ⟨c_100066, c_100067, c_100068, w_100069, w_100070⟩ := hz
    subst w_100069
    subst w_100070
    obtain ⟨hP, hD⟩ := va_join (wr := [(h0, .inr (10, [.ref x0, .int 0, .ref x1, .ref x2, .ref x3, .ref x4, .ref x5, .ref x6, .ref x7, .ref x8, .int 0, .int 3000])), (o0, .inl (kA 1, 1, .inr (.inl (fun _ => 0))))]) (w1 := [(m0, .inr (11, y0.set 9 (.int 1)))]) hP hD [0] [1, 2] rfl rfl (by decide) (by decide) hk1 hFc hP1 hD1
    generalize H1 = H at hP hS ⊢
    have hP : va_P D vwCl [(h0, .inr (10, [.ref x0, .int 0, .ref x1, .ref x2, .ref x3, .ref x4, .ref x5, .ref x6, .ref x7, .ref x8, .int 0, .int 3000])), (o0, .inl (kA 1, 1, .inr (.inl (fun _ => 0)))), (m0, .inr (11, y0.set 9 (.int 1)))] H := hP
    have hD : va_D A [(h0, .inr (10, [.ref x0, .int 0, .ref x1, .ref x2, .ref x3, .ref x4, .ref x5, .ref x6, .ref x7, .ref x8, .int 0, .int 3000])), (o0, .inl (kA 1, 1, .inr (.inl (fun _ => 0)))), (m0, .inr (11, y0.set 9 (.int 1)))] := hD
    refine lv_lstore (lv' := [(6, .long 0), (5, .int 1), (0, .ref b), (1, .ref h0), (2, .ref m0), (3, .ref o0), (4, .int 0)]) hx hb dL_law_1772 hl (by decide) rfl (fun ls hl => ?_)
    refine lv_aload_n hx hb dL_law_1774 rfl (lv_at hl 4 rfl) ?_
    have hPc := hP.sub (ws' := [(m0, .inr (11, y0.set 9 (.int 1)))]) [2] rfl
    have hDc := hD.sub (ws' := [(m0, .inr (11, y0.set 9 (.int 1)))]) [2] (by decide) rfl
    have hFc := va_free (wc := [(m0, .inr (11, y0.set 9 (.int 1)))]) hD hS hA [2] rfl
    refine va_calli (va_runV (As := []) (rest := []) ⟨hx, hb, hml, hown, hts⟩ (a174_X12_thrown l  D kA V H.size m0 (y0.set 9 (.int 1)) (fun k hk => (by rw [List.length_set]; exact (hq k hk))) (List.getElem?_set_self (hq 9 (by decide)))) (cwV 0 hts (gw_V gw_1879 gw_1880 gw_1881 gw_16 gw_1882) rfl rfl rfl (by decide +kernel) ⟨(Nat.le_of_ble_eq_true rfl), (Nat.le_of_ble_eq_true rfl)⟩) ⟨aP.blind, va_recv hK hP (ci := 11) (q0 := 2) rfl rfl, aP.pre hE hS hPc hK hDc hFc⟩ rfl rfl hl.1 rfl (lv_room (Nat.le_of_ble_eq_true rfl)) dL_law_1775 ⟨(Nat.le_of_ble_eq_true rfl), (Nat.le_of_ble_eq_true rfl)⟩) hS (fun q _ h => hFc q h) hFc (fun r_100490 u t H1 locs ht hvm hw hB hz1 hk1 hS => ?_)
    obtain ⟨hP1, hD1⟩ := hB
    rw [ht] at hP1
    try dsimp only at hw hP1 hD1
    have w_100491 := hw
    subst w_100491
    obtain ⟨hP, hD⟩ := va_join (wr := [(h0, .inr (10, [.ref x0, .int 0, .ref x1, .ref x2, .ref x3, .ref x4, .ref x5, .ref x6, .ref x7, .ref x8, .int 0, .int 3000])), (o0, .inl (kA 1, 1, .inr (.inl (fun _ => 0))))]) (w1 := [(m0, .inr (11, (y0.set 9 (.int 1))))]) hP hD [2] [0, 1] rfl rfl (by decide) (by decide) hk1 hFc hP1 hD1
    generalize H1 = H at hP hS ⊢
    have hP : va_P D vwCl [(h0, .inr (10, [.ref x0, .int 0, .ref x1, .ref x2, .ref x3, .ref x4, .ref x5, .ref x6, .ref x7, .ref x8, .int 0, .int 3000])), (o0, .inl (kA 1, 1, .inr (.inl (fun _ => 0)))), (m0, .inr (11, (y0.set 9 (.int 1))))] H := hP
    have hD : va_D A [(h0, .inr (10, [.ref x0, .int 0, .ref x1, .ref x2, .ref x3, .ref x4, .ref x5, .ref x6, .ref x7, .ref x8, .int 0, .int 3000])), (o0, .inl (kA 1, 1, .inr (.inl (fun _ => 0)))), (m0, .inr (11, (y0.set 9 (.int 1))))] := hD
    refine lv_iload hx hb dL_law_1778 (lv_at hl 1 rfl) ?_
    refine lv_icmp_eq (tgt := 1785) hx hb dL_law_1780 (by decide) (fun c_100492 => ?_) (fun c_100492 => ?_)
    · skip
      refine lv_iload hx hb dL_law_1785 (lv_at hl 1 rfl) ?_
      refine lv_if_ne (tgt := 1801) hx hb dL_law_1787 (by decide) (fun c_100493 => ?_) (fun c_100493 => ?_)
      · skip
        refine lv_goto (tgt := 1804) hx hb dL_law_1801 (by decide) ?_
        exact lk_tail hC hA2 (lv_sub hl [2, 6] rfl) hS (Nat.le_of_ble_eq_true rfl) (Nat.le_of_ble_eq_true rfl)
      · exact absurd c_100493 (by decide)
    · exact absurd (by decide) c_100492
  · exact absurd c_3 hz.2.2.1
  · exact absurd c_3 hz.2.2.1
  · exact absurd c_3 hz.2.2.1
  · exact absurd c_3 hz.2.2.1
  · exact absurd c_3 hz.2.2.1
  · exact absurd c_3 hz.2.2.1
  · exact absurd c_3 hz.2.2.1
  · exact absurd c_3 hz.2.2.1
  · exact absurd c_3 hz.2.2.1
  · exact absurd c_3 hz.2.2.1
  · exact absurd c_3 hz.2.2.1
  · exact absurd c_3 hz.2.2.1
  · exact absurd c_3 hz.2.2.1
  · exact absurd c_3 hz.2.2.1
  · exact absurd c_3 hz.2.2.1
  · exact absurd c_3 hz.2.2.1
  · exact absurd c_3 hz.2.2.1
  · exact absurd c_3 hz.2.2.1
  · exact absurd c_3 hz.2.2.1
  · exact absurd c_3 hz.2.2.1
  · exact absurd c_3 hz.2.2.1
  · exact absurd c_3 hz.2.2.1
  · exact absurd c_3 hz.2.2.1
  · exact absurd c_3 hz.2.2.1
  · exact absurd c_3 hz.2.2.1
  · exact absurd c_3 hz.2.2.1
  · exact absurd c_3 hz.2.2.1
  · exact absurd c_3 hz.2.2.1
  · exact absurd c_3 hz.2.2.1
  · exact absurd c_3 hz.2.2.1
  · exact absurd c_3 hz.2.2.1
set_option maxHeartbeats 4000000 in
set_option maxRecDepth 100000 in
theorem lk_23_1 {p : Program} {l : Launch} {e : Env} {s : State} {m : MethodId} {below : List Frame} {meth : Method} {c : Code} {D : va_G} {kA : Nat → ClassId} {V : Nat → Nat} {b : Nat} {xs : Nat → Int32} {A : Nat → Prop} (hC : lw_C p l s m meth c b 8 xs D kA V A) (hA2 : ∀ q, A q → s.heap.size ≤ q) (h0 : Nat) (m0 : Nat) (o0 : Nat) (x0 : Nat) (x1 : Nat) (x2 : Nat) (x3 : Nat) (x4 : Nat) (x5 : Nat) (x6 : Nat) (x7 : Nat) (x8 : Nat) (y0 : List Value) (hq : ∀ k, k < 121 → k < y0.length) (hq9 : y0[9]? = some (.int 0)) (c_6 : ¬ (xs 2) < 0) (c_7 : 4 < (xs 2)) {H : Heap} {locs : List Loc} {ls : Array Slot} (hl : lv_has ls 8 [(0, .ref b), (1, .ref h0), (2, .ref m0), (3, .ref o0), (4, .int 0)]) (hS : va_S A s.heap H locs) (hP : va_P D vwCl [(m0, .inr (11, y0)), (h0, .inr (10, [.ref x0, .int 0, .ref x1, .ref x2, .ref x3, .ref x4, .ref x5, .ref x6, .ref x7, .ref x8, .int 0, .int 3000])), (o0, .inl (kA 1, 1, .inr (.inl (fun _ => 0))))] H) (hD : va_D A [(m0, .inr (11, y0)), (h0, .inr (10, [.ref x0, .int 0, .ref x1, .ref x2, .ref x3, .ref x4, .ref x5, .ref x6, .ref x7, .ref x8, .int 0, .int 3000])), (o0, .inl (kA 1, 1, .inr (.inl (fun _ => 0))))]) : W p l e room_1 s m #[Value.ref b] below meth c H locs 515 172799 (lw_Z below #[Value.ref b] s) (F0 m 1702 ls [.int 1]) := by
  have ⟨hst, hx, hb, hr, hml, hown, hts, hG, hX, hbl, hbA, hlocks, hE, hK, hA⟩ := hC
  refine lv_istore (lv' := [(5, .int 1), (0, .ref b), (1, .ref h0), (2, .ref m0), (3, .ref o0), (4, .int 0)]) hx hb dL_law_1702 hl (by decide) rfl (fun ls hl => ?_)
  refine lv_aload_n hx hb dL_law_1704 rfl (lv_at hl 3 rfl) ?_
  refine lv_aload_n hx hb dL_law_1705 rfl (lv_at hl 1 rfl) ?_
  refine lv_iload hx hb dL_law_1706 (lv_at hl 5 rfl) ?_
  refine lv_iconst (v := 1) hx hb dL_law_1708 (by decide) ?_
  refine lv_iadd hx hb dL_law_1709 ?_
  refine W.eq (g2 := F0 m 1710 ls [.int 1, .ref b, .ref m0]) rfl ?_
  refine va_sld hx hb hX hbl hbA hS (show vp_in 1 8 by unfold vp_in; decide) dL_law_1710 ?_
  refine W.eq (g2 := F0 m 1711 ls [.int (xs 1), .ref m0]) rfl ?_
  refine lv_aload_n hx hb dL_law_1711 rfl (lv_at hl 1 rfl) ?_
  refine lv_iload hx hb dL_law_1712 (lv_at hl 5 rfl) ?_
  refine lv_iconst (v := 2) hx hb dL_law_1714 (by decide) ?_
  refine lv_iadd hx hb dL_law_1715 ?_
  refine W.eq (g2 := F0 m 1716 ls [.int 2, .ref b, .int (xs 1), .ref m0]) rfl ?_
  refine va_sld hx hb hX hbl hbA hS (show vp_in 2 8 by unfold vp_in; decide) dL_law_1716 ?_
  refine W.eq (g2 := F0 m 1717 ls [.int (xs 2), .int (xs 1), .ref m0]) rfl ?_
  refine lv_aload_n hx hb dL_law_1717 rfl (lv_at hl 1 rfl) ?_
  refine lv_iload hx hb dL_law_1718 (lv_at hl 5 rfl) ?_
  refine lv_iconst (v := 3) hx hb dL_law_1720 (by decide) ?_
  refine lv_iadd hx hb dL_law_1721 ?_
  refine W.eq (g2 := F0 m 1722 ls [.int 3, .ref b, .int (xs 2), .int (xs 1), .ref m0]) rfl ?_
  refine va_sld hx hb hX hbl hbA hS (show vp_in 3 8 by unfold vp_in; decide) dL_law_1722 ?_
  refine W.eq (g2 := F0 m 1723 ls [.int (xs 3), .int (xs 2), .int (xs 1), .ref m0]) rfl ?_
  refine lv_aload_n hx hb dL_law_1723 rfl (lv_at hl 1 rfl) ?_
  refine lv_iload hx hb dL_law_1724 (lv_at hl 5 rfl) ?_
  refine lv_iconst (v := 4) hx hb dL_law_1726 (by decide) ?_
  refine lv_iadd hx hb dL_law_1727 ?_
  refine W.eq (g2 := F0 m 1728 ls [.int 4, .ref b, .int (xs 3), .int (xs 2), .int (xs 1), .ref m0]) rfl ?_
  refine va_sld hx hb hX hbl hbA hS (show vp_in 4 8 by unfold vp_in; decide) dL_law_1728 ?_
  refine W.eq (g2 := F0 m 1729 ls [.int (xs 4), .int (xs 3), .int (xs 2), .int (xs 1), .ref m0]) rfl ?_
  refine lv_i2l (v := (xs 4).toInt64) hx hb dL_law_1729 rfl ?_
  refine lv_bipush (v := 32) hx hb dL_law_1730 (by decide) ?_
  refine lv_lshl (v := ((xs 4).toInt64) <<< ((32 : Int32).toInt64 &&& 63)) hx hb dL_law_1732 rfl ?_
  refine lv_aload_n hx hb dL_law_1733 rfl (lv_at hl 1 rfl) ?_
  refine lv_iload hx hb dL_law_1734 (lv_at hl 5 rfl) ?_
  refine lv_iconst (v := 5) hx hb dL_law_1736 (by decide) ?_
  refine lv_iadd hx hb dL_law_1737 ?_
  refine W.eq (g2 := F0 m 1738 ls [.int 5, .ref b, .long (((xs 4).toInt64) <<< ((32 : Int32).toInt64 &&& 63)), .int (xs 3), .int (xs 2), .int (xs 1), .ref m0]) rfl ?_
  refine va_sld hx hb hX hbl hbA hS (show vp_in 5 8 by unfold vp_in; decide) dL_law_1738 ?_
  refine W.eq (g2 := F0 m 1739 ls [.int (xs 5), .long (((xs 4).toInt64) <<< ((32 : Int32).toInt64 &&& 63)), .int (xs 3), .int (xs 2), .int (xs 1), .ref m0]) rfl ?_
  refine lv_i2l (v := (xs 5).toInt64) hx hb dL_law_1739 rfl ?_
  refine lv_ldc2 (v := 4294967295) hx hb hown (hG _ gw_2764) dL_law_1740 ?_
  refine lv_land hx hb dL_law_1743 ?_
  refine lv_lor hx hb dL_law_1744 ?_
  refine lv_aload_n hx hb dL_law_1745 rfl (lv_at hl 1 rfl) ?_
  refine lv_iload hx hb dL_law_1746 (lv_at hl 5 rfl) ?_
  refine lv_bipush (v := 6) hx hb dL_law_1748 (by decide) ?_
  refine lv_iadd hx hb dL_law_1750 ?_
  refine W.eq (g2 := F0 m 1751 ls [.int 6, .ref b, .long ((((xs 4).toInt64) <<< ((32 : Int32).toInt64 &&& 63)) ||| (((xs 5).toInt64) &&& 4294967295)), .int (xs 3), .int (xs 2), .int (xs 1), .ref m0]) rfl ?_
  refine va_sld hx hb hX hbl hbA hS (show vp_in 6 8 by unfold vp_in; decide) dL_law_1751 ?_
  refine W.eq (g2 := F0 m 1752 ls [.int (xs 6), .long ((((xs 4).toInt64) <<< ((32 : Int32).toInt64 &&& 63)) ||| (((xs 5).toInt64) &&& 4294967295)), .int (xs 3), .int (xs 2), .int (xs 1), .ref m0]) rfl ?_
  refine lv_i2l (v := (xs 6).toInt64) hx hb dL_law_1752 rfl ?_
  refine lv_bipush (v := 32) hx hb dL_law_1753 (by decide) ?_
  refine lv_lshl (v := ((xs 6).toInt64) <<< ((32 : Int32).toInt64 &&& 63)) hx hb dL_law_1755 rfl ?_
  refine lv_aload_n hx hb dL_law_1756 rfl (lv_at hl 1 rfl) ?_
  refine lv_iload hx hb dL_law_1757 (lv_at hl 5 rfl) ?_
  refine lv_bipush (v := 7) hx hb dL_law_1759 (by decide) ?_
  refine lv_iadd hx hb dL_law_1761 ?_
  refine W.eq (g2 := F0 m 1762 ls [.int 7, .ref b, .long (((xs 6).toInt64) <<< ((32 : Int32).toInt64 &&& 63)), .long ((((xs 4).toInt64) <<< ((32 : Int32).toInt64 &&& 63)) ||| (((xs 5).toInt64) &&& 4294967295)), .int (xs 3), .int (xs 2), .int (xs 1), .ref m0]) rfl ?_
  refine va_sld hx hb hX hbl hbA hS (show vp_in 7 8 by unfold vp_in; decide) dL_law_1762 ?_
  refine W.eq (g2 := F0 m 1763 ls [.int (xs 7), .long (((xs 6).toInt64) <<< ((32 : Int32).toInt64 &&& 63)), .long ((((xs 4).toInt64) <<< ((32 : Int32).toInt64 &&& 63)) ||| (((xs 5).toInt64) &&& 4294967295)), .int (xs 3), .int (xs 2), .int (xs 1), .ref m0]) rfl ?_
  refine lv_i2l (v := (xs 7).toInt64) hx hb dL_law_1763 rfl ?_
  refine lv_ldc2 (v := 4294967295) hx hb hown (hG _ gw_2764) dL_law_1764 ?_
  refine lv_land hx hb dL_law_1767 ?_
  refine lv_lor hx hb dL_law_1768 ?_
  have hPc := hP.sub (ws' := [(m0, .inr (11, y0))]) [0] rfl
  have hDc := hD.sub (ws' := [(m0, .inr (11, y0))]) [0] (by decide) rfl
  have hFc := va_free (wc := [(m0, .inr (11, y0))]) hD hS hA [0] rfl
  refine va_calll (va_runV (As := [.int (xs 1), .int (xs 2), .int (xs 3), .long ((((xs 4).toInt64) <<< ((32 : Int32).toInt64 &&& 63)) ||| (((xs 5).toInt64) &&& 4294967295)), .long ((((xs 6).toInt64) <<< ((32 : Int32).toInt64 &&& 63)) ||| (((xs 7).toInt64) &&& 4294967295))]) (rest := []) ⟨hx, hb, hml, hown, hts⟩ (a155_X12_tell l  D kA V H.size m0 (xs 1) (xs 2) (xs 3) ((((xs 4).toInt64) <<< ((32 : Int32).toInt64 &&& 63)) ||| (((xs 5).toInt64) &&& 4294967295)) ((((xs 6).toInt64) <<< ((32 : Int32).toInt64 &&& 63)) ||| (((xs 7).toInt64) &&& 4294967295)) y0 (fun k hk => (hq k hk)) hq9) (cwV 5 hts (gw_V gw_2760 gw_2761 gw_2762 gw_16 gw_2763) rfl rfl rfl (by decide +kernel) ⟨(Nat.le_of_ble_eq_true rfl), (Nat.le_of_ble_eq_true rfl)⟩) ⟨aP.blind, va_recv hK hP (ci := 11) (q0 := 0) rfl rfl, aP.pre hE hS hPc hK hDc hFc⟩ rfl rfl hl.1 rfl (lv_room (Nat.le_of_ble_eq_true rfl)) dL_law_1769 ⟨(Nat.le_of_ble_eq_true rfl), (Nat.le_of_ble_eq_true rfl)⟩) hS (fun q _ h => hFc q h) hFc (fun r_100001 u t H1 locs ht hvm hw hB hz1 hk1 hS => ?_)
  obtain ⟨u_100002, rfl⟩ : ∃ z, z = u := ⟨u, rfl⟩
  obtain ⟨hP1, hD1⟩ := hB
  rw [ht] at hP1
  try dsimp only at hw hP1 hD1
  rcases hw with hz | hz | hz | hz | hz | hz | hz | hz | hz | hz | hz | hz | hz | hz | hz | hz | hz | hz | hz | hz | hz | hz | hz | hz | hz | hz | hz | hz | hz | hz | hz | hz | hz | hz | hz | hz | hz | hz | hz | hz | hz | hz
  · exact absurd hz.2.1 c_6
  · obtain ⟨c_100007, c_100008, c_100009, w_100010, w_100011⟩ := hz
    subst w_100010
    subst w_100011
    obtain ⟨hP, hD⟩ := va_join (wr := [(h0, .inr (10, [.ref x0, .int 0, .ref x1, .ref x2, .ref x3, .ref x4, .ref x5, .ref x6, .ref x7, .ref x8, .int 0, .int 3000])), (o0, .inl (kA 1, 1, .inr (.inl (fun _ => 0))))]) (w1 := [(m0, .inr (11, y0.set 9 (.int 1)))]) hP hD [0] [1, 2] rfl rfl (by decide) (by decide) hk1 hFc hP1 hD1
    generalize H1 = H at hP hS ⊢
    have hP : va_P D vwCl [(h0, .inr (10, [.ref x0, .int 0, .ref x1, .ref x2, .ref x3, .ref x4, .ref x5, .ref x6, .ref x7, .ref x8, .int 0, .int 3000])), (o0, .inl (kA 1, 1, .inr (.inl (fun _ => 0)))), (m0, .inr (11, y0.set 9 (.int 1)))] H := hP
    have hD : va_D A [(h0, .inr (10, [.ref x0, .int 0, .ref x1, .ref x2, .ref x3, .ref x4, .ref x5, .ref x6, .ref x7, .ref x8, .int 0, .int 3000])), (o0, .inl (kA 1, 1, .inr (.inl (fun _ => 0)))), (m0, .inr (11, y0.set 9 (.int 1)))] := hD
    refine lv_lstore (lv' := [(6, .long 0), (5, .int 1), (0, .ref b), (1, .ref h0), (2, .ref m0), (3, .ref o0), (4, .int 0)]) hx hb dL_law_1772 hl (by decide) rfl (fun ls hl => ?_)
    refine lv_aload_n hx hb dL_law_1774 rfl (lv_at hl 4 rfl) ?_
    have hPc := hP.sub (ws' := [(m0, .inr (11, y0.set 9 (.int 1)))]) [2] rfl
    have hDc := hD.sub (ws' := [(m0, .inr (11, y0.set 9 (.int 1)))]) [2] (by decide) rfl
    have hFc := va_free (wc := [(m0, .inr (11, y0.set 9 (.int 1)))]) hD hS hA [2] rfl
    refine va_calli (va_runV (As := []) (rest := []) ⟨hx, hb, hml, hown, hts⟩ (a174_X12_thrown l  D kA V H.size m0 (y0.set 9 (.int 1)) (fun k hk => (by rw [List.length_set]; exact (hq k hk))) (List.getElem?_set_self (hq 9 (by decide)))) (cwV 0 hts (gw_V gw_1879 gw_1880 gw_1881 gw_16 gw_1882) rfl rfl rfl (by decide +kernel) ⟨(Nat.le_of_ble_eq_true rfl), (Nat.le_of_ble_eq_true rfl)⟩) ⟨aP.blind, va_recv hK hP (ci := 11) (q0 := 2) rfl rfl, aP.pre hE hS hPc hK hDc hFc⟩ rfl rfl hl.1 rfl (lv_room (Nat.le_of_ble_eq_true rfl)) dL_law_1775 ⟨(Nat.le_of_ble_eq_true rfl), (Nat.le_of_ble_eq_true rfl)⟩) hS (fun q _ h => hFc q h) hFc (fun r_100482 u t H1 locs ht hvm hw hB hz1 hk1 hS => ?_)
    obtain ⟨hP1, hD1⟩ := hB
    rw [ht] at hP1
    try dsimp only at hw hP1 hD1
    have w_100483 := hw
    subst w_100483
    obtain ⟨hP, hD⟩ := va_join (wr := [(h0, .inr (10, [.ref x0, .int 0, .ref x1, .ref x2, .ref x3, .ref x4, .ref x5, .ref x6, .ref x7, .ref x8, .int 0, .int 3000])), (o0, .inl (kA 1, 1, .inr (.inl (fun _ => 0))))]) (w1 := [(m0, .inr (11, (y0.set 9 (.int 1))))]) hP hD [2] [0, 1] rfl rfl (by decide) (by decide) hk1 hFc hP1 hD1
    generalize H1 = H at hP hS ⊢
    have hP : va_P D vwCl [(h0, .inr (10, [.ref x0, .int 0, .ref x1, .ref x2, .ref x3, .ref x4, .ref x5, .ref x6, .ref x7, .ref x8, .int 0, .int 3000])), (o0, .inl (kA 1, 1, .inr (.inl (fun _ => 0)))), (m0, .inr (11, (y0.set 9 (.int 1))))] H := hP
    have hD : va_D A [(h0, .inr (10, [.ref x0, .int 0, .ref x1, .ref x2, .ref x3, .ref x4, .ref x5, .ref x6, .ref x7, .ref x8, .int 0, .int 3000])), (o0, .inl (kA 1, 1, .inr (.inl (fun _ => 0)))), (m0, .inr (11, (y0.set 9 (.int 1))))] := hD
    refine lv_iload hx hb dL_law_1778 (lv_at hl 1 rfl) ?_
    refine lv_icmp_eq (tgt := 1785) hx hb dL_law_1780 (by decide) (fun c_100484 => ?_) (fun c_100484 => ?_)
    · skip
      refine lv_iload hx hb dL_law_1785 (lv_at hl 1 rfl) ?_
      refine lv_if_ne (tgt := 1801) hx hb dL_law_1787 (by decide) (fun c_100485 => ?_) (fun c_100485 => ?_)
      · skip
        refine lv_goto (tgt := 1804) hx hb dL_law_1801 (by decide) ?_
        exact lk_tail hC hA2 (lv_sub hl [2, 6] rfl) hS (Nat.le_of_ble_eq_true rfl) (Nat.le_of_ble_eq_true rfl)
      · exact absurd c_100485 (by decide)
    · exact absurd (by decide) c_100484
  · exact absurd c_7 hz.2.2.1
  · exact absurd c_7 hz.2.2.1
  · exact absurd c_7 hz.2.2.1
  · exact absurd hz.2.2.1 c_6
  · obtain ⟨c_100037, c_100038, c_100039, c_100040, w_100041, w_100042⟩ := hz
    subst w_100041
    subst w_100042
    obtain ⟨hP, hD⟩ := va_join (wr := [(h0, .inr (10, [.ref x0, .int 0, .ref x1, .ref x2, .ref x3, .ref x4, .ref x5, .ref x6, .ref x7, .ref x8, .int 0, .int 3000])), (o0, .inl (kA 1, 1, .inr (.inl (fun _ => 0))))]) (w1 := [(m0, .inr (11, y0.set 9 (.int 1)))]) hP hD [0] [1, 2] rfl rfl (by decide) (by decide) hk1 hFc hP1 hD1
    generalize H1 = H at hP hS ⊢
    have hP : va_P D vwCl [(h0, .inr (10, [.ref x0, .int 0, .ref x1, .ref x2, .ref x3, .ref x4, .ref x5, .ref x6, .ref x7, .ref x8, .int 0, .int 3000])), (o0, .inl (kA 1, 1, .inr (.inl (fun _ => 0)))), (m0, .inr (11, y0.set 9 (.int 1)))] H := hP
    have hD : va_D A [(h0, .inr (10, [.ref x0, .int 0, .ref x1, .ref x2, .ref x3, .ref x4, .ref x5, .ref x6, .ref x7, .ref x8, .int 0, .int 3000])), (o0, .inl (kA 1, 1, .inr (.inl (fun _ => 0)))), (m0, .inr (11, y0.set 9 (.int 1)))] := hD
    refine lv_lstore (lv' := [(6, .long 0), (5, .int 1), (0, .ref b), (1, .ref h0), (2, .ref m0), (3, .ref o0), (4, .int 0)]) hx hb dL_law_1772 hl (by decide) rfl (fun ls hl => ?_)
    refine lv_aload_n hx hb dL_law_1774 rfl (lv_at hl 4 rfl) ?_
    have hPc := hP.sub (ws' := [(m0, .inr (11, y0.set 9 (.int 1)))]) [2] rfl
    have hDc := hD.sub (ws' := [(m0, .inr (11, y0.set 9 (.int 1)))]) [2] (by decide) rfl
    have hFc := va_free (wc := [(m0, .inr (11, y0.set 9 (.int 1)))]) hD hS hA [2] rfl
    refine va_calli (va_runV (As := []) (rest := []) ⟨hx, hb, hml, hown, hts⟩ (a174_X12_thrown l  D kA V H.size m0 (y0.set 9 (.int 1)) (fun k hk => (by rw [List.length_set]; exact (hq k hk))) (List.getElem?_set_self (hq 9 (by decide)))) (cwV 0 hts (gw_V gw_1879 gw_1880 gw_1881 gw_16 gw_1882) rfl rfl rfl (by decide +kernel) ⟨(Nat.le_of_ble_eq_true rfl), (Nat.le_of_ble_eq_true rfl)⟩) ⟨aP.blind, va_recv hK hP (ci := 11) (q0 := 2) rfl rfl, aP.pre hE hS hPc hK hDc hFc⟩ rfl rfl hl.1 rfl (lv_room (Nat.le_of_ble_eq_true rfl)) dL_law_1775 ⟨(Nat.le_of_ble_eq_true rfl), (Nat.le_of_ble_eq_true rfl)⟩) hS (fun q _ h => hFc q h) hFc (fun r_100486 u t H1 locs ht hvm hw hB hz1 hk1 hS => ?_)
    obtain ⟨hP1, hD1⟩ := hB
    rw [ht] at hP1
    try dsimp only at hw hP1 hD1
    have w_100487 := hw
    subst w_100487
    obtain ⟨hP, hD⟩ := va_join (wr := [(h0, .inr (10, [.ref x0, .int 0, .ref x1, .ref x2, .ref x3, .ref x4, .ref x5, .ref x6, .ref x7, .ref x8, .int 0, .int 3000])), (o0, .inl (kA 1, 1, .inr (.inl (fun _ => 0))))]) (w1 := [(m0, .inr (11, (y0.set 9 (.int 1))))]) hP hD [2] [0, 1] rfl rfl (by decide) (by decide) hk1 hFc hP1 hD1
    generalize H1 = H at hP hS ⊢
    have hP : va_P D vwCl [(h0, .inr (10, [.ref x0, .int 0, .ref x1, .ref x2, .ref x3, .ref x4, .ref x5, .ref x6, .ref x7, .ref x8, .int 0, .int 3000])), (o0, .inl (kA 1, 1, .inr (.inl (fun _ => 0)))), (m0, .inr (11, (y0.set 9 (.int 1))))] H := hP
    have hD : va_D A [(h0, .inr (10, [.ref x0, .int 0, .ref x1, .ref x2, .ref x3, .ref x4, .ref x5, .ref x6, .ref x7, .ref x8, .int 0, .int 3000])), (o0, .inl (kA 1, 1, .inr (.inl (fun _ => 0)))), (m0, .inr (11, (y0.set 9 (.int 1))))] := hD
    refine lv_iload hx hb dL_law_1778 (lv_at hl 1 rfl) ?_
    refine lv_icmp_eq (tgt := 1785) hx hb dL_law_1780 (by decide) (fun c_100488 => ?_) (fun c_100488 => ?_)
    · skip
      refine lv_iload hx hb dL_law_1785 (lv_at hl 1 rfl) ?_
      refine lv_if_ne (tgt := 1801) hx hb dL_law_1787 (by decide) (fun c_100489 => ?_) (fun c_100489 => ?_)
      · skip
        refine lv_goto (tgt := 1804) hx hb dL_law_1801 (by decide) ?_
        exact lk_tail hC hA2 (lv_sub hl [2, 6] rfl) hS (Nat.le_of_ble_eq_true rfl) (Nat.le_of_ble_eq_true rfl)
      · exact absurd c_100489 (by decide)
    · exact absurd (by decide) c_100488
  · exact absurd c_7 hz.2.2.2.1
  · exact absurd c_7 hz.2.2.2.1
  · exact absurd c_7 hz.2.2.2.1
  · exact absurd hz.2.2.1 c_6
  · obtain ⟨c_100071, c_100072, c_100073, c_100074, w_100075, w_100076⟩ := hz
    subst w_100075
    subst w_100076
    obtain ⟨hP, hD⟩ := va_join (wr := [(h0, .inr (10, [.ref x0, .int 0, .ref x1, .ref x2, .ref x3, .ref x4, .ref x5, .ref x6, .ref x7, .ref x8, .int 0, .int 3000])), (o0, .inl (kA 1, 1, .inr (.inl (fun _ => 0))))]) (w1 := [(m0, .inr (11, y0.set 9 (.int 1)))]) hP hD [0] [1, 2] rfl rfl (by decide) (by decide) hk1 hFc hP1 hD1
    generalize H1 = H at hP hS ⊢
    have hP : va_P D vwCl [(h0, .inr (10, [.ref x0, .int 0, .ref x1, .ref x2, .ref x3, .ref x4, .ref x5, .ref x6, .ref x7, .ref x8, .int 0, .int 3000])), (o0, .inl (kA 1, 1, .inr (.inl (fun _ => 0)))), (m0, .inr (11, y0.set 9 (.int 1)))] H := hP
    have hD : va_D A [(h0, .inr (10, [.ref x0, .int 0, .ref x1, .ref x2, .ref x3, .ref x4, .ref x5, .ref x6, .ref x7, .ref x8, .int 0, .int 3000])), (o0, .inl (kA 1, 1, .inr (.inl (fun _ => 0)))), (m0, .inr (11, y0.set 9 (.int 1)))] := hD
    refine lv_lstore (lv' := [(6, .long 0), (5, .int 1), (0, .ref b), (1, .ref h0), (2, .ref m0), (3, .ref o0), (4, .int 0)]) hx hb dL_law_1772 hl (by decide) rfl (fun ls hl => ?_)
    refine lv_aload_n hx hb dL_law_1774 rfl (lv_at hl 4 rfl) ?_
    have hPc := hP.sub (ws' := [(m0, .inr (11, y0.set 9 (.int 1)))]) [2] rfl
    have hDc := hD.sub (ws' := [(m0, .inr (11, y0.set 9 (.int 1)))]) [2] (by decide) rfl
    have hFc := va_free (wc := [(m0, .inr (11, y0.set 9 (.int 1)))]) hD hS hA [2] rfl
    refine va_calli (va_runV (As := []) (rest := []) ⟨hx, hb, hml, hown, hts⟩ (a174_X12_thrown l  D kA V H.size m0 (y0.set 9 (.int 1)) (fun k hk => (by rw [List.length_set]; exact (hq k hk))) (List.getElem?_set_self (hq 9 (by decide)))) (cwV 0 hts (gw_V gw_1879 gw_1880 gw_1881 gw_16 gw_1882) rfl rfl rfl (by decide +kernel) ⟨(Nat.le_of_ble_eq_true rfl), (Nat.le_of_ble_eq_true rfl)⟩) ⟨aP.blind, va_recv hK hP (ci := 11) (q0 := 2) rfl rfl, aP.pre hE hS hPc hK hDc hFc⟩ rfl rfl hl.1 rfl (lv_room (Nat.le_of_ble_eq_true rfl)) dL_law_1775 ⟨(Nat.le_of_ble_eq_true rfl), (Nat.le_of_ble_eq_true rfl)⟩) hS (fun q _ h => hFc q h) hFc (fun r_100490 u t H1 locs ht hvm hw hB hz1 hk1 hS => ?_)
    obtain ⟨hP1, hD1⟩ := hB
    rw [ht] at hP1
    try dsimp only at hw hP1 hD1
    have w_100491 := hw
    subst w_100491
    obtain ⟨hP, hD⟩ := va_join (wr := [(h0, .inr (10, [.ref x0, .int 0, .ref x1, .ref x2, .ref x3, .ref x4, .ref x5, .ref x6, .ref x7, .ref x8, .int 0, .int 3000])), (o0, .inl (kA 1, 1, .inr (.inl (fun _ => 0))))]) (w1 := [(m0, .inr (11, (y0.set 9 (.int 1))))]) hP hD [2] [0, 1] rfl rfl (by decide) (by decide) hk1 hFc hP1 hD1
    generalize H1 = H at hP hS ⊢
    have hP : va_P D vwCl [(h0, .inr (10, [.ref x0, .int 0, .ref x1, .ref x2, .ref x3, .ref x4, .ref x5, .ref x6, .ref x7, .ref x8, .int 0, .int 3000])), (o0, .inl (kA 1, 1, .inr (.inl (fun _ => 0)))), (m0, .inr (11, (y0.set 9 (.int 1))))] H := hP
    have hD : va_D A [(h0, .inr (10, [.ref x0, .int 0, .ref x1, .ref x2, .ref x3, .ref x4, .ref x5, .ref x6, .ref x7, .ref x8, .int 0, .int 3000])), (o0, .inl (kA 1, 1, .inr (.inl (fun _ => 0)))), (m0, .inr (11, (y0.set 9 (.int 1))))] := hD
    refine lv_iload hx hb dL_law_1778 (lv_at hl 1 rfl) ?_
    refine lv_icmp_eq (tgt := 1785) hx hb dL_law_1780 (by decide) (fun c_100492 => ?_) (fun c_100492 => ?_)
    · skip
      refine lv_iload hx hb dL_law_1785 (lv_at hl 1 rfl) ?_
      refine lv_if_ne (tgt := 1801) hx hb dL_law_1787 (by decide) (fun c_100493 => ?_) (fun c_100493 => ?_)
      · skip
        refine lv_goto (tgt := 1804) hx hb dL_law_1801 (by decide) ?_
        exact lk_tail hC hA2 (lv_sub hl [2, 6] rfl) hS (Nat.le_of_ble_eq_true rfl) (Nat.le_of_ble_eq_true rfl)
      · exact absurd c_100493 (by decide)
    · exact absurd (by decide) c_100492
  · exact absurd c_7 hz.2.2.2.1
  · exact absurd c_7 hz.2.2.2.1
  · exact absurd c_7 hz.2.2.2.1
  · exact absurd c_7 hz.2.2.2.1
  · exact absurd c_7 hz.2.2.2.1
  · exact absurd c_7 hz.2.2.2.1
  · exact absurd c_7 hz.2.2.2.1
  · exact absurd c_7 hz.2.2.2.1
  · exact absurd c_7 hz.2.2.2.1
  · exact absurd c_7 hz.2.2.2.1
  · exact absurd c_7 hz.2.2.2.1
  · exact absurd c_7 hz.2.2.2.1
  · exact absurd c_7 hz.2.2.2.1
  · exact absurd c_7 hz.2.2.2.1
  · exact absurd c_7 hz.2.2.2.1
  · exact absurd c_7 hz.2.2.2.1
  · exact absurd c_7 hz.2.2.2.1
  · exact absurd c_7 hz.2.2.2.1
  · exact absurd c_7 hz.2.2.2.1
  · exact absurd c_7 hz.2.2.2.1
  · exact absurd c_7 hz.2.2.2.1
  · exact absurd c_7 hz.2.2.2.1
  · exact absurd c_7 hz.2.2.2.1
  · exact absurd c_7 hz.2.2.2.1
  · exact absurd c_7 hz.2.2.2.1
  · exact absurd c_7 hz.2.2.2.1
  · exact absurd c_7 hz.2.2.2.1
  · exact absurd c_7 hz.2.2.2.1
  · exact absurd c_7 hz.2.2.2.1
  · exact absurd c_7 hz.2.2.2.1
set_option maxHeartbeats 4000000 in
set_option maxRecDepth 100000 in
theorem lk_23_2 {p : Program} {l : Launch} {e : Env} {s : State} {m : MethodId} {below : List Frame} {meth : Method} {c : Code} {D : va_G} {kA : Nat → ClassId} {V : Nat → Nat} {b : Nat} {xs : Nat → Int32} {A : Nat → Prop} (hC : lw_C p l s m meth c b 8 xs D kA V A) (hA2 : ∀ q, A q → s.heap.size ≤ q) (h0 : Nat) (m0 : Nat) (o0 : Nat) (x0 : Nat) (x1 : Nat) (x2 : Nat) (x3 : Nat) (x4 : Nat) (x5 : Nat) (x6 : Nat) (x7 : Nat) (x8 : Nat) (y0 : List Value) (hq : ∀ k, k < 121 → k < y0.length) (hq9 : y0[9]? = some (.int 0)) (c_10 : ¬ (xs 2) < 0) (c_11 : ¬ 4 < (xs 2)) (c_12 : (xs 3) < 0) {H : Heap} {locs : List Loc} {ls : Array Slot} (hl : lv_has ls 8 [(0, .ref b), (1, .ref h0), (2, .ref m0), (3, .ref o0), (4, .int 0)]) (hS : va_S A s.heap H locs) (hP : va_P D vwCl [(m0, .inr (11, y0)), (h0, .inr (10, [.ref x0, .int 0, .ref x1, .ref x2, .ref x3, .ref x4, .ref x5, .ref x6, .ref x7, .ref x8, .int 0, .int 3000])), (o0, .inl (kA 1, 1, .inr (.inl (fun _ => 0))))] H) (hD : va_D A [(m0, .inr (11, y0)), (h0, .inr (10, [.ref x0, .int 0, .ref x1, .ref x2, .ref x3, .ref x4, .ref x5, .ref x6, .ref x7, .ref x8, .int 0, .int 3000])), (o0, .inl (kA 1, 1, .inr (.inl (fun _ => 0))))]) : W p l e room_1 s m #[Value.ref b] below meth c H locs 515 172799 (lw_Z below #[Value.ref b] s) (F0 m 1702 ls [.int 1]) := by
  have ⟨hst, hx, hb, hr, hml, hown, hts, hG, hX, hbl, hbA, hlocks, hE, hK, hA⟩ := hC
  refine lv_istore (lv' := [(5, .int 1), (0, .ref b), (1, .ref h0), (2, .ref m0), (3, .ref o0), (4, .int 0)]) hx hb dL_law_1702 hl (by decide) rfl (fun ls hl => ?_)
  refine lv_aload_n hx hb dL_law_1704 rfl (lv_at hl 3 rfl) ?_
  refine lv_aload_n hx hb dL_law_1705 rfl (lv_at hl 1 rfl) ?_
  refine lv_iload hx hb dL_law_1706 (lv_at hl 5 rfl) ?_
  refine lv_iconst (v := 1) hx hb dL_law_1708 (by decide) ?_
  refine lv_iadd hx hb dL_law_1709 ?_
  refine W.eq (g2 := F0 m 1710 ls [.int 1, .ref b, .ref m0]) rfl ?_
  refine va_sld hx hb hX hbl hbA hS (show vp_in 1 8 by unfold vp_in; decide) dL_law_1710 ?_
  refine W.eq (g2 := F0 m 1711 ls [.int (xs 1), .ref m0]) rfl ?_
  refine lv_aload_n hx hb dL_law_1711 rfl (lv_at hl 1 rfl) ?_
  refine lv_iload hx hb dL_law_1712 (lv_at hl 5 rfl) ?_
  refine lv_iconst (v := 2) hx hb dL_law_1714 (by decide) ?_
  refine lv_iadd hx hb dL_law_1715 ?_
  refine W.eq (g2 := F0 m 1716 ls [.int 2, .ref b, .int (xs 1), .ref m0]) rfl ?_
  refine va_sld hx hb hX hbl hbA hS (show vp_in 2 8 by unfold vp_in; decide) dL_law_1716 ?_
  refine W.eq (g2 := F0 m 1717 ls [.int (xs 2), .int (xs 1), .ref m0]) rfl ?_
  refine lv_aload_n hx hb dL_law_1717 rfl (lv_at hl 1 rfl) ?_
  refine lv_iload hx hb dL_law_1718 (lv_at hl 5 rfl) ?_
  refine lv_iconst (v := 3) hx hb dL_law_1720 (by decide) ?_
  refine lv_iadd hx hb dL_law_1721 ?_
  refine W.eq (g2 := F0 m 1722 ls [.int 3, .ref b, .int (xs 2), .int (xs 1), .ref m0]) rfl ?_
  refine va_sld hx hb hX hbl hbA hS (show vp_in 3 8 by unfold vp_in; decide) dL_law_1722 ?_
  refine W.eq (g2 := F0 m 1723 ls [.int (xs 3), .int (xs 2), .int (xs 1), .ref m0]) rfl ?_
  refine lv_aload_n hx hb dL_law_1723 rfl (lv_at hl 1 rfl) ?_
  refine lv_iload hx hb dL_law_1724 (lv_at hl 5 rfl) ?_
  refine lv_iconst (v := 4) hx hb dL_law_1726 (by decide) ?_
  refine lv_iadd hx hb dL_law_1727 ?_
  refine W.eq (g2 := F0 m 1728 ls [.int 4, .ref b, .int (xs 3), .int (xs 2), .int (xs 1), .ref m0]) rfl ?_
  refine va_sld hx hb hX hbl hbA hS (show vp_in 4 8 by unfold vp_in; decide) dL_law_1728 ?_
  refine W.eq (g2 := F0 m 1729 ls [.int (xs 4), .int (xs 3), .int (xs 2), .int (xs 1), .ref m0]) rfl ?_
  refine lv_i2l (v := (xs 4).toInt64) hx hb dL_law_1729 rfl ?_
  refine lv_bipush (v := 32) hx hb dL_law_1730 (by decide) ?_
  refine lv_lshl (v := ((xs 4).toInt64) <<< ((32 : Int32).toInt64 &&& 63)) hx hb dL_law_1732 rfl ?_
  refine lv_aload_n hx hb dL_law_1733 rfl (lv_at hl 1 rfl) ?_
  refine lv_iload hx hb dL_law_1734 (lv_at hl 5 rfl) ?_
  refine lv_iconst (v := 5) hx hb dL_law_1736 (by decide) ?_
  refine lv_iadd hx hb dL_law_1737 ?_
  refine W.eq (g2 := F0 m 1738 ls [.int 5, .ref b, .long (((xs 4).toInt64) <<< ((32 : Int32).toInt64 &&& 63)), .int (xs 3), .int (xs 2), .int (xs 1), .ref m0]) rfl ?_
  refine va_sld hx hb hX hbl hbA hS (show vp_in 5 8 by unfold vp_in; decide) dL_law_1738 ?_
  refine W.eq (g2 := F0 m 1739 ls [.int (xs 5), .long (((xs 4).toInt64) <<< ((32 : Int32).toInt64 &&& 63)), .int (xs 3), .int (xs 2), .int (xs 1), .ref m0]) rfl ?_
  refine lv_i2l (v := (xs 5).toInt64) hx hb dL_law_1739 rfl ?_
  refine lv_ldc2 (v := 4294967295) hx hb hown (hG _ gw_2764) dL_law_1740 ?_
  refine lv_land hx hb dL_law_1743 ?_
  refine lv_lor hx hb dL_law_1744 ?_
  refine lv_aload_n hx hb dL_law_1745 rfl (lv_at hl 1 rfl) ?_
  refine lv_iload hx hb dL_law_1746 (lv_at hl 5 rfl) ?_
  refine lv_bipush (v := 6) hx hb dL_law_1748 (by decide) ?_
  refine lv_iadd hx hb dL_law_1750 ?_
  refine W.eq (g2 := F0 m 1751 ls [.int 6, .ref b, .long ((((xs 4).toInt64) <<< ((32 : Int32).toInt64 &&& 63)) ||| (((xs 5).toInt64) &&& 4294967295)), .int (xs 3), .int (xs 2), .int (xs 1), .ref m0]) rfl ?_
  refine va_sld hx hb hX hbl hbA hS (show vp_in 6 8 by unfold vp_in; decide) dL_law_1751 ?_
  refine W.eq (g2 := F0 m 1752 ls [.int (xs 6), .long ((((xs 4).toInt64) <<< ((32 : Int32).toInt64 &&& 63)) ||| (((xs 5).toInt64) &&& 4294967295)), .int (xs 3), .int (xs 2), .int (xs 1), .ref m0]) rfl ?_
  refine lv_i2l (v := (xs 6).toInt64) hx hb dL_law_1752 rfl ?_
  refine lv_bipush (v := 32) hx hb dL_law_1753 (by decide) ?_
  refine lv_lshl (v := ((xs 6).toInt64) <<< ((32 : Int32).toInt64 &&& 63)) hx hb dL_law_1755 rfl ?_
  refine lv_aload_n hx hb dL_law_1756 rfl (lv_at hl 1 rfl) ?_
  refine lv_iload hx hb dL_law_1757 (lv_at hl 5 rfl) ?_
  refine lv_bipush (v := 7) hx hb dL_law_1759 (by decide) ?_
  refine lv_iadd hx hb dL_law_1761 ?_
  refine W.eq (g2 := F0 m 1762 ls [.int 7, .ref b, .long (((xs 6).toInt64) <<< ((32 : Int32).toInt64 &&& 63)), .long ((((xs 4).toInt64) <<< ((32 : Int32).toInt64 &&& 63)) ||| (((xs 5).toInt64) &&& 4294967295)), .int (xs 3), .int (xs 2), .int (xs 1), .ref m0]) rfl ?_
  refine va_sld hx hb hX hbl hbA hS (show vp_in 7 8 by unfold vp_in; decide) dL_law_1762 ?_
  refine W.eq (g2 := F0 m 1763 ls [.int (xs 7), .long (((xs 6).toInt64) <<< ((32 : Int32).toInt64 &&& 63)), .long ((((xs 4).toInt64) <<< ((32 : Int32).toInt64 &&& 63)) ||| (((xs 5).toInt64) &&& 4294967295)), .int (xs 3), .int (xs 2), .int (xs 1), .ref m0]) rfl ?_
  refine lv_i2l (v := (xs 7).toInt64) hx hb dL_law_1763 rfl ?_
  refine lv_ldc2 (v := 4294967295) hx hb hown (hG _ gw_2764) dL_law_1764 ?_
  refine lv_land hx hb dL_law_1767 ?_
  refine lv_lor hx hb dL_law_1768 ?_
  have hPc := hP.sub (ws' := [(m0, .inr (11, y0))]) [0] rfl
  have hDc := hD.sub (ws' := [(m0, .inr (11, y0))]) [0] (by decide) rfl
  have hFc := va_free (wc := [(m0, .inr (11, y0))]) hD hS hA [0] rfl
  refine va_calll (va_runV (As := [.int (xs 1), .int (xs 2), .int (xs 3), .long ((((xs 4).toInt64) <<< ((32 : Int32).toInt64 &&& 63)) ||| (((xs 5).toInt64) &&& 4294967295)), .long ((((xs 6).toInt64) <<< ((32 : Int32).toInt64 &&& 63)) ||| (((xs 7).toInt64) &&& 4294967295))]) (rest := []) ⟨hx, hb, hml, hown, hts⟩ (a155_X12_tell l  D kA V H.size m0 (xs 1) (xs 2) (xs 3) ((((xs 4).toInt64) <<< ((32 : Int32).toInt64 &&& 63)) ||| (((xs 5).toInt64) &&& 4294967295)) ((((xs 6).toInt64) <<< ((32 : Int32).toInt64 &&& 63)) ||| (((xs 7).toInt64) &&& 4294967295)) y0 (fun k hk => (hq k hk)) hq9) (cwV 5 hts (gw_V gw_2760 gw_2761 gw_2762 gw_16 gw_2763) rfl rfl rfl (by decide +kernel) ⟨(Nat.le_of_ble_eq_true rfl), (Nat.le_of_ble_eq_true rfl)⟩) ⟨aP.blind, va_recv hK hP (ci := 11) (q0 := 0) rfl rfl, aP.pre hE hS hPc hK hDc hFc⟩ rfl rfl hl.1 rfl (lv_room (Nat.le_of_ble_eq_true rfl)) dL_law_1769 ⟨(Nat.le_of_ble_eq_true rfl), (Nat.le_of_ble_eq_true rfl)⟩) hS (fun q _ h => hFc q h) hFc (fun r_100001 u t H1 locs ht hvm hw hB hz1 hk1 hS => ?_)
  obtain ⟨u_100002, rfl⟩ : ∃ z, z = u := ⟨u, rfl⟩
  obtain ⟨hP1, hD1⟩ := hB
  rw [ht] at hP1
  try dsimp only at hw hP1 hD1
  rcases hw with hz | hz | hz | hz | hz | hz | hz | hz | hz | hz | hz | hz | hz | hz | hz | hz | hz | hz | hz | hz | hz | hz | hz | hz | hz | hz | hz | hz | hz | hz | hz | hz | hz | hz | hz | hz | hz | hz | hz | hz | hz | hz
  · exact absurd hz.2.1 c_10
  · exact absurd hz.2.2.1 c_11
  · obtain ⟨c_100012, c_100013, c_100014, c_100015, w_100016, w_100017⟩ := hz
    subst w_100016
    subst w_100017
    obtain ⟨hP, hD⟩ := va_join (wr := [(h0, .inr (10, [.ref x0, .int 0, .ref x1, .ref x2, .ref x3, .ref x4, .ref x5, .ref x6, .ref x7, .ref x8, .int 0, .int 3000])), (o0, .inl (kA 1, 1, .inr (.inl (fun _ => 0))))]) (w1 := [(m0, .inr (11, y0.set 9 (.int 1)))]) hP hD [0] [1, 2] rfl rfl (by decide) (by decide) hk1 hFc hP1 hD1
    generalize H1 = H at hP hS ⊢
    have hP : va_P D vwCl [(h0, .inr (10, [.ref x0, .int 0, .ref x1, .ref x2, .ref x3, .ref x4, .ref x5, .ref x6, .ref x7, .ref x8, .int 0, .int 3000])), (o0, .inl (kA 1, 1, .inr (.inl (fun _ => 0)))), (m0, .inr (11, y0.set 9 (.int 1)))] H := hP
    have hD : va_D A [(h0, .inr (10, [.ref x0, .int 0, .ref x1, .ref x2, .ref x3, .ref x4, .ref x5, .ref x6, .ref x7, .ref x8, .int 0, .int 3000])), (o0, .inl (kA 1, 1, .inr (.inl (fun _ => 0)))), (m0, .inr (11, y0.set 9 (.int 1)))] := hD
    refine lv_lstore (lv' := [(6, .long 0), (5, .int 1), (0, .ref b), (1, .ref h0), (2, .ref m0), (3, .ref o0), (4, .int 0)]) hx hb dL_law_1772 hl (by decide) rfl (fun ls hl => ?_)
    refine lv_aload_n hx hb dL_law_1774 rfl (lv_at hl 4 rfl) ?_
    have hPc := hP.sub (ws' := [(m0, .inr (11, y0.set 9 (.int 1)))]) [2] rfl
    have hDc := hD.sub (ws' := [(m0, .inr (11, y0.set 9 (.int 1)))]) [2] (by decide) rfl
    have hFc := va_free (wc := [(m0, .inr (11, y0.set 9 (.int 1)))]) hD hS hA [2] rfl
    refine va_calli (va_runV (As := []) (rest := []) ⟨hx, hb, hml, hown, hts⟩ (a174_X12_thrown l  D kA V H.size m0 (y0.set 9 (.int 1)) (fun k hk => (by rw [List.length_set]; exact (hq k hk))) (List.getElem?_set_self (hq 9 (by decide)))) (cwV 0 hts (gw_V gw_1879 gw_1880 gw_1881 gw_16 gw_1882) rfl rfl rfl (by decide +kernel) ⟨(Nat.le_of_ble_eq_true rfl), (Nat.le_of_ble_eq_true rfl)⟩) ⟨aP.blind, va_recv hK hP (ci := 11) (q0 := 2) rfl rfl, aP.pre hE hS hPc hK hDc hFc⟩ rfl rfl hl.1 rfl (lv_room (Nat.le_of_ble_eq_true rfl)) dL_law_1775 ⟨(Nat.le_of_ble_eq_true rfl), (Nat.le_of_ble_eq_true rfl)⟩) hS (fun q _ h => hFc q h) hFc (fun r_100482 u t H1 locs ht hvm hw hB hz1 hk1 hS => ?_)
    obtain ⟨hP1, hD1⟩ := hB
    rw [ht] at hP1
    try dsimp only at hw hP1 hD1
    have w_100483 := hw
    subst w_100483
    obtain ⟨hP, hD⟩ := va_join (wr := [(h0, .inr (10, [.ref x0, .int 0, .ref x1, .ref x2, .ref x3, .ref x4, .ref x5, .ref x6, .ref x7, .ref x8, .int 0, .int 3000])), (o0, .inl (kA 1, 1, .inr (.inl (fun _ => 0))))]) (w1 := [(m0, .inr (11, (y0.set 9 (.int 1))))]) hP hD [2] [0, 1] rfl rfl (by decide) (by decide) hk1 hFc hP1 hD1
    generalize H1 = H at hP hS ⊢
    have hP : va_P D vwCl [(h0, .inr (10, [.ref x0, .int 0, .ref x1, .ref x2, .ref x3, .ref x4, .ref x5, .ref x6, .ref x7, .ref x8, .int 0, .int 3000])), (o0, .inl (kA 1, 1, .inr (.inl (fun _ => 0)))), (m0, .inr (11, (y0.set 9 (.int 1))))] H := hP
    have hD : va_D A [(h0, .inr (10, [.ref x0, .int 0, .ref x1, .ref x2, .ref x3, .ref x4, .ref x5, .ref x6, .ref x7, .ref x8, .int 0, .int 3000])), (o0, .inl (kA 1, 1, .inr (.inl (fun _ => 0)))), (m0, .inr (11, (y0.set 9 (.int 1))))] := hD
    refine lv_iload hx hb dL_law_1778 (lv_at hl 1 rfl) ?_
    refine lv_icmp_eq (tgt := 1785) hx hb dL_law_1780 (by decide) (fun c_100484 => ?_) (fun c_100484 => ?_)
    · skip
      refine lv_iload hx hb dL_law_1785 (lv_at hl 1 rfl) ?_
      refine lv_if_ne (tgt := 1801) hx hb dL_law_1787 (by decide) (fun c_100485 => ?_) (fun c_100485 => ?_)
      · skip
        refine lv_goto (tgt := 1804) hx hb dL_law_1801 (by decide) ?_
        exact lk_tail hC hA2 (lv_sub hl [2, 6] rfl) hS (Nat.le_of_ble_eq_true rfl) (Nat.le_of_ble_eq_true rfl)
      · exact absurd c_100485 (by decide)
    · exact absurd (by decide) c_100484
  · exact absurd c_12 hz.2.2.2.1
  · exact absurd c_12 hz.2.2.2.1
  · exact absurd hz.2.2.1 c_10
  · exact absurd hz.2.2.2.1 c_11
  · obtain ⟨c_100043, c_100044, c_100045, c_100046, c_100047, w_100048, w_100049⟩ := hz
    subst w_100048
    subst w_100049
    obtain ⟨hP, hD⟩ := va_join (wr := [(h0, .inr (10, [.ref x0, .int 0, .ref x1, .ref x2, .ref x3, .ref x4, .ref x5, .ref x6, .ref x7, .ref x8, .int 0, .int 3000])), (o0, .inl (kA 1, 1, .inr (.inl (fun _ => 0))))]) (w1 := [(m0, .inr (11, y0.set 9 (.int 1)))]) hP hD [0] [1, 2] rfl rfl (by decide) (by decide) hk1 hFc hP1 hD1
    generalize H1 = H at hP hS ⊢
    have hP : va_P D vwCl [(h0, .inr (10, [.ref x0, .int 0, .ref x1, .ref x2, .ref x3, .ref x4, .ref x5, .ref x6, .ref x7, .ref x8, .int 0, .int 3000])), (o0, .inl (kA 1, 1, .inr (.inl (fun _ => 0)))), (m0, .inr (11, y0.set 9 (.int 1)))] H := hP
    have hD : va_D A [(h0, .inr (10, [.ref x0, .int 0, .ref x1, .ref x2, .ref x3, .ref x4, .ref x5, .ref x6, .ref x7, .ref x8, .int 0, .int 3000])), (o0, .inl (kA 1, 1, .inr (.inl (fun _ => 0)))), (m0, .inr (11, y0.set 9 (.int 1)))] := hD
    refine lv_lstore (lv' := [(6, .long 0), (5, .int 1), (0, .ref b), (1, .ref h0), (2, .ref m0), (3, .ref o0), (4, .int 0)]) hx hb dL_law_1772 hl (by decide) rfl (fun ls hl => ?_)
    refine lv_aload_n hx hb dL_law_1774 rfl (lv_at hl 4 rfl) ?_
    have hPc := hP.sub (ws' := [(m0, .inr (11, y0.set 9 (.int 1)))]) [2] rfl
    have hDc := hD.sub (ws' := [(m0, .inr (11, y0.set 9 (.int 1)))]) [2] (by decide) rfl
    have hFc := va_free (wc := [(m0, .inr (11, y0.set 9 (.int 1)))]) hD hS hA [2] rfl
    refine va_calli (va_runV (As := []) (rest := []) ⟨hx, hb, hml, hown, hts⟩ (a174_X12_thrown l  D kA V H.size m0 (y0.set 9 (.int 1)) (fun k hk => (by rw [List.length_set]; exact (hq k hk))) (List.getElem?_set_self (hq 9 (by decide)))) (cwV 0 hts (gw_V gw_1879 gw_1880 gw_1881 gw_16 gw_1882) rfl rfl rfl (by decide +kernel) ⟨(Nat.le_of_ble_eq_true rfl), (Nat.le_of_ble_eq_true rfl)⟩) ⟨aP.blind, va_recv hK hP (ci := 11) (q0 := 2) rfl rfl, aP.pre hE hS hPc hK hDc hFc⟩ rfl rfl hl.1 rfl (lv_room (Nat.le_of_ble_eq_true rfl)) dL_law_1775 ⟨(Nat.le_of_ble_eq_true rfl), (Nat.le_of_ble_eq_true rfl)⟩) hS (fun q _ h => hFc q h) hFc (fun r_100486 u t H1 locs ht hvm hw hB hz1 hk1 hS => ?_)
    obtain ⟨hP1, hD1⟩ := hB
    rw [ht] at hP1
    try dsimp only at hw hP1 hD1
    have w_100487 := hw
    subst w_100487
    obtain ⟨hP, hD⟩ := va_join (wr := [(h0, .inr (10, [.ref x0, .int 0, .ref x1, .ref x2, .ref x3, .ref x4, .ref x5, .ref x6, .ref x7, .ref x8, .int 0, .int 3000])), (o0, .inl (kA 1, 1, .inr (.inl (fun _ => 0))))]) (w1 := [(m0, .inr (11, (y0.set 9 (.int 1))))]) hP hD [2] [0, 1] rfl rfl (by decide) (by decide) hk1 hFc hP1 hD1
    generalize H1 = H at hP hS ⊢
    have hP : va_P D vwCl [(h0, .inr (10, [.ref x0, .int 0, .ref x1, .ref x2, .ref x3, .ref x4, .ref x5, .ref x6, .ref x7, .ref x8, .int 0, .int 3000])), (o0, .inl (kA 1, 1, .inr (.inl (fun _ => 0)))), (m0, .inr (11, (y0.set 9 (.int 1))))] H := hP
    have hD : va_D A [(h0, .inr (10, [.ref x0, .int 0, .ref x1, .ref x2, .ref x3, .ref x4, .ref x5, .ref x6, .ref x7, .ref x8, .int 0, .int 3000])), (o0, .inl (kA 1, 1, .inr (.inl (fun _ => 0)))), (m0, .inr (11, (y0.set 9 (.int 1))))] := hD
    refine lv_iload hx hb dL_law_1778 (lv_at hl 1 rfl) ?_
    refine lv_icmp_eq (tgt := 1785) hx hb dL_law_1780 (by decide) (fun c_100488 => ?_) (fun c_100488 => ?_)
    · skip
      refine lv_iload hx hb dL_law_1785 (lv_at hl 1 rfl) ?_
      refine lv_if_ne (tgt := 1801) hx hb dL_law_1787 (by decide) (fun c_100489 => ?_) (fun c_100489 => ?_)
      · skip
        refine lv_goto (tgt := 1804) hx hb dL_law_1801 (by decide) ?_
        exact lk_tail hC hA2 (lv_sub hl [2, 6] rfl) hS (Nat.le_of_ble_eq_true rfl) (Nat.le_of_ble_eq_true rfl)
      · exact absurd c_100489 (by decide)
    · exact absurd (by decide) c_100488
  · exact absurd c_12 hz.2.2.2.2.1
  · exact absurd c_12 hz.2.2.2.2.1
  · exact absurd hz.2.2.1 c_10
  · exact absurd hz.2.2.2.1 c_11
  · obtain ⟨c_100077, c_100078, c_100079, c_100080, c_100081, w_100082, w_100083⟩ := hz
    subst w_100082
    subst w_100083
    obtain ⟨hP, hD⟩ := va_join (wr := [(h0, .inr (10, [.ref x0, .int 0, .ref x1, .ref x2, .ref x3, .ref x4, .ref x5, .ref x6, .ref x7, .ref x8, .int 0, .int 3000])), (o0, .inl (kA 1, 1, .inr (.inl (fun _ => 0))))]) (w1 := [(m0, .inr (11, y0.set 9 (.int 1)))]) hP hD [0] [1, 2] rfl rfl (by decide) (by decide) hk1 hFc hP1 hD1
    generalize H1 = H at hP hS ⊢
    have hP : va_P D vwCl [(h0, .inr (10, [.ref x0, .int 0, .ref x1, .ref x2, .ref x3, .ref x4, .ref x5, .ref x6, .ref x7, .ref x8, .int 0, .int 3000])), (o0, .inl (kA 1, 1, .inr (.inl (fun _ => 0)))), (m0, .inr (11, y0.set 9 (.int 1)))] H := hP
    have hD : va_D A [(h0, .inr (10, [.ref x0, .int 0, .ref x1, .ref x2, .ref x3, .ref x4, .ref x5, .ref x6, .ref x7, .ref x8, .int 0, .int 3000])), (o0, .inl (kA 1, 1, .inr (.inl (fun _ => 0)))), (m0, .inr (11, y0.set 9 (.int 1)))] := hD
    refine lv_lstore (lv' := [(6, .long 0), (5, .int 1), (0, .ref b), (1, .ref h0), (2, .ref m0), (3, .ref o0), (4, .int 0)]) hx hb dL_law_1772 hl (by decide) rfl (fun ls hl => ?_)
    refine lv_aload_n hx hb dL_law_1774 rfl (lv_at hl 4 rfl) ?_
    have hPc := hP.sub (ws' := [(m0, .inr (11, y0.set 9 (.int 1)))]) [2] rfl
    have hDc := hD.sub (ws' := [(m0, .inr (11, y0.set 9 (.int 1)))]) [2] (by decide) rfl
    have hFc := va_free (wc := [(m0, .inr (11, y0.set 9 (.int 1)))]) hD hS hA [2] rfl
    refine va_calli (va_runV (As := []) (rest := []) ⟨hx, hb, hml, hown, hts⟩ (a174_X12_thrown l  D kA V H.size m0 (y0.set 9 (.int 1)) (fun k hk => (by rw [List.length_set]; exact (hq k hk))) (List.getElem?_set_self (hq 9 (by decide)))) (cwV 0 hts (gw_V gw_1879 gw_1880 gw_1881 gw_16 gw_1882) rfl rfl rfl (by decide +kernel) ⟨(Nat.le_of_ble_eq_true rfl), (Nat.le_of_ble_eq_true rfl)⟩) ⟨aP.blind, va_recv hK hP (ci := 11) (q0 := 2) rfl rfl, aP.pre hE hS hPc hK hDc hFc⟩ rfl rfl hl.1 rfl (lv_room (Nat.le_of_ble_eq_true rfl)) dL_law_1775 ⟨(Nat.le_of_ble_eq_true rfl), (Nat.le_of_ble_eq_true rfl)⟩) hS (fun q _ h => hFc q h) hFc (fun r_100490 u t H1 locs ht hvm hw hB hz1 hk1 hS => ?_)
    obtain ⟨hP1, hD1⟩ := hB
    rw [ht] at hP1
    try dsimp only at hw hP1 hD1
    have w_100491 := hw
    subst w_100491
    obtain ⟨hP, hD⟩ := va_join (wr := [(h0, .inr (10, [.ref x0, .int 0, .ref x1, .ref x2, .ref x3, .ref x4, .ref x5, .ref x6, .ref x7, .ref x8, .int 0, .int 3000])), (o0, .inl (kA 1, 1, .inr (.inl (fun _ => 0))))]) (w1 := [(m0, .inr (11, (y0.set 9 (.int 1))))]) hP hD [2] [0, 1] rfl rfl (by decide) (by decide) hk1 hFc hP1 hD1
    generalize H1 = H at hP hS ⊢
    have hP : va_P D vwCl [(h0, .inr (10, [.ref x0, .int 0, .ref x1, .ref x2, .ref x3, .ref x4, .ref x5, .ref x6, .ref x7, .ref x8, .int 0, .int 3000])), (o0, .inl (kA 1, 1, .inr (.inl (fun _ => 0)))), (m0, .inr (11, (y0.set 9 (.int 1))))] H := hP
    have hD : va_D A [(h0, .inr (10, [.ref x0, .int 0, .ref x1, .ref x2, .ref x3, .ref x4, .ref x5, .ref x6, .ref x7, .ref x8, .int 0, .int 3000])), (o0, .inl (kA 1, 1, .inr (.inl (fun _ => 0)))), (m0, .inr (11, (y0.set 9 (.int 1))))] := hD
    refine lv_iload hx hb dL_law_1778 (lv_at hl 1 rfl) ?_
    refine lv_icmp_eq (tgt := 1785) hx hb dL_law_1780 (by decide) (fun c_100492 => ?_) (fun c_100492 => ?_)
    · skip
      refine lv_iload hx hb dL_law_1785 (lv_at hl 1 rfl) ?_
      refine lv_if_ne (tgt := 1801) hx hb dL_law_1787 (by decide) (fun c_100493 => ?_) (fun c_100493 => ?_)
      · skip
        refine lv_goto (tgt := 1804) hx hb dL_law_1801 (by decide) ?_
        exact lk_tail hC hA2 (lv_sub hl [2, 6] rfl) hS (Nat.le_of_ble_eq_true rfl) (Nat.le_of_ble_eq_true rfl)
      · exact absurd c_100493 (by decide)
    · exact absurd (by decide) c_100492
  · exact absurd c_12 hz.2.2.2.2.1
  · exact absurd c_12 hz.2.2.2.2.1
  · exact absurd c_12 hz.2.2.2.2.1
  · exact absurd c_12 hz.2.2.2.2.1
  · exact absurd c_12 hz.2.2.2.2.1
  · exact absurd c_12 hz.2.2.2.2.1
  · exact absurd c_12 hz.2.2.2.2.1
  · exact absurd c_12 hz.2.2.2.2.1
  · exact absurd c_12 hz.2.2.2.2.1
  · exact absurd c_12 hz.2.2.2.2.1
  · exact absurd c_12 hz.2.2.2.2.1
  · exact absurd c_12 hz.2.2.2.2.1
  · exact absurd c_12 hz.2.2.2.2.1
  · exact absurd c_12 hz.2.2.2.2.1
  · exact absurd c_12 hz.2.2.2.2.1
  · exact absurd c_12 hz.2.2.2.2.1
  · exact absurd c_12 hz.2.2.2.2.1
  · exact absurd c_12 hz.2.2.2.2.1
  · exact absurd c_12 hz.2.2.2.2.1
  · exact absurd c_12 hz.2.2.2.2.1
  · exact absurd c_12 hz.2.2.2.2.1
  · exact absurd c_12 hz.2.2.2.2.1
  · exact absurd c_12 hz.2.2.2.2.1
  · exact absurd c_12 hz.2.2.2.2.1
  · exact absurd c_12 hz.2.2.2.2.1
  · exact absurd c_12 hz.2.2.2.2.1
  · exact absurd c_12 hz.2.2.2.2.1
  · exact absurd c_12 hz.2.2.2.2.1
  · exact absurd c_12 hz.2.2.2.2.1
set_option maxHeartbeats 4000000 in
set_option maxRecDepth 100000 in
theorem lk_23_3 {p : Program} {l : Launch} {e : Env} {s : State} {m : MethodId} {below : List Frame} {meth : Method} {c : Code} {D : va_G} {kA : Nat → ClassId} {V : Nat → Nat} {b : Nat} {xs : Nat → Int32} {A : Nat → Prop} (hC : lw_C p l s m meth c b 8 xs D kA V A) (hA2 : ∀ q, A q → s.heap.size ≤ q) (h0 : Nat) (m0 : Nat) (o0 : Nat) (x0 : Nat) (x1 : Nat) (x2 : Nat) (x3 : Nat) (x4 : Nat) (x5 : Nat) (x6 : Nat) (x7 : Nat) (x8 : Nat) (y0 : List Value) (hq : ∀ k, k < 121 → k < y0.length) (hq9 : y0[9]? = some (.int 0)) (c_15 : ¬ (xs 2) < 0) (c_16 : ¬ 4 < (xs 2)) (c_17 : ¬ (xs 3) < 0) (c_18 : 4 < (xs 3)) {H : Heap} {locs : List Loc} {ls : Array Slot} (hl : lv_has ls 8 [(0, .ref b), (1, .ref h0), (2, .ref m0), (3, .ref o0), (4, .int 0)]) (hS : va_S A s.heap H locs) (hP : va_P D vwCl [(m0, .inr (11, y0)), (h0, .inr (10, [.ref x0, .int 0, .ref x1, .ref x2, .ref x3, .ref x4, .ref x5, .ref x6, .ref x7, .ref x8, .int 0, .int 3000])), (o0, .inl (kA 1, 1, .inr (.inl (fun _ => 0))))] H) (hD : va_D A [(m0, .inr (11, y0)), (h0, .inr (10, [.ref x0, .int 0, .ref x1, .ref x2, .ref x3, .ref x4, .ref x5, .ref x6, .ref x7, .ref x8, .int 0, .int 3000])), (o0, .inl (kA 1, 1, .inr (.inl (fun _ => 0))))]) : W p l e room_1 s m #[Value.ref b] below meth c H locs 515 172799 (lw_Z below #[Value.ref b] s) (F0 m 1702 ls [.int 1]) := by
  have ⟨hst, hx, hb, hr, hml, hown, hts, hG, hX, hbl, hbA, hlocks, hE, hK, hA⟩ := hC
  refine lv_istore (lv' := [(5, .int 1), (0, .ref b), (1, .ref h0), (2, .ref m0), (3, .ref o0), (4, .int 0)]) hx hb dL_law_1702 hl (by decide) rfl (fun ls hl => ?_)
  refine lv_aload_n hx hb dL_law_1704 rfl (lv_at hl 3 rfl) ?_
  refine lv_aload_n hx hb dL_law_1705 rfl (lv_at hl 1 rfl) ?_
  refine lv_iload hx hb dL_law_1706 (lv_at hl 5 rfl) ?_
  refine lv_iconst (v := 1) hx hb dL_law_1708 (by decide) ?_
  refine lv_iadd hx hb dL_law_1709 ?_
  refine W.eq (g2 := F0 m 1710 ls [.int 1, .ref b, .ref m0]) rfl ?_
  refine va_sld hx hb hX hbl hbA hS (show vp_in 1 8 by unfold vp_in; decide) dL_law_1710 ?_
  refine W.eq (g2 := F0 m 1711 ls [.int (xs 1), .ref m0]) rfl ?_
  refine lv_aload_n hx hb dL_law_1711 rfl (lv_at hl 1 rfl) ?_
  refine lv_iload hx hb dL_law_1712 (lv_at hl 5 rfl) ?_
  refine lv_iconst (v := 2) hx hb dL_law_1714 (by decide) ?_
  refine lv_iadd hx hb dL_law_1715 ?_
  refine W.eq (g2 := F0 m 1716 ls [.int 2, .ref b, .int (xs 1), .ref m0]) rfl ?_
  refine va_sld hx hb hX hbl hbA hS (show vp_in 2 8 by unfold vp_in; decide) dL_law_1716 ?_
  refine W.eq (g2 := F0 m 1717 ls [.int (xs 2), .int (xs 1), .ref m0]) rfl ?_
  refine lv_aload_n hx hb dL_law_1717 rfl (lv_at hl 1 rfl) ?_
  refine lv_iload hx hb dL_law_1718 (lv_at hl 5 rfl) ?_
  refine lv_iconst (v := 3) hx hb dL_law_1720 (by decide) ?_
  refine lv_iadd hx hb dL_law_1721 ?_
  refine W.eq (g2 := F0 m 1722 ls [.int 3, .ref b, .int (xs 2), .int (xs 1), .ref m0]) rfl ?_
  refine va_sld hx hb hX hbl hbA hS (show vp_in 3 8 by unfold vp_in; decide) dL_law_1722 ?_
  refine W.eq (g2 := F0 m 1723 ls [.int (xs 3), .int (xs 2), .int (xs 1), .ref m0]) rfl ?_
  refine lv_aload_n hx hb dL_law_1723 rfl (lv_at hl 1 rfl) ?_
  refine lv_iload hx hb dL_law_1724 (lv_at hl 5 rfl) ?_
  refine lv_iconst (v := 4) hx hb dL_law_1726 (by decide) ?_
  refine lv_iadd hx hb dL_law_1727 ?_
  refine W.eq (g2 := F0 m 1728 ls [.int 4, .ref b, .int (xs 3), .int (xs 2), .int (xs 1), .ref m0]) rfl ?_
  refine va_sld hx hb hX hbl hbA hS (show vp_in 4 8 by unfold vp_in; decide) dL_law_1728 ?_
  refine W.eq (g2 := F0 m 1729 ls [.int (xs 4), .int (xs 3), .int (xs 2), .int (xs 1), .ref m0]) rfl ?_
  refine lv_i2l (v := (xs 4).toInt64) hx hb dL_law_1729 rfl ?_
  refine lv_bipush (v := 32) hx hb dL_law_1730 (by decide) ?_
  refine lv_lshl (v := ((xs 4).toInt64) <<< ((32 : Int32).toInt64 &&& 63)) hx hb dL_law_1732 rfl ?_
  refine lv_aload_n hx hb dL_law_1733 rfl (lv_at hl 1 rfl) ?_
  refine lv_iload hx hb dL_law_1734 (lv_at hl 5 rfl) ?_
  refine lv_iconst (v := 5) hx hb dL_law_1736 (by decide) ?_
  refine lv_iadd hx hb dL_law_1737 ?_
  refine W.eq (g2 := F0 m 1738 ls [.int 5, .ref b, .long (((xs 4).toInt64) <<< ((32 : Int32).toInt64 &&& 63)), .int (xs 3), .int (xs 2), .int (xs 1), .ref m0]) rfl ?_
  refine va_sld hx hb hX hbl hbA hS (show vp_in 5 8 by unfold vp_in; decide) dL_law_1738 ?_
  refine W.eq (g2 := F0 m 1739 ls [.int (xs 5), .long (((xs 4).toInt64) <<< ((32 : Int32).toInt64 &&& 63)), .int (xs 3), .int (xs 2), .int (xs 1), .ref m0]) rfl ?_
  refine lv_i2l (v := (xs 5).toInt64) hx hb dL_law_1739 rfl ?_
  refine lv_ldc2 (v := 4294967295) hx hb hown (hG _ gw_2764) dL_law_1740 ?_
  refine lv_land hx hb dL_law_1743 ?_
  refine lv_lor hx hb dL_law_1744 ?_
  refine lv_aload_n hx hb dL_law_1745 rfl (lv_at hl 1 rfl) ?_
  refine lv_iload hx hb dL_law_1746 (lv_at hl 5 rfl) ?_
  refine lv_bipush (v := 6) hx hb dL_law_1748 (by decide) ?_
  refine lv_iadd hx hb dL_law_1750 ?_
  refine W.eq (g2 := F0 m 1751 ls [.int 6, .ref b, .long ((((xs 4).toInt64) <<< ((32 : Int32).toInt64 &&& 63)) ||| (((xs 5).toInt64) &&& 4294967295)), .int (xs 3), .int (xs 2), .int (xs 1), .ref m0]) rfl ?_
  refine va_sld hx hb hX hbl hbA hS (show vp_in 6 8 by unfold vp_in; decide) dL_law_1751 ?_
  refine W.eq (g2 := F0 m 1752 ls [.int (xs 6), .long ((((xs 4).toInt64) <<< ((32 : Int32).toInt64 &&& 63)) ||| (((xs 5).toInt64) &&& 4294967295)), .int (xs 3), .int (xs 2), .int (xs 1), .ref m0]) rfl ?_
  refine lv_i2l (v := (xs 6).toInt64) hx hb dL_law_1752 rfl ?_
  refine lv_bipush (v := 32) hx hb dL_law_1753 (by decide) ?_
  refine lv_lshl (v := ((xs 6).toInt64) <<< ((32 : Int32).toInt64 &&& 63)) hx hb dL_law_1755 rfl ?_
  refine lv_aload_n hx hb dL_law_1756 rfl (lv_at hl 1 rfl) ?_
  refine lv_iload hx hb dL_law_1757 (lv_at hl 5 rfl) ?_
  refine lv_bipush (v := 7) hx hb dL_law_1759 (by decide) ?_
  refine lv_iadd hx hb dL_law_1761 ?_
  refine W.eq (g2 := F0 m 1762 ls [.int 7, .ref b, .long (((xs 6).toInt64) <<< ((32 : Int32).toInt64 &&& 63)), .long ((((xs 4).toInt64) <<< ((32 : Int32).toInt64 &&& 63)) ||| (((xs 5).toInt64) &&& 4294967295)), .int (xs 3), .int (xs 2), .int (xs 1), .ref m0]) rfl ?_
  refine va_sld hx hb hX hbl hbA hS (show vp_in 7 8 by unfold vp_in; decide) dL_law_1762 ?_
  refine W.eq (g2 := F0 m 1763 ls [.int (xs 7), .long (((xs 6).toInt64) <<< ((32 : Int32).toInt64 &&& 63)), .long ((((xs 4).toInt64) <<< ((32 : Int32).toInt64 &&& 63)) ||| (((xs 5).toInt64) &&& 4294967295)), .int (xs 3), .int (xs 2), .int (xs 1), .ref m0]) rfl ?_
  refine lv_i2l (v := (xs 7).toInt64) hx hb dL_law_1763 rfl ?_
  refine lv_ldc2 (v := 4294967295) hx hb hown (hG _ gw_2764) dL_law_1764 ?_
  refine lv_land hx hb dL_law_1767 ?_
  refine lv_lor hx hb dL_law_1768 ?_
  have hPc := hP.sub (ws' := [(m0, .inr (11, y0))]) [0] rfl
  have hDc := hD.sub (ws' := [(m0, .inr (11, y0))]) [0] (by decide) rfl
  have hFc := va_free (wc := [(m0, .inr (11, y0))]) hD hS hA [0] rfl
  refine va_calll (va_runV (As := [.int (xs 1), .int (xs 2), .int (xs 3), .long ((((xs 4).toInt64) <<< ((32 : Int32).toInt64 &&& 63)) ||| (((xs 5).toInt64) &&& 4294967295)), .long ((((xs 6).toInt64) <<< ((32 : Int32).toInt64 &&& 63)) ||| (((xs 7).toInt64) &&& 4294967295))]) (rest := []) ⟨hx, hb, hml, hown, hts⟩ (a155_X12_tell l  D kA V H.size m0 (xs 1) (xs 2) (xs 3) ((((xs 4).toInt64) <<< ((32 : Int32).toInt64 &&& 63)) ||| (((xs 5).toInt64) &&& 4294967295)) ((((xs 6).toInt64) <<< ((32 : Int32).toInt64 &&& 63)) ||| (((xs 7).toInt64) &&& 4294967295)) y0 (fun k hk => (hq k hk)) hq9) (cwV 5 hts (gw_V gw_2760 gw_2761 gw_2762 gw_16 gw_2763) rfl rfl rfl (by decide +kernel) ⟨(Nat.le_of_ble_eq_true rfl), (Nat.le_of_ble_eq_true rfl)⟩) ⟨aP.blind, va_recv hK hP (ci := 11) (q0 := 0) rfl rfl, aP.pre hE hS hPc hK hDc hFc⟩ rfl rfl hl.1 rfl (lv_room (Nat.le_of_ble_eq_true rfl)) dL_law_1769 ⟨(Nat.le_of_ble_eq_true rfl), (Nat.le_of_ble_eq_true rfl)⟩) hS (fun q _ h => hFc q h) hFc (fun r_100001 u t H1 locs ht hvm hw hB hz1 hk1 hS => ?_)
  obtain ⟨u_100002, rfl⟩ : ∃ z, z = u := ⟨u, rfl⟩
  obtain ⟨hP1, hD1⟩ := hB
  rw [ht] at hP1
  try dsimp only at hw hP1 hD1
  rcases hw with hz | hz | hz | hz | hz | hz | hz | hz | hz | hz | hz | hz | hz | hz | hz | hz | hz | hz | hz | hz | hz | hz | hz | hz | hz | hz | hz | hz | hz | hz | hz | hz | hz | hz | hz | hz | hz | hz | hz | hz | hz | hz
  · exact absurd hz.2.1 c_15
  · exact absurd hz.2.2.1 c_16
  · exact absurd hz.2.2.2.1 c_17
  · obtain ⟨c_100018, c_100019, c_100020, c_100021, c_100022, w_100023, w_100024⟩ := hz
    subst w_100023
    subst w_100024
    obtain ⟨hP, hD⟩ := va_join (wr := [(h0, .inr (10, [.ref x0, .int 0, .ref x1, .ref x2, .ref x3, .ref x4, .ref x5, .ref x6, .ref x7, .ref x8, .int 0, .int 3000])), (o0, .inl (kA 1, 1, .inr (.inl (fun _ => 0))))]) (w1 := [(m0, .inr (11, y0.set 9 (.int 1)))]) hP hD [0] [1, 2] rfl rfl (by decide) (by decide) hk1 hFc hP1 hD1
    generalize H1 = H at hP hS ⊢
    have hP : va_P D vwCl [(h0, .inr (10, [.ref x0, .int 0, .ref x1, .ref x2, .ref x3, .ref x4, .ref x5, .ref x6, .ref x7, .ref x8, .int 0, .int 3000])), (o0, .inl (kA 1, 1, .inr (.inl (fun _ => 0)))), (m0, .inr (11, y0.set 9 (.int 1)))] H := hP
    have hD : va_D A [(h0, .inr (10, [.ref x0, .int 0, .ref x1, .ref x2, .ref x3, .ref x4, .ref x5, .ref x6, .ref x7, .ref x8, .int 0, .int 3000])), (o0, .inl (kA 1, 1, .inr (.inl (fun _ => 0)))), (m0, .inr (11, y0.set 9 (.int 1)))] := hD
    refine lv_lstore (lv' := [(6, .long 0), (5, .int 1), (0, .ref b), (1, .ref h0), (2, .ref m0), (3, .ref o0), (4, .int 0)]) hx hb dL_law_1772 hl (by decide) rfl (fun ls hl => ?_)
    refine lv_aload_n hx hb dL_law_1774 rfl (lv_at hl 4 rfl) ?_
    have hPc := hP.sub (ws' := [(m0, .inr (11, y0.set 9 (.int 1)))]) [2] rfl
    have hDc := hD.sub (ws' := [(m0, .inr (11, y0.set 9 (.int 1)))]) [2] (by decide) rfl
    have hFc := va_free (wc := [(m0, .inr (11, y0.set 9 (.int 1)))]) hD hS hA [2] rfl
    refine va_calli (va_runV (As := []) (rest := []) ⟨hx, hb, hml, hown, hts⟩ (a174_X12_thrown l  D kA V H.size m0 (y0.set 9 (.int 1)) (fun k hk => (by rw [List.length_set]; exact (hq k hk))) (List.getElem?_set_self (hq 9 (by decide)))) (cwV 0 hts (gw_V gw_1879 gw_1880 gw_1881 gw_16 gw_1882) rfl rfl rfl (by decide +kernel) ⟨(Nat.le_of_ble_eq_true rfl), (Nat.le_of_ble_eq_true rfl)⟩) ⟨aP.blind, va_recv hK hP (ci := 11) (q0 := 2) rfl rfl, aP.pre hE hS hPc hK hDc hFc⟩ rfl rfl hl.1 rfl (lv_room (Nat.le_of_ble_eq_true rfl)) dL_law_1775 ⟨(Nat.le_of_ble_eq_true rfl), (Nat.le_of_ble_eq_true rfl)⟩) hS (fun q _ h => hFc q h) hFc (fun r_100482 u t H1 locs ht hvm hw hB hz1 hk1 hS => ?_)
    obtain ⟨hP1, hD1⟩ := hB
    rw [ht] at hP1
    try dsimp only at hw hP1 hD1
    have w_100483 := hw
    subst w_100483
    obtain ⟨hP, hD⟩ := va_join (wr := [(h0, .inr (10, [.ref x0, .int 0, .ref x1, .ref x2, .ref x3, .ref x4, .ref x5, .ref x6, .ref x7, .ref x8, .int 0, .int 3000])), (o0, .inl (kA 1, 1, .inr (.inl (fun _ => 0))))]) (w1 := [(m0, .inr (11, (y0.set 9 (.int 1))))]) hP hD [2] [0, 1] rfl rfl (by decide) (by decide) hk1 hFc hP1 hD1
    generalize H1 = H at hP hS ⊢
    have hP : va_P D vwCl [(h0, .inr (10, [.ref x0, .int 0, .ref x1, .ref x2, .ref x3, .ref x4, .ref x5, .ref x6, .ref x7, .ref x8, .int 0, .int 3000])), (o0, .inl (kA 1, 1, .inr (.inl (fun _ => 0)))), (m0, .inr (11, (y0.set 9 (.int 1))))] H := hP
    have hD : va_D A [(h0, .inr (10, [.ref x0, .int 0, .ref x1, .ref x2, .ref x3, .ref x4, .ref x5, .ref x6, .ref x7, .ref x8, .int 0, .int 3000])), (o0, .inl (kA 1, 1, .inr (.inl (fun _ => 0)))), (m0, .inr (11, (y0.set 9 (.int 1))))] := hD
    refine lv_iload hx hb dL_law_1778 (lv_at hl 1 rfl) ?_
    refine lv_icmp_eq (tgt := 1785) hx hb dL_law_1780 (by decide) (fun c_100484 => ?_) (fun c_100484 => ?_)
    · skip
      refine lv_iload hx hb dL_law_1785 (lv_at hl 1 rfl) ?_
      refine lv_if_ne (tgt := 1801) hx hb dL_law_1787 (by decide) (fun c_100485 => ?_) (fun c_100485 => ?_)
      · skip
        refine lv_goto (tgt := 1804) hx hb dL_law_1801 (by decide) ?_
        exact lk_tail hC hA2 (lv_sub hl [2, 6] rfl) hS (Nat.le_of_ble_eq_true rfl) (Nat.le_of_ble_eq_true rfl)
      · exact absurd c_100485 (by decide)
    · exact absurd (by decide) c_100484
  · exact absurd c_18 hz.2.2.2.2.1
  · exact absurd hz.2.2.1 c_15
  · exact absurd hz.2.2.2.1 c_16
  · exact absurd hz.2.2.2.2.1 c_17
  · obtain ⟨c_100050, c_100051, c_100052, c_100053, c_100054, c_100055, w_100056, w_100057⟩ := hz
    subst w_100056
    subst w_100057
    obtain ⟨hP, hD⟩ := va_join (wr := [(h0, .inr (10, [.ref x0, .int 0, .ref x1, .ref x2, .ref x3, .ref x4, .ref x5, .ref x6, .ref x7, .ref x8, .int 0, .int 3000])), (o0, .inl (kA 1, 1, .inr (.inl (fun _ => 0))))]) (w1 := [(m0, .inr (11, y0.set 9 (.int 1)))]) hP hD [0] [1, 2] rfl rfl (by decide) (by decide) hk1 hFc hP1 hD1
    generalize H1 = H at hP hS ⊢
    have hP : va_P D vwCl [(h0, .inr (10, [.ref x0, .int 0, .ref x1, .ref x2, .ref x3, .ref x4, .ref x5, .ref x6, .ref x7, .ref x8, .int 0, .int 3000])), (o0, .inl (kA 1, 1, .inr (.inl (fun _ => 0)))), (m0, .inr (11, y0.set 9 (.int 1)))] H := hP
    have hD : va_D A [(h0, .inr (10, [.ref x0, .int 0, .ref x1, .ref x2, .ref x3, .ref x4, .ref x5, .ref x6, .ref x7, .ref x8, .int 0, .int 3000])), (o0, .inl (kA 1, 1, .inr (.inl (fun _ => 0)))), (m0, .inr (11, y0.set 9 (.int 1)))] := hD
    refine lv_lstore (lv' := [(6, .long 0), (5, .int 1), (0, .ref b), (1, .ref h0), (2, .ref m0), (3, .ref o0), (4, .int 0)]) hx hb dL_law_1772 hl (by decide) rfl (fun ls hl => ?_)
    refine lv_aload_n hx hb dL_law_1774 rfl (lv_at hl 4 rfl) ?_
    have hPc := hP.sub (ws' := [(m0, .inr (11, y0.set 9 (.int 1)))]) [2] rfl
    have hDc := hD.sub (ws' := [(m0, .inr (11, y0.set 9 (.int 1)))]) [2] (by decide) rfl
    have hFc := va_free (wc := [(m0, .inr (11, y0.set 9 (.int 1)))]) hD hS hA [2] rfl
    refine va_calli (va_runV (As := []) (rest := []) ⟨hx, hb, hml, hown, hts⟩ (a174_X12_thrown l  D kA V H.size m0 (y0.set 9 (.int 1)) (fun k hk => (by rw [List.length_set]; exact (hq k hk))) (List.getElem?_set_self (hq 9 (by decide)))) (cwV 0 hts (gw_V gw_1879 gw_1880 gw_1881 gw_16 gw_1882) rfl rfl rfl (by decide +kernel) ⟨(Nat.le_of_ble_eq_true rfl), (Nat.le_of_ble_eq_true rfl)⟩) ⟨aP.blind, va_recv hK hP (ci := 11) (q0 := 2) rfl rfl, aP.pre hE hS hPc hK hDc hFc⟩ rfl rfl hl.1 rfl (lv_room (Nat.le_of_ble_eq_true rfl)) dL_law_1775 ⟨(Nat.le_of_ble_eq_true rfl), (Nat.le_of_ble_eq_true rfl)⟩) hS (fun q _ h => hFc q h) hFc (fun r_100486 u t H1 locs ht hvm hw hB hz1 hk1 hS => ?_)
    obtain ⟨hP1, hD1⟩ := hB
    rw [ht] at hP1
    try dsimp only at hw hP1 hD1
    have w_100487 := hw
    subst w_100487
    obtain ⟨hP, hD⟩ := va_join (wr := [(h0, .inr (10, [.ref x0, .int 0, .ref x1, .ref x2, .ref x3, .ref x4, .ref x5, .ref x6, .ref x7, .ref x8, .int 0, .int 3000])), (o0, .inl (kA 1, 1, .inr (.inl (fun _ => 0))))]) (w1 := [(m0, .inr (11, (y0.set 9 (.int 1))))]) hP hD [2] [0, 1] rfl rfl (by decide) (by decide) hk1 hFc hP1 hD1
    generalize H1 = H at hP hS ⊢
    have hP : va_P D vwCl [(h0, .inr (10, [.ref x0, .int 0, .ref x1, .ref x2, .ref x3, .ref x4, .ref x5, .ref x6, .ref x7, .ref x8, .int 0, .int 3000])), (o0, .inl (kA 1, 1, .inr (.inl (fun _ => 0)))), (m0, .inr (11, (y0.set 9 (.int 1))))] H := hP
    have hD : va_D A [(h0, .inr (10, [.ref x0, .int 0, .ref x1, .ref x2, .ref x3, .ref x4, .ref x5, .ref x6, .ref x7, .ref x8, .int 0, .int 3000])), (o0, .inl (kA 1, 1, .inr (.inl (fun _ => 0)))), (m0, .inr (11, (y0.set 9 (.int 1))))] := hD
    refine lv_iload hx hb dL_law_1778 (lv_at hl 1 rfl) ?_
    refine lv_icmp_eq (tgt := 1785) hx hb dL_law_1780 (by decide) (fun c_100488 => ?_) (fun c_100488 => ?_)
    · skip
      refine lv_iload hx hb dL_law_1785 (lv_at hl 1 rfl) ?_
      refine lv_if_ne (tgt := 1801) hx hb dL_law_1787 (by decide) (fun c_100489 => ?_) (fun c_100489 => ?_)
      · skip
        refine lv_goto (tgt := 1804) hx hb dL_law_1801 (by decide) ?_
        exact lk_tail hC hA2 (lv_sub hl [2, 6] rfl) hS (Nat.le_of_ble_eq_true rfl) (Nat.le_of_ble_eq_true rfl)
      · exact absurd c_100489 (by decide)
    · exact absurd (by decide) c_100488
  · exact absurd c_18 hz.2.2.2.2.2.1
  · exact absurd hz.2.2.1 c_15
  · exact absurd hz.2.2.2.1 c_16
  · exact absurd hz.2.2.2.2.1 c_17
  · obtain ⟨c_100084, c_100085, c_100086, c_100087, c_100088, c_100089, w_100090, w_100091⟩ := hz
    subst w_100090
    subst w_100091
    obtain ⟨hP, hD⟩ := va_join (wr := [(h0, .inr (10, [.ref x0, .int 0, .ref x1, .ref x2, .ref x3, .ref x4, .ref x5, .ref x6, .ref x7, .ref x8, .int 0, .int 3000])), (o0, .inl (kA 1, 1, .inr (.inl (fun _ => 0))))]) (w1 := [(m0, .inr (11, y0.set 9 (.int 1)))]) hP hD [0] [1, 2] rfl rfl (by decide) (by decide) hk1 hFc hP1 hD1
    generalize H1 = H at hP hS ⊢
    have hP : va_P D vwCl [(h0, .inr (10, [.ref x0, .int 0, .ref x1, .ref x2, .ref x3, .ref x4, .ref x5, .ref x6, .ref x7, .ref x8, .int 0, .int 3000])), (o0, .inl (kA 1, 1, .inr (.inl (fun _ => 0)))), (m0, .inr (11, y0.set 9 (.int 1)))] H := hP
    have hD : va_D A [(h0, .inr (10, [.ref x0, .int 0, .ref x1, .ref x2, .ref x3, .ref x4, .ref x5, .ref x6, .ref x7, .ref x8, .int 0, .int 3000])), (o0, .inl (kA 1, 1, .inr (.inl (fun _ => 0)))), (m0, .inr (11, y0.set 9 (.int 1)))] := hD
    refine lv_lstore (lv' := [(6, .long 0), (5, .int 1), (0, .ref b), (1, .ref h0), (2, .ref m0), (3, .ref o0), (4, .int 0)]) hx hb dL_law_1772 hl (by decide) rfl (fun ls hl => ?_)
    refine lv_aload_n hx hb dL_law_1774 rfl (lv_at hl 4 rfl) ?_
    have hPc := hP.sub (ws' := [(m0, .inr (11, y0.set 9 (.int 1)))]) [2] rfl
    have hDc := hD.sub (ws' := [(m0, .inr (11, y0.set 9 (.int 1)))]) [2] (by decide) rfl
    have hFc := va_free (wc := [(m0, .inr (11, y0.set 9 (.int 1)))]) hD hS hA [2] rfl
    refine va_calli (va_runV (As := []) (rest := []) ⟨hx, hb, hml, hown, hts⟩ (a174_X12_thrown l  D kA V H.size m0 (y0.set 9 (.int 1)) (fun k hk => (by rw [List.length_set]; exact (hq k hk))) (List.getElem?_set_self (hq 9 (by decide)))) (cwV 0 hts (gw_V gw_1879 gw_1880 gw_1881 gw_16 gw_1882) rfl rfl rfl (by decide +kernel) ⟨(Nat.le_of_ble_eq_true rfl), (Nat.le_of_ble_eq_true rfl)⟩) ⟨aP.blind, va_recv hK hP (ci := 11) (q0 := 2) rfl rfl, aP.pre hE hS hPc hK hDc hFc⟩ rfl rfl hl.1 rfl (lv_room (Nat.le_of_ble_eq_true rfl)) dL_law_1775 ⟨(Nat.le_of_ble_eq_true rfl), (Nat.le_of_ble_eq_true rfl)⟩) hS (fun q _ h => hFc q h) hFc (fun r_100490 u t H1 locs ht hvm hw hB hz1 hk1 hS => ?_)
    obtain ⟨hP1, hD1⟩ := hB
    rw [ht] at hP1
    try dsimp only at hw hP1 hD1
    have w_100491 := hw
    subst w_100491
    obtain ⟨hP, hD⟩ := va_join (wr := [(h0, .inr (10, [.ref x0, .int 0, .ref x1, .ref x2, .ref x3, .ref x4, .ref x5, .ref x6, .ref x7, .ref x8, .int 0, .int 3000])), (o0, .inl (kA 1, 1, .inr (.inl (fun _ => 0))))]) (w1 := [(m0, .inr (11, (y0.set 9 (.int 1))))]) hP hD [2] [0, 1] rfl rfl (by decide) (by decide) hk1 hFc hP1 hD1
    generalize H1 = H at hP hS ⊢
    have hP : va_P D vwCl [(h0, .inr (10, [.ref x0, .int 0, .ref x1, .ref x2, .ref x3, .ref x4, .ref x5, .ref x6, .ref x7, .ref x8, .int 0, .int 3000])), (o0, .inl (kA 1, 1, .inr (.inl (fun _ => 0)))), (m0, .inr (11, (y0.set 9 (.int 1))))] H := hP
    have hD : va_D A [(h0, .inr (10, [.ref x0, .int 0, .ref x1, .ref x2, .ref x3, .ref x4, .ref x5, .ref x6, .ref x7, .ref x8, .int 0, .int 3000])), (o0, .inl (kA 1, 1, .inr (.inl (fun _ => 0)))), (m0, .inr (11, (y0.set 9 (.int 1))))] := hD
    refine lv_iload hx hb dL_law_1778 (lv_at hl 1 rfl) ?_
    refine lv_icmp_eq (tgt := 1785) hx hb dL_law_1780 (by decide) (fun c_100492 => ?_) (fun c_100492 => ?_)
    · skip
      refine lv_iload hx hb dL_law_1785 (lv_at hl 1 rfl) ?_
      refine lv_if_ne (tgt := 1801) hx hb dL_law_1787 (by decide) (fun c_100493 => ?_) (fun c_100493 => ?_)
      · skip
        refine lv_goto (tgt := 1804) hx hb dL_law_1801 (by decide) ?_
        exact lk_tail hC hA2 (lv_sub hl [2, 6] rfl) hS (Nat.le_of_ble_eq_true rfl) (Nat.le_of_ble_eq_true rfl)
      · exact absurd c_100493 (by decide)
    · exact absurd (by decide) c_100492
  · exact absurd c_18 hz.2.2.2.2.2.1
  · exact absurd c_18 hz.2.2.2.2.2.1
  · exact absurd c_18 hz.2.2.2.2.2.1
  · exact absurd c_18 hz.2.2.2.2.2.1
  · exact absurd c_18 hz.2.2.2.2.2.1
  · exact absurd c_18 hz.2.2.2.2.2.1
  · exact absurd c_18 hz.2.2.2.2.2.1
  · exact absurd c_18 hz.2.2.2.2.2.1
  · exact absurd c_18 hz.2.2.2.2.2.1
  · exact absurd c_18 hz.2.2.2.2.2.1
  · exact absurd c_18 hz.2.2.2.2.2.1
  · exact absurd c_18 hz.2.2.2.2.2.1
  · exact absurd c_18 hz.2.2.2.2.2.1
  · exact absurd c_18 hz.2.2.2.2.2.1
  · exact absurd c_18 hz.2.2.2.2.2.1
  · exact absurd c_18 hz.2.2.2.2.2.1
  · exact absurd c_18 hz.2.2.2.2.2.1
  · exact absurd c_18 hz.2.2.2.2.2.1
  · exact absurd c_18 hz.2.2.2.2.2.1
  · exact absurd c_18 hz.2.2.2.2.2.1
  · exact absurd c_18 hz.2.2.2.2.2.1
  · exact absurd c_18 hz.2.2.2.2.2.1
  · exact absurd c_18 hz.2.2.2.2.2.1
  · exact absurd c_18 hz.2.2.2.2.2.1
  · exact absurd c_18 hz.2.2.2.2.2.1
  · exact absurd c_18 hz.2.2.2.2.2.1
  · exact absurd c_18 hz.2.2.2.2.2.1
  · exact absurd c_18 hz.2.2.2.2.2.1
set_option maxHeartbeats 4000000 in
set_option maxRecDepth 100000 in
theorem lk_23_4 {p : Program} {l : Launch} {e : Env} {s : State} {m : MethodId} {below : List Frame} {meth : Method} {c : Code} {D : va_G} {kA : Nat → ClassId} {V : Nat → Nat} {b : Nat} {xs : Nat → Int32} {A : Nat → Prop} (hC : lw_C p l s m meth c b 8 xs D kA V A) (hA2 : ∀ q, A q → s.heap.size ≤ q) (h0 : Nat) (m0 : Nat) (o0 : Nat) (x0 : Nat) (x1 : Nat) (x2 : Nat) (x3 : Nat) (x4 : Nat) (x5 : Nat) (x6 : Nat) (x7 : Nat) (x8 : Nat) (y0 : List Value) (hq : ∀ k, k < 121 → k < y0.length) (hq9 : y0[9]? = some (.int 0)) (c_21 : ¬ (xs 2) < 0) (c_22 : ¬ 4 < (xs 2)) (c_23 : ¬ (xs 3) < 0) (c_24 : ¬ 4 < (xs 3)) (c_25 : (xs 1) < 0) {H : Heap} {locs : List Loc} {ls : Array Slot} (hl : lv_has ls 8 [(0, .ref b), (1, .ref h0), (2, .ref m0), (3, .ref o0), (4, .int 0)]) (hS : va_S A s.heap H locs) (hP : va_P D vwCl [(m0, .inr (11, y0)), (h0, .inr (10, [.ref x0, .int 0, .ref x1, .ref x2, .ref x3, .ref x4, .ref x5, .ref x6, .ref x7, .ref x8, .int 0, .int 3000])), (o0, .inl (kA 1, 1, .inr (.inl (fun _ => 0))))] H) (hD : va_D A [(m0, .inr (11, y0)), (h0, .inr (10, [.ref x0, .int 0, .ref x1, .ref x2, .ref x3, .ref x4, .ref x5, .ref x6, .ref x7, .ref x8, .int 0, .int 3000])), (o0, .inl (kA 1, 1, .inr (.inl (fun _ => 0))))]) : W p l e room_1 s m #[Value.ref b] below meth c H locs 515 172799 (lw_Z below #[Value.ref b] s) (F0 m 1702 ls [.int 1]) := by
  have ⟨hst, hx, hb, hr, hml, hown, hts, hG, hX, hbl, hbA, hlocks, hE, hK, hA⟩ := hC
  refine lv_istore (lv' := [(5, .int 1), (0, .ref b), (1, .ref h0), (2, .ref m0), (3, .ref o0), (4, .int 0)]) hx hb dL_law_1702 hl (by decide) rfl (fun ls hl => ?_)
  refine lv_aload_n hx hb dL_law_1704 rfl (lv_at hl 3 rfl) ?_
  refine lv_aload_n hx hb dL_law_1705 rfl (lv_at hl 1 rfl) ?_
  refine lv_iload hx hb dL_law_1706 (lv_at hl 5 rfl) ?_
  refine lv_iconst (v := 1) hx hb dL_law_1708 (by decide) ?_
  refine lv_iadd hx hb dL_law_1709 ?_
  refine W.eq (g2 := F0 m 1710 ls [.int 1, .ref b, .ref m0]) rfl ?_
  refine va_sld hx hb hX hbl hbA hS (show vp_in 1 8 by unfold vp_in; decide) dL_law_1710 ?_
  refine W.eq (g2 := F0 m 1711 ls [.int (xs 1), .ref m0]) rfl ?_
  refine lv_aload_n hx hb dL_law_1711 rfl (lv_at hl 1 rfl) ?_
  refine lv_iload hx hb dL_law_1712 (lv_at hl 5 rfl) ?_
  refine lv_iconst (v := 2) hx hb dL_law_1714 (by decide) ?_
  refine lv_iadd hx hb dL_law_1715 ?_
  refine W.eq (g2 := F0 m 1716 ls [.int 2, .ref b, .int (xs 1), .ref m0]) rfl ?_
  refine va_sld hx hb hX hbl hbA hS (show vp_in 2 8 by unfold vp_in; decide) dL_law_1716 ?_
  refine W.eq (g2 := F0 m 1717 ls [.int (xs 2), .int (xs 1), .ref m0]) rfl ?_
  refine lv_aload_n hx hb dL_law_1717 rfl (lv_at hl 1 rfl) ?_
  refine lv_iload hx hb dL_law_1718 (lv_at hl 5 rfl) ?_
  refine lv_iconst (v := 3) hx hb dL_law_1720 (by decide) ?_
  refine lv_iadd hx hb dL_law_1721 ?_
  refine W.eq (g2 := F0 m 1722 ls [.int 3, .ref b, .int (xs 2), .int (xs 1), .ref m0]) rfl ?_
  refine va_sld hx hb hX hbl hbA hS (show vp_in 3 8 by unfold vp_in; decide) dL_law_1722 ?_
  refine W.eq (g2 := F0 m 1723 ls [.int (xs 3), .int (xs 2), .int (xs 1), .ref m0]) rfl ?_
  refine lv_aload_n hx hb dL_law_1723 rfl (lv_at hl 1 rfl) ?_
  refine lv_iload hx hb dL_law_1724 (lv_at hl 5 rfl) ?_
  refine lv_iconst (v := 4) hx hb dL_law_1726 (by decide) ?_
  refine lv_iadd hx hb dL_law_1727 ?_
  refine W.eq (g2 := F0 m 1728 ls [.int 4, .ref b, .int (xs 3), .int (xs 2), .int (xs 1), .ref m0]) rfl ?_
  refine va_sld hx hb hX hbl hbA hS (show vp_in 4 8 by unfold vp_in; decide) dL_law_1728 ?_
  refine W.eq (g2 := F0 m 1729 ls [.int (xs 4), .int (xs 3), .int (xs 2), .int (xs 1), .ref m0]) rfl ?_
  refine lv_i2l (v := (xs 4).toInt64) hx hb dL_law_1729 rfl ?_
  refine lv_bipush (v := 32) hx hb dL_law_1730 (by decide) ?_
  refine lv_lshl (v := ((xs 4).toInt64) <<< ((32 : Int32).toInt64 &&& 63)) hx hb dL_law_1732 rfl ?_
  refine lv_aload_n hx hb dL_law_1733 rfl (lv_at hl 1 rfl) ?_
  refine lv_iload hx hb dL_law_1734 (lv_at hl 5 rfl) ?_
  refine lv_iconst (v := 5) hx hb dL_law_1736 (by decide) ?_
  refine lv_iadd hx hb dL_law_1737 ?_
  refine W.eq (g2 := F0 m 1738 ls [.int 5, .ref b, .long (((xs 4).toInt64) <<< ((32 : Int32).toInt64 &&& 63)), .int (xs 3), .int (xs 2), .int (xs 1), .ref m0]) rfl ?_
  refine va_sld hx hb hX hbl hbA hS (show vp_in 5 8 by unfold vp_in; decide) dL_law_1738 ?_
  refine W.eq (g2 := F0 m 1739 ls [.int (xs 5), .long (((xs 4).toInt64) <<< ((32 : Int32).toInt64 &&& 63)), .int (xs 3), .int (xs 2), .int (xs 1), .ref m0]) rfl ?_
  refine lv_i2l (v := (xs 5).toInt64) hx hb dL_law_1739 rfl ?_
  refine lv_ldc2 (v := 4294967295) hx hb hown (hG _ gw_2764) dL_law_1740 ?_
  refine lv_land hx hb dL_law_1743 ?_
  refine lv_lor hx hb dL_law_1744 ?_
  refine lv_aload_n hx hb dL_law_1745 rfl (lv_at hl 1 rfl) ?_
  refine lv_iload hx hb dL_law_1746 (lv_at hl 5 rfl) ?_
  refine lv_bipush (v := 6) hx hb dL_law_1748 (by decide) ?_
  refine lv_iadd hx hb dL_law_1750 ?_
  refine W.eq (g2 := F0 m 1751 ls [.int 6, .ref b, .long ((((xs 4).toInt64) <<< ((32 : Int32).toInt64 &&& 63)) ||| (((xs 5).toInt64) &&& 4294967295)), .int (xs 3), .int (xs 2), .int (xs 1), .ref m0]) rfl ?_
  refine va_sld hx hb hX hbl hbA hS (show vp_in 6 8 by unfold vp_in; decide) dL_law_1751 ?_
  refine W.eq (g2 := F0 m 1752 ls [.int (xs 6), .long ((((xs 4).toInt64) <<< ((32 : Int32).toInt64 &&& 63)) ||| (((xs 5).toInt64) &&& 4294967295)), .int (xs 3), .int (xs 2), .int (xs 1), .ref m0]) rfl ?_
  refine lv_i2l (v := (xs 6).toInt64) hx hb dL_law_1752 rfl ?_
  refine lv_bipush (v := 32) hx hb dL_law_1753 (by decide) ?_
  refine lv_lshl (v := ((xs 6).toInt64) <<< ((32 : Int32).toInt64 &&& 63)) hx hb dL_law_1755 rfl ?_
  refine lv_aload_n hx hb dL_law_1756 rfl (lv_at hl 1 rfl) ?_
  refine lv_iload hx hb dL_law_1757 (lv_at hl 5 rfl) ?_
  refine lv_bipush (v := 7) hx hb dL_law_1759 (by decide) ?_
  refine lv_iadd hx hb dL_law_1761 ?_
  refine W.eq (g2 := F0 m 1762 ls [.int 7, .ref b, .long (((xs 6).toInt64) <<< ((32 : Int32).toInt64 &&& 63)), .long ((((xs 4).toInt64) <<< ((32 : Int32).toInt64 &&& 63)) ||| (((xs 5).toInt64) &&& 4294967295)), .int (xs 3), .int (xs 2), .int (xs 1), .ref m0]) rfl ?_
  refine va_sld hx hb hX hbl hbA hS (show vp_in 7 8 by unfold vp_in; decide) dL_law_1762 ?_
  refine W.eq (g2 := F0 m 1763 ls [.int (xs 7), .long (((xs 6).toInt64) <<< ((32 : Int32).toInt64 &&& 63)), .long ((((xs 4).toInt64) <<< ((32 : Int32).toInt64 &&& 63)) ||| (((xs 5).toInt64) &&& 4294967295)), .int (xs 3), .int (xs 2), .int (xs 1), .ref m0]) rfl ?_
  refine lv_i2l (v := (xs 7).toInt64) hx hb dL_law_1763 rfl ?_
  refine lv_ldc2 (v := 4294967295) hx hb hown (hG _ gw_2764) dL_law_1764 ?_
  refine lv_land hx hb dL_law_1767 ?_
  refine lv_lor hx hb dL_law_1768 ?_
  have hPc := hP.sub (ws' := [(m0, .inr (11, y0))]) [0] rfl
  have hDc := hD.sub (ws' := [(m0, .inr (11, y0))]) [0] (by decide) rfl
  have hFc := va_free (wc := [(m0, .inr (11, y0))]) hD hS hA [0] rfl
  refine va_calll (va_runV (As := [.int (xs 1), .int (xs 2), .int (xs 3), .long ((((xs 4).toInt64) <<< ((32 : Int32).toInt64 &&& 63)) ||| (((xs 5).toInt64) &&& 4294967295)), .long ((((xs 6).toInt64) <<< ((32 : Int32).toInt64 &&& 63)) ||| (((xs 7).toInt64) &&& 4294967295))]) (rest := []) ⟨hx, hb, hml, hown, hts⟩ (a155_X12_tell l  D kA V H.size m0 (xs 1) (xs 2) (xs 3) ((((xs 4).toInt64) <<< ((32 : Int32).toInt64 &&& 63)) ||| (((xs 5).toInt64) &&& 4294967295)) ((((xs 6).toInt64) <<< ((32 : Int32).toInt64 &&& 63)) ||| (((xs 7).toInt64) &&& 4294967295)) y0 (fun k hk => (hq k hk)) hq9) (cwV 5 hts (gw_V gw_2760 gw_2761 gw_2762 gw_16 gw_2763) rfl rfl rfl (by decide +kernel) ⟨(Nat.le_of_ble_eq_true rfl), (Nat.le_of_ble_eq_true rfl)⟩) ⟨aP.blind, va_recv hK hP (ci := 11) (q0 := 0) rfl rfl, aP.pre hE hS hPc hK hDc hFc⟩ rfl rfl hl.1 rfl (lv_room (Nat.le_of_ble_eq_true rfl)) dL_law_1769 ⟨(Nat.le_of_ble_eq_true rfl), (Nat.le_of_ble_eq_true rfl)⟩) hS (fun q _ h => hFc q h) hFc (fun r_100001 u t H1 locs ht hvm hw hB hz1 hk1 hS => ?_)
  obtain ⟨u_100002, rfl⟩ : ∃ z, z = u := ⟨u, rfl⟩
  obtain ⟨hP1, hD1⟩ := hB
  rw [ht] at hP1
  try dsimp only at hw hP1 hD1
  rcases hw with hz | hz | hz | hz | hz | hz | hz | hz | hz | hz | hz | hz | hz | hz | hz | hz | hz | hz | hz | hz | hz | hz | hz | hz | hz | hz | hz | hz | hz | hz | hz | hz | hz | hz | hz | hz | hz | hz | hz | hz | hz | hz
  · exact absurd hz.2.1 c_21
  · exact absurd hz.2.2.1 c_22
  · exact absurd hz.2.2.2.1 c_23
  · exact absurd hz.2.2.2.2.1 c_24
  · obtain ⟨c_100025, c_100026, c_100027, c_100028, c_100029, w_100030, w_100031⟩ := hz
    subst w_100030
    subst w_100031
    obtain ⟨hP, hD⟩ := va_join (wr := [(h0, .inr (10, [.ref x0, .int 0, .ref x1, .ref x2, .ref x3, .ref x4, .ref x5, .ref x6, .ref x7, .ref x8, .int 0, .int 3000])), (o0, .inl (kA 1, 1, .inr (.inl (fun _ => 0))))]) (w1 := [(m0, .inr (11, y0.set 9 (.int 1)))]) hP hD [0] [1, 2] rfl rfl (by decide) (by decide) hk1 hFc hP1 hD1
    generalize H1 = H at hP hS ⊢
    have hP : va_P D vwCl [(h0, .inr (10, [.ref x0, .int 0, .ref x1, .ref x2, .ref x3, .ref x4, .ref x5, .ref x6, .ref x7, .ref x8, .int 0, .int 3000])), (o0, .inl (kA 1, 1, .inr (.inl (fun _ => 0)))), (m0, .inr (11, y0.set 9 (.int 1)))] H := hP
    have hD : va_D A [(h0, .inr (10, [.ref x0, .int 0, .ref x1, .ref x2, .ref x3, .ref x4, .ref x5, .ref x6, .ref x7, .ref x8, .int 0, .int 3000])), (o0, .inl (kA 1, 1, .inr (.inl (fun _ => 0)))), (m0, .inr (11, y0.set 9 (.int 1)))] := hD
    refine lv_lstore (lv' := [(6, .long 0), (5, .int 1), (0, .ref b), (1, .ref h0), (2, .ref m0), (3, .ref o0), (4, .int 0)]) hx hb dL_law_1772 hl (by decide) rfl (fun ls hl => ?_)
    refine lv_aload_n hx hb dL_law_1774 rfl (lv_at hl 4 rfl) ?_
    have hPc := hP.sub (ws' := [(m0, .inr (11, y0.set 9 (.int 1)))]) [2] rfl
    have hDc := hD.sub (ws' := [(m0, .inr (11, y0.set 9 (.int 1)))]) [2] (by decide) rfl
    have hFc := va_free (wc := [(m0, .inr (11, y0.set 9 (.int 1)))]) hD hS hA [2] rfl
    refine va_calli (va_runV (As := []) (rest := []) ⟨hx, hb, hml, hown, hts⟩ (a174_X12_thrown l  D kA V H.size m0 (y0.set 9 (.int 1)) (fun k hk => (by rw [List.length_set]; exact (hq k hk))) (List.getElem?_set_self (hq 9 (by decide)))) (cwV 0 hts (gw_V gw_1879 gw_1880 gw_1881 gw_16 gw_1882) rfl rfl rfl (by decide +kernel) ⟨(Nat.le_of_ble_eq_true rfl), (Nat.le_of_ble_eq_true rfl)⟩) ⟨aP.blind, va_recv hK hP (ci := 11) (q0 := 2) rfl rfl, aP.pre hE hS hPc hK hDc hFc⟩ rfl rfl hl.1 rfl (lv_room (Nat.le_of_ble_eq_true rfl)) dL_law_1775 ⟨(Nat.le_of_ble_eq_true rfl), (Nat.le_of_ble_eq_true rfl)⟩) hS (fun q _ h => hFc q h) hFc (fun r_100482 u t H1 locs ht hvm hw hB hz1 hk1 hS => ?_)
    obtain ⟨hP1, hD1⟩ := hB
    rw [ht] at hP1
    try dsimp only at hw hP1 hD1
    have w_100483 := hw
    subst w_100483
    obtain ⟨hP, hD⟩ := va_join (wr := [(h0, .inr (10, [.ref x0, .int 0, .ref x1, .ref x2, .ref x3, .ref x4, .ref x5, .ref x6, .ref x7, .ref x8, .int 0, .int 3000])), (o0, .inl (kA 1, 1, .inr (.inl (fun _ => 0))))]) (w1 := [(m0, .inr (11, (y0.set 9 (.int 1))))]) hP hD [2] [0, 1] rfl rfl (by decide) (by decide) hk1 hFc hP1 hD1
    generalize H1 = H at hP hS ⊢
    have hP : va_P D vwCl [(h0, .inr (10, [.ref x0, .int 0, .ref x1, .ref x2, .ref x3, .ref x4, .ref x5, .ref x6, .ref x7, .ref x8, .int 0, .int 3000])), (o0, .inl (kA 1, 1, .inr (.inl (fun _ => 0)))), (m0, .inr (11, (y0.set 9 (.int 1))))] H := hP
    have hD : va_D A [(h0, .inr (10, [.ref x0, .int 0, .ref x1, .ref x2, .ref x3, .ref x4, .ref x5, .ref x6, .ref x7, .ref x8, .int 0, .int 3000])), (o0, .inl (kA 1, 1, .inr (.inl (fun _ => 0)))), (m0, .inr (11, (y0.set 9 (.int 1))))] := hD
    refine lv_iload hx hb dL_law_1778 (lv_at hl 1 rfl) ?_
    refine lv_icmp_eq (tgt := 1785) hx hb dL_law_1780 (by decide) (fun c_100484 => ?_) (fun c_100484 => ?_)
    · skip
      refine lv_iload hx hb dL_law_1785 (lv_at hl 1 rfl) ?_
      refine lv_if_ne (tgt := 1801) hx hb dL_law_1787 (by decide) (fun c_100485 => ?_) (fun c_100485 => ?_)
      · skip
        refine lv_goto (tgt := 1804) hx hb dL_law_1801 (by decide) ?_
        exact lk_tail hC hA2 (lv_sub hl [2, 6] rfl) hS (Nat.le_of_ble_eq_true rfl) (Nat.le_of_ble_eq_true rfl)
      · exact absurd c_100485 (by decide)
    · exact absurd (by decide) c_100484
  · exact absurd c_25 hz.1
  · exact absurd c_25 hz.1
  · exact absurd c_25 hz.1
  · exact absurd c_25 hz.1
  · exact absurd c_25 hz.1
  · exact absurd c_25 hz.1
  · exact absurd c_25 hz.1
  · exact absurd c_25 hz.1
  · exact absurd c_25 hz.1
  · exact absurd c_25 hz.1
  · exact absurd c_25 hz.1
  · exact absurd c_25 hz.1
  · exact absurd c_25 hz.1
  · exact absurd c_25 hz.1
  · exact absurd c_25 hz.1
  · exact absurd c_25 hz.1
  · exact absurd c_25 hz.1
  · exact absurd c_25 hz.1
  · exact absurd c_25 hz.1
  · exact absurd c_25 hz.1
  · exact absurd c_25 hz.1
  · exact absurd c_25 hz.1
  · exact absurd c_25 hz.1
  · exact absurd c_25 hz.1
  · exact absurd c_25 hz.1
  · exact absurd c_25 hz.1
  · exact absurd c_25 hz.1
  · exact absurd c_25 hz.1
  · exact absurd c_25 hz.1
  · exact absurd c_25 hz.1
  · exact absurd c_25 hz.1
  · exact absurd c_25 hz.1
  · exact absurd c_25 hz.1
  · exact absurd c_25 hz.1
  · exact absurd c_25 hz.1
  · exact absurd c_25 hz.1
  · exact absurd c_25 hz.1
set_option maxHeartbeats 4000000 in
set_option maxRecDepth 100000 in
theorem lk_23_5 {p : Program} {l : Launch} {e : Env} {s : State} {m : MethodId} {below : List Frame} {meth : Method} {c : Code} {D : va_G} {kA : Nat → ClassId} {V : Nat → Nat} {b : Nat} {xs : Nat → Int32} {A : Nat → Prop} (hC : lw_C p l s m meth c b 8 xs D kA V A) (hA2 : ∀ q, A q → s.heap.size ≤ q) (h0 : Nat) (m0 : Nat) (o0 : Nat) (x0 : Nat) (x1 : Nat) (x2 : Nat) (x3 : Nat) (x4 : Nat) (x5 : Nat) (x6 : Nat) (x7 : Nat) (x8 : Nat) (y0 : List Value) (hq : ∀ k, k < 121 → k < y0.length) (hq9 : y0[9]? = some (.int 0)) (c_28 : ¬ (xs 2) < 0) (c_29 : ¬ 4 < (xs 2)) (c_30 : ¬ (xs 3) < 0) (c_31 : ¬ 4 < (xs 3)) (c_32 : ¬ (xs 1) < 0) (c_33 : ¬ (xs 1) ≤ 16) {H : Heap} {locs : List Loc} {ls : Array Slot} (hl : lv_has ls 8 [(0, .ref b), (1, .ref h0), (2, .ref m0), (3, .ref o0), (4, .int 0)]) (hS : va_S A s.heap H locs) (hP : va_P D vwCl [(m0, .inr (11, y0)), (h0, .inr (10, [.ref x0, .int 0, .ref x1, .ref x2, .ref x3, .ref x4, .ref x5, .ref x6, .ref x7, .ref x8, .int 0, .int 3000])), (o0, .inl (kA 1, 1, .inr (.inl (fun _ => 0))))] H) (hD : va_D A [(m0, .inr (11, y0)), (h0, .inr (10, [.ref x0, .int 0, .ref x1, .ref x2, .ref x3, .ref x4, .ref x5, .ref x6, .ref x7, .ref x8, .int 0, .int 3000])), (o0, .inl (kA 1, 1, .inr (.inl (fun _ => 0))))]) : W p l e room_1 s m #[Value.ref b] below meth c H locs 515 172799 (lw_Z below #[Value.ref b] s) (F0 m 1702 ls [.int 1]) := by
  have ⟨hst, hx, hb, hr, hml, hown, hts, hG, hX, hbl, hbA, hlocks, hE, hK, hA⟩ := hC
  refine lv_istore (lv' := [(5, .int 1), (0, .ref b), (1, .ref h0), (2, .ref m0), (3, .ref o0), (4, .int 0)]) hx hb dL_law_1702 hl (by decide) rfl (fun ls hl => ?_)
  refine lv_aload_n hx hb dL_law_1704 rfl (lv_at hl 3 rfl) ?_
  refine lv_aload_n hx hb dL_law_1705 rfl (lv_at hl 1 rfl) ?_
  refine lv_iload hx hb dL_law_1706 (lv_at hl 5 rfl) ?_
  refine lv_iconst (v := 1) hx hb dL_law_1708 (by decide) ?_
  refine lv_iadd hx hb dL_law_1709 ?_
  refine W.eq (g2 := F0 m 1710 ls [.int 1, .ref b, .ref m0]) rfl ?_
  refine va_sld hx hb hX hbl hbA hS (show vp_in 1 8 by unfold vp_in; decide) dL_law_1710 ?_
  refine W.eq (g2 := F0 m 1711 ls [.int (xs 1), .ref m0]) rfl ?_
  refine lv_aload_n hx hb dL_law_1711 rfl (lv_at hl 1 rfl) ?_
  refine lv_iload hx hb dL_law_1712 (lv_at hl 5 rfl) ?_
  refine lv_iconst (v := 2) hx hb dL_law_1714 (by decide) ?_
  refine lv_iadd hx hb dL_law_1715 ?_
  refine W.eq (g2 := F0 m 1716 ls [.int 2, .ref b, .int (xs 1), .ref m0]) rfl ?_
  refine va_sld hx hb hX hbl hbA hS (show vp_in 2 8 by unfold vp_in; decide) dL_law_1716 ?_
  refine W.eq (g2 := F0 m 1717 ls [.int (xs 2), .int (xs 1), .ref m0]) rfl ?_
  refine lv_aload_n hx hb dL_law_1717 rfl (lv_at hl 1 rfl) ?_
  refine lv_iload hx hb dL_law_1718 (lv_at hl 5 rfl) ?_
  refine lv_iconst (v := 3) hx hb dL_law_1720 (by decide) ?_
  refine lv_iadd hx hb dL_law_1721 ?_
  refine W.eq (g2 := F0 m 1722 ls [.int 3, .ref b, .int (xs 2), .int (xs 1), .ref m0]) rfl ?_
  refine va_sld hx hb hX hbl hbA hS (show vp_in 3 8 by unfold vp_in; decide) dL_law_1722 ?_
  refine W.eq (g2 := F0 m 1723 ls [.int (xs 3), .int (xs 2), .int (xs 1), .ref m0]) rfl ?_
  refine lv_aload_n hx hb dL_law_1723 rfl (lv_at hl 1 rfl) ?_
  refine lv_iload hx hb dL_law_1724 (lv_at hl 5 rfl) ?_
  refine lv_iconst (v := 4) hx hb dL_law_1726 (by decide) ?_
  refine lv_iadd hx hb dL_law_1727 ?_
  refine W.eq (g2 := F0 m 1728 ls [.int 4, .ref b, .int (xs 3), .int (xs 2), .int (xs 1), .ref m0]) rfl ?_
  refine va_sld hx hb hX hbl hbA hS (show vp_in 4 8 by unfold vp_in; decide) dL_law_1728 ?_
  refine W.eq (g2 := F0 m 1729 ls [.int (xs 4), .int (xs 3), .int (xs 2), .int (xs 1), .ref m0]) rfl ?_
  refine lv_i2l (v := (xs 4).toInt64) hx hb dL_law_1729 rfl ?_
  refine lv_bipush (v := 32) hx hb dL_law_1730 (by decide) ?_
  refine lv_lshl (v := ((xs 4).toInt64) <<< ((32 : Int32).toInt64 &&& 63)) hx hb dL_law_1732 rfl ?_
  refine lv_aload_n hx hb dL_law_1733 rfl (lv_at hl 1 rfl) ?_
  refine lv_iload hx hb dL_law_1734 (lv_at hl 5 rfl) ?_
  refine lv_iconst (v := 5) hx hb dL_law_1736 (by decide) ?_
  refine lv_iadd hx hb dL_law_1737 ?_
  refine W.eq (g2 := F0 m 1738 ls [.int 5, .ref b, .long (((xs 4).toInt64) <<< ((32 : Int32).toInt64 &&& 63)), .int (xs 3), .int (xs 2), .int (xs 1), .ref m0]) rfl ?_
  refine va_sld hx hb hX hbl hbA hS (show vp_in 5 8 by unfold vp_in; decide) dL_law_1738 ?_
  refine W.eq (g2 := F0 m 1739 ls [.int (xs 5), .long (((xs 4).toInt64) <<< ((32 : Int32).toInt64 &&& 63)), .int (xs 3), .int (xs 2), .int (xs 1), .ref m0]) rfl ?_
  refine lv_i2l (v := (xs 5).toInt64) hx hb dL_law_1739 rfl ?_
  refine lv_ldc2 (v := 4294967295) hx hb hown (hG _ gw_2764) dL_law_1740 ?_
  refine lv_land hx hb dL_law_1743 ?_
  refine lv_lor hx hb dL_law_1744 ?_
  refine lv_aload_n hx hb dL_law_1745 rfl (lv_at hl 1 rfl) ?_
  refine lv_iload hx hb dL_law_1746 (lv_at hl 5 rfl) ?_
  refine lv_bipush (v := 6) hx hb dL_law_1748 (by decide) ?_
  refine lv_iadd hx hb dL_law_1750 ?_
  refine W.eq (g2 := F0 m 1751 ls [.int 6, .ref b, .long ((((xs 4).toInt64) <<< ((32 : Int32).toInt64 &&& 63)) ||| (((xs 5).toInt64) &&& 4294967295)), .int (xs 3), .int (xs 2), .int (xs 1), .ref m0]) rfl ?_
  refine va_sld hx hb hX hbl hbA hS (show vp_in 6 8 by unfold vp_in; decide) dL_law_1751 ?_
  refine W.eq (g2 := F0 m 1752 ls [.int (xs 6), .long ((((xs 4).toInt64) <<< ((32 : Int32).toInt64 &&& 63)) ||| (((xs 5).toInt64) &&& 4294967295)), .int (xs 3), .int (xs 2), .int (xs 1), .ref m0]) rfl ?_
  refine lv_i2l (v := (xs 6).toInt64) hx hb dL_law_1752 rfl ?_
  refine lv_bipush (v := 32) hx hb dL_law_1753 (by decide) ?_
  refine lv_lshl (v := ((xs 6).toInt64) <<< ((32 : Int32).toInt64 &&& 63)) hx hb dL_law_1755 rfl ?_
  refine lv_aload_n hx hb dL_law_1756 rfl (lv_at hl 1 rfl) ?_
  refine lv_iload hx hb dL_law_1757 (lv_at hl 5 rfl) ?_
  refine lv_bipush (v := 7) hx hb dL_law_1759 (by decide) ?_
  refine lv_iadd hx hb dL_law_1761 ?_
  refine W.eq (g2 := F0 m 1762 ls [.int 7, .ref b, .long (((xs 6).toInt64) <<< ((32 : Int32).toInt64 &&& 63)), .long ((((xs 4).toInt64) <<< ((32 : Int32).toInt64 &&& 63)) ||| (((xs 5).toInt64) &&& 4294967295)), .int (xs 3), .int (xs 2), .int (xs 1), .ref m0]) rfl ?_
  refine va_sld hx hb hX hbl hbA hS (show vp_in 7 8 by unfold vp_in; decide) dL_law_1762 ?_
  refine W.eq (g2 := F0 m 1763 ls [.int (xs 7), .long (((xs 6).toInt64) <<< ((32 : Int32).toInt64 &&& 63)), .long ((((xs 4).toInt64) <<< ((32 : Int32).toInt64 &&& 63)) ||| (((xs 5).toInt64) &&& 4294967295)), .int (xs 3), .int (xs 2), .int (xs 1), .ref m0]) rfl ?_
  refine lv_i2l (v := (xs 7).toInt64) hx hb dL_law_1763 rfl ?_
  refine lv_ldc2 (v := 4294967295) hx hb hown (hG _ gw_2764) dL_law_1764 ?_
  refine lv_land hx hb dL_law_1767 ?_
  refine lv_lor hx hb dL_law_1768 ?_
  have hPc := hP.sub (ws' := [(m0, .inr (11, y0))]) [0] rfl
  have hDc := hD.sub (ws' := [(m0, .inr (11, y0))]) [0] (by decide) rfl
  have hFc := va_free (wc := [(m0, .inr (11, y0))]) hD hS hA [0] rfl
  refine va_calll (va_runV (As := [.int (xs 1), .int (xs 2), .int (xs 3), .long ((((xs 4).toInt64) <<< ((32 : Int32).toInt64 &&& 63)) ||| (((xs 5).toInt64) &&& 4294967295)), .long ((((xs 6).toInt64) <<< ((32 : Int32).toInt64 &&& 63)) ||| (((xs 7).toInt64) &&& 4294967295))]) (rest := []) ⟨hx, hb, hml, hown, hts⟩ (a155_X12_tell l  D kA V H.size m0 (xs 1) (xs 2) (xs 3) ((((xs 4).toInt64) <<< ((32 : Int32).toInt64 &&& 63)) ||| (((xs 5).toInt64) &&& 4294967295)) ((((xs 6).toInt64) <<< ((32 : Int32).toInt64 &&& 63)) ||| (((xs 7).toInt64) &&& 4294967295)) y0 (fun k hk => (hq k hk)) hq9) (cwV 5 hts (gw_V gw_2760 gw_2761 gw_2762 gw_16 gw_2763) rfl rfl rfl (by decide +kernel) ⟨(Nat.le_of_ble_eq_true rfl), (Nat.le_of_ble_eq_true rfl)⟩) ⟨aP.blind, va_recv hK hP (ci := 11) (q0 := 0) rfl rfl, aP.pre hE hS hPc hK hDc hFc⟩ rfl rfl hl.1 rfl (lv_room (Nat.le_of_ble_eq_true rfl)) dL_law_1769 ⟨(Nat.le_of_ble_eq_true rfl), (Nat.le_of_ble_eq_true rfl)⟩) hS (fun q _ h => hFc q h) hFc (fun r_100001 u t H1 locs ht hvm hw hB hz1 hk1 hS => ?_)
  obtain ⟨u_100002, rfl⟩ : ∃ z, z = u := ⟨u, rfl⟩
  obtain ⟨hP1, hD1⟩ := hB
  rw [ht] at hP1
  try dsimp only at hw hP1 hD1
  rcases hw with hz | hz | hz | hz | hz | hz | hz | hz | hz | hz | hz | hz | hz | hz | hz | hz | hz | hz | hz | hz | hz | hz | hz | hz | hz | hz | hz | hz | hz | hz | hz | hz | hz | hz | hz | hz | hz | hz | hz | hz | hz | hz
  · exact absurd hz.1 c_32
  · exact absurd hz.1 c_32
  · exact absurd hz.1 c_32
  · exact absurd hz.1 c_32
  · exact absurd hz.1 c_32
  · exact absurd hz.2.2.1 c_28
  · exact absurd hz.2.2.2.1 c_29
  · exact absurd hz.2.2.2.2.1 c_30
  · exact absurd hz.2.2.2.2.2.1 c_31
  · obtain ⟨c_100058, c_100059, c_100060, c_100061, c_100062, c_100063, w_100064, w_100065⟩ := hz
    subst w_100064
    subst w_100065
    obtain ⟨hP, hD⟩ := va_join (wr := [(h0, .inr (10, [.ref x0, .int 0, .ref x1, .ref x2, .ref x3, .ref x4, .ref x5, .ref x6, .ref x7, .ref x8, .int 0, .int 3000])), (o0, .inl (kA 1, 1, .inr (.inl (fun _ => 0))))]) (w1 := [(m0, .inr (11, y0.set 9 (.int 1)))]) hP hD [0] [1, 2] rfl rfl (by decide) (by decide) hk1 hFc hP1 hD1
    generalize H1 = H at hP hS ⊢
    have hP : va_P D vwCl [(h0, .inr (10, [.ref x0, .int 0, .ref x1, .ref x2, .ref x3, .ref x4, .ref x5, .ref x6, .ref x7, .ref x8, .int 0, .int 3000])), (o0, .inl (kA 1, 1, .inr (.inl (fun _ => 0)))), (m0, .inr (11, y0.set 9 (.int 1)))] H := hP
    have hD : va_D A [(h0, .inr (10, [.ref x0, .int 0, .ref x1, .ref x2, .ref x3, .ref x4, .ref x5, .ref x6, .ref x7, .ref x8, .int 0, .int 3000])), (o0, .inl (kA 1, 1, .inr (.inl (fun _ => 0)))), (m0, .inr (11, y0.set 9 (.int 1)))] := hD
    refine lv_lstore (lv' := [(6, .long 0), (5, .int 1), (0, .ref b), (1, .ref h0), (2, .ref m0), (3, .ref o0), (4, .int 0)]) hx hb dL_law_1772 hl (by decide) rfl (fun ls hl => ?_)
    refine lv_aload_n hx hb dL_law_1774 rfl (lv_at hl 4 rfl) ?_
    have hPc := hP.sub (ws' := [(m0, .inr (11, y0.set 9 (.int 1)))]) [2] rfl
    have hDc := hD.sub (ws' := [(m0, .inr (11, y0.set 9 (.int 1)))]) [2] (by decide) rfl
    have hFc := va_free (wc := [(m0, .inr (11, y0.set 9 (.int 1)))]) hD hS hA [2] rfl
    refine va_calli (va_runV (As := []) (rest := []) ⟨hx, hb, hml, hown, hts⟩ (a174_X12_thrown l  D kA V H.size m0 (y0.set 9 (.int 1)) (fun k hk => (by rw [List.length_set]; exact (hq k hk))) (List.getElem?_set_self (hq 9 (by decide)))) (cwV 0 hts (gw_V gw_1879 gw_1880 gw_1881 gw_16 gw_1882) rfl rfl rfl (by decide +kernel) ⟨(Nat.le_of_ble_eq_true rfl), (Nat.le_of_ble_eq_true rfl)⟩) ⟨aP.blind, va_recv hK hP (ci := 11) (q0 := 2) rfl rfl, aP.pre hE hS hPc hK hDc hFc⟩ rfl rfl hl.1 rfl (lv_room (Nat.le_of_ble_eq_true rfl)) dL_law_1775 ⟨(Nat.le_of_ble_eq_true rfl), (Nat.le_of_ble_eq_true rfl)⟩) hS (fun q _ h => hFc q h) hFc (fun r_100482 u t H1 locs ht hvm hw hB hz1 hk1 hS => ?_)
    obtain ⟨hP1, hD1⟩ := hB
    rw [ht] at hP1
    try dsimp only at hw hP1 hD1
    have w_100483 := hw
    subst w_100483
    obtain ⟨hP, hD⟩ := va_join (wr := [(h0, .inr (10, [.ref x0, .int 0, .ref x1, .ref x2, .ref x3, .ref x4, .ref x5, .ref x6, .ref x7, .ref x8, .int 0, .int 3000])), (o0, .inl (kA 1, 1, .inr (.inl (fun _ => 0))))]) (w1 := [(m0, .inr (11, (y0.set 9 (.int 1))))]) hP hD [2] [0, 1] rfl rfl (by decide) (by decide) hk1 hFc hP1 hD1
    generalize H1 = H at hP hS ⊢
    have hP : va_P D vwCl [(h0, .inr (10, [.ref x0, .int 0, .ref x1, .ref x2, .ref x3, .ref x4, .ref x5, .ref x6, .ref x7, .ref x8, .int 0, .int 3000])), (o0, .inl (kA 1, 1, .inr (.inl (fun _ => 0)))), (m0, .inr (11, (y0.set 9 (.int 1))))] H := hP
    have hD : va_D A [(h0, .inr (10, [.ref x0, .int 0, .ref x1, .ref x2, .ref x3, .ref x4, .ref x5, .ref x6, .ref x7, .ref x8, .int 0, .int 3000])), (o0, .inl (kA 1, 1, .inr (.inl (fun _ => 0)))), (m0, .inr (11, (y0.set 9 (.int 1))))] := hD
    refine lv_iload hx hb dL_law_1778 (lv_at hl 1 rfl) ?_
    refine lv_icmp_eq (tgt := 1785) hx hb dL_law_1780 (by decide) (fun c_100484 => ?_) (fun c_100484 => ?_)
    · skip
      refine lv_iload hx hb dL_law_1785 (lv_at hl 1 rfl) ?_
      refine lv_if_ne (tgt := 1801) hx hb dL_law_1787 (by decide) (fun c_100485 => ?_) (fun c_100485 => ?_)
      · skip
        refine lv_goto (tgt := 1804) hx hb dL_law_1801 (by decide) ?_
        exact lk_tail hC hA2 (lv_sub hl [2, 6] rfl) hS (Nat.le_of_ble_eq_true rfl) (Nat.le_of_ble_eq_true rfl)
      · exact absurd c_100485 (by decide)
    · exact absurd (by decide) c_100484
  · exact absurd (Int32.not_le.mp c_33) hz.2.1
  · exact absurd (Int32.not_le.mp c_33) hz.2.1
  · exact absurd (Int32.not_le.mp c_33) hz.2.1
  · exact absurd (Int32.not_le.mp c_33) hz.2.1
  · exact absurd (Int32.not_le.mp c_33) hz.2.1
  · exact absurd (Int32.not_le.mp c_33) hz.2.1
  · exact absurd (Int32.not_le.mp c_33) hz.2.1
  · exact absurd (Int32.not_le.mp c_33) hz.2.1
  · exact absurd (Int32.not_le.mp c_33) hz.2.1
  · exact absurd (Int32.not_le.mp c_33) hz.2.1
  · exact absurd (Int32.not_le.mp c_33) hz.2.1
  · exact absurd (Int32.not_le.mp c_33) hz.2.1
  · exact absurd (Int32.not_le.mp c_33) hz.2.1
  · exact absurd (Int32.not_le.mp c_33) hz.2.1
  · exact absurd (Int32.not_le.mp c_33) hz.2.1
  · exact absurd (Int32.not_le.mp c_33) hz.2.1
  · exact absurd (Int32.not_le.mp c_33) hz.2.1
  · exact absurd (Int32.not_le.mp c_33) hz.2.1
  · exact absurd (Int32.not_le.mp c_33) hz.2.1
  · exact absurd (Int32.not_le.mp c_33) hz.2.1
  · exact absurd (Int32.not_le.mp c_33) hz.2.1
  · exact absurd (Int32.not_le.mp c_33) hz.2.1
  · exact absurd (Int32.not_le.mp c_33) hz.2.1
  · exact absurd (Int32.not_le.mp c_33) hz.2.1
  · exact absurd (Int32.not_le.mp c_33) hz.2.1
  · exact absurd (Int32.not_le.mp c_33) hz.2.1
  · exact absurd (Int32.not_le.mp c_33) hz.2.1
  · exact absurd (Int32.not_le.mp c_33) hz.2.1
  · exact absurd (Int32.not_le.mp c_33) hz.2.1
  · exact absurd (Int32.not_le.mp c_33) hz.2.1
  · exact absurd (Int32.not_le.mp c_33) hz.2.1
  · exact absurd (Int32.not_le.mp c_33) hz.2.1
set_option maxHeartbeats 4000000 in
set_option maxRecDepth 100000 in
theorem lk_23_6 {p : Program} {l : Launch} {e : Env} {s : State} {m : MethodId} {below : List Frame} {meth : Method} {c : Code} {D : va_G} {kA : Nat → ClassId} {V : Nat → Nat} {b : Nat} {xs : Nat → Int32} {A : Nat → Prop} (hC : lw_C p l s m meth c b 8 xs D kA V A) (hA2 : ∀ q, A q → s.heap.size ≤ q) (h0 : Nat) (m0 : Nat) (o0 : Nat) (x0 : Nat) (x1 : Nat) (x2 : Nat) (x3 : Nat) (x4 : Nat) (x5 : Nat) (x6 : Nat) (x7 : Nat) (x8 : Nat) (y0 : List Value) (hq : ∀ k, k < 121 → k < y0.length) (hq9 : y0[9]? = some (.int 0)) (c_36 : ¬ (xs 2) < 0) (c_37 : ¬ 4 < (xs 2)) (c_38 : ¬ (xs 3) < 0) (c_39 : ¬ 4 < (xs 3)) (c_40 : ¬ (xs 1) < 0) (c_41 : (xs 1) ≤ 16) (c_42 : ¬ (xs 2) = 4) {H : Heap} {locs : List Loc} {ls : Array Slot} (hl : lv_has ls 8 [(0, .ref b), (1, .ref h0), (2, .ref m0), (3, .ref o0), (4, .int 0)]) (hS : va_S A s.heap H locs) (hP : va_P D vwCl [(m0, .inr (11, y0)), (h0, .inr (10, [.ref x0, .int 0, .ref x1, .ref x2, .ref x3, .ref x4, .ref x5, .ref x6, .ref x7, .ref x8, .int 0, .int 3000])), (o0, .inl (kA 1, 1, .inr (.inl (vp_updL (fun _ => 0) 0 (n_apply (xs 1) 0 (n_cut (xs 2) ((((xs 4).toInt64) <<< ((32 : Int32).toInt64 &&& 63)) ||| (((xs 5).toInt64) &&& 4294967295))) (n_cut (xs 3) ((((xs 6).toInt64) <<< ((32 : Int32).toInt64 &&& 63)) ||| (((xs 7).toInt64) &&& 4294967295))))))))] H) (hD : va_D A [(m0, .inr (11, y0)), (h0, .inr (10, [.ref x0, .int 0, .ref x1, .ref x2, .ref x3, .ref x4, .ref x5, .ref x6, .ref x7, .ref x8, .int 0, .int 3000])), (o0, .inl (kA 1, 1, .inr (.inl (vp_updL (fun _ => 0) 0 (n_apply (xs 1) 0 (n_cut (xs 2) ((((xs 4).toInt64) <<< ((32 : Int32).toInt64 &&& 63)) ||| (((xs 5).toInt64) &&& 4294967295))) (n_cut (xs 3) ((((xs 6).toInt64) <<< ((32 : Int32).toInt64 &&& 63)) ||| (((xs 7).toInt64) &&& 4294967295))))))))]) : W p l e room_1 s m #[Value.ref b] below meth c H locs 515 172799 (lw_Z below #[Value.ref b] s) (F0 m 1702 ls [.int 0]) := by
  have ⟨hst, hx, hb, hr, hml, hown, hts, hG, hX, hbl, hbA, hlocks, hE, hK, hA⟩ := hC
  refine lv_istore (lv' := [(5, .int 0), (0, .ref b), (1, .ref h0), (2, .ref m0), (3, .ref o0), (4, .int 0)]) hx hb dL_law_1702 hl (by decide) rfl (fun ls hl => ?_)
  refine lv_aload_n hx hb dL_law_1704 rfl (lv_at hl 3 rfl) ?_
  refine lv_aload_n hx hb dL_law_1705 rfl (lv_at hl 1 rfl) ?_
  refine lv_iload hx hb dL_law_1706 (lv_at hl 5 rfl) ?_
  refine lv_iconst (v := 1) hx hb dL_law_1708 (by decide) ?_
  refine lv_iadd hx hb dL_law_1709 ?_
  refine W.eq (g2 := F0 m 1710 ls [.int 1, .ref b, .ref m0]) rfl ?_
  refine va_sld hx hb hX hbl hbA hS (show vp_in 1 8 by unfold vp_in; decide) dL_law_1710 ?_
  refine W.eq (g2 := F0 m 1711 ls [.int (xs 1), .ref m0]) rfl ?_
  refine lv_aload_n hx hb dL_law_1711 rfl (lv_at hl 1 rfl) ?_
  refine lv_iload hx hb dL_law_1712 (lv_at hl 5 rfl) ?_
  refine lv_iconst (v := 2) hx hb dL_law_1714 (by decide) ?_
  refine lv_iadd hx hb dL_law_1715 ?_
  refine W.eq (g2 := F0 m 1716 ls [.int 2, .ref b, .int (xs 1), .ref m0]) rfl ?_
  refine va_sld hx hb hX hbl hbA hS (show vp_in 2 8 by unfold vp_in; decide) dL_law_1716 ?_
  refine W.eq (g2 := F0 m 1717 ls [.int (xs 2), .int (xs 1), .ref m0]) rfl ?_
  refine lv_aload_n hx hb dL_law_1717 rfl (lv_at hl 1 rfl) ?_
  refine lv_iload hx hb dL_law_1718 (lv_at hl 5 rfl) ?_
  refine lv_iconst (v := 3) hx hb dL_law_1720 (by decide) ?_
  refine lv_iadd hx hb dL_law_1721 ?_
  refine W.eq (g2 := F0 m 1722 ls [.int 3, .ref b, .int (xs 2), .int (xs 1), .ref m0]) rfl ?_
  refine va_sld hx hb hX hbl hbA hS (show vp_in 3 8 by unfold vp_in; decide) dL_law_1722 ?_
  refine W.eq (g2 := F0 m 1723 ls [.int (xs 3), .int (xs 2), .int (xs 1), .ref m0]) rfl ?_
  refine lv_aload_n hx hb dL_law_1723 rfl (lv_at hl 1 rfl) ?_
  refine lv_iload hx hb dL_law_1724 (lv_at hl 5 rfl) ?_
  refine lv_iconst (v := 4) hx hb dL_law_1726 (by decide) ?_
  refine lv_iadd hx hb dL_law_1727 ?_
  refine W.eq (g2 := F0 m 1728 ls [.int 4, .ref b, .int (xs 3), .int (xs 2), .int (xs 1), .ref m0]) rfl ?_
  refine va_sld hx hb hX hbl hbA hS (show vp_in 4 8 by unfold vp_in; decide) dL_law_1728 ?_
  refine W.eq (g2 := F0 m 1729 ls [.int (xs 4), .int (xs 3), .int (xs 2), .int (xs 1), .ref m0]) rfl ?_
  refine lv_i2l (v := (xs 4).toInt64) hx hb dL_law_1729 rfl ?_
  refine lv_bipush (v := 32) hx hb dL_law_1730 (by decide) ?_
  refine lv_lshl (v := ((xs 4).toInt64) <<< ((32 : Int32).toInt64 &&& 63)) hx hb dL_law_1732 rfl ?_
  refine lv_aload_n hx hb dL_law_1733 rfl (lv_at hl 1 rfl) ?_
  refine lv_iload hx hb dL_law_1734 (lv_at hl 5 rfl) ?_
  refine lv_iconst (v := 5) hx hb dL_law_1736 (by decide) ?_
  refine lv_iadd hx hb dL_law_1737 ?_
  refine W.eq (g2 := F0 m 1738 ls [.int 5, .ref b, .long (((xs 4).toInt64) <<< ((32 : Int32).toInt64 &&& 63)), .int (xs 3), .int (xs 2), .int (xs 1), .ref m0]) rfl ?_
  refine va_sld hx hb hX hbl hbA hS (show vp_in 5 8 by unfold vp_in; decide) dL_law_1738 ?_
  refine W.eq (g2 := F0 m 1739 ls [.int (xs 5), .long (((xs 4).toInt64) <<< ((32 : Int32).toInt64 &&& 63)), .int (xs 3), .int (xs 2), .int (xs 1), .ref m0]) rfl ?_
  refine lv_i2l (v := (xs 5).toInt64) hx hb dL_law_1739 rfl ?_
  refine lv_ldc2 (v := 4294967295) hx hb hown (hG _ gw_2764) dL_law_1740 ?_
  refine lv_land hx hb dL_law_1743 ?_
  refine lv_lor hx hb dL_law_1744 ?_
  refine lv_aload_n hx hb dL_law_1745 rfl (lv_at hl 1 rfl) ?_
  refine lv_iload hx hb dL_law_1746 (lv_at hl 5 rfl) ?_
  refine lv_bipush (v := 6) hx hb dL_law_1748 (by decide) ?_
  refine lv_iadd hx hb dL_law_1750 ?_
  refine W.eq (g2 := F0 m 1751 ls [.int 6, .ref b, .long ((((xs 4).toInt64) <<< ((32 : Int32).toInt64 &&& 63)) ||| (((xs 5).toInt64) &&& 4294967295)), .int (xs 3), .int (xs 2), .int (xs 1), .ref m0]) rfl ?_
  refine va_sld hx hb hX hbl hbA hS (show vp_in 6 8 by unfold vp_in; decide) dL_law_1751 ?_
  refine W.eq (g2 := F0 m 1752 ls [.int (xs 6), .long ((((xs 4).toInt64) <<< ((32 : Int32).toInt64 &&& 63)) ||| (((xs 5).toInt64) &&& 4294967295)), .int (xs 3), .int (xs 2), .int (xs 1), .ref m0]) rfl ?_
  refine lv_i2l (v := (xs 6).toInt64) hx hb dL_law_1752 rfl ?_
  refine lv_bipush (v := 32) hx hb dL_law_1753 (by decide) ?_
  refine lv_lshl (v := ((xs 6).toInt64) <<< ((32 : Int32).toInt64 &&& 63)) hx hb dL_law_1755 rfl ?_
  refine lv_aload_n hx hb dL_law_1756 rfl (lv_at hl 1 rfl) ?_
  refine lv_iload hx hb dL_law_1757 (lv_at hl 5 rfl) ?_
  refine lv_bipush (v := 7) hx hb dL_law_1759 (by decide) ?_
  refine lv_iadd hx hb dL_law_1761 ?_
  refine W.eq (g2 := F0 m 1762 ls [.int 7, .ref b, .long (((xs 6).toInt64) <<< ((32 : Int32).toInt64 &&& 63)), .long ((((xs 4).toInt64) <<< ((32 : Int32).toInt64 &&& 63)) ||| (((xs 5).toInt64) &&& 4294967295)), .int (xs 3), .int (xs 2), .int (xs 1), .ref m0]) rfl ?_
  refine va_sld hx hb hX hbl hbA hS (show vp_in 7 8 by unfold vp_in; decide) dL_law_1762 ?_
  refine W.eq (g2 := F0 m 1763 ls [.int (xs 7), .long (((xs 6).toInt64) <<< ((32 : Int32).toInt64 &&& 63)), .long ((((xs 4).toInt64) <<< ((32 : Int32).toInt64 &&& 63)) ||| (((xs 5).toInt64) &&& 4294967295)), .int (xs 3), .int (xs 2), .int (xs 1), .ref m0]) rfl ?_
  refine lv_i2l (v := (xs 7).toInt64) hx hb dL_law_1763 rfl ?_
  refine lv_ldc2 (v := 4294967295) hx hb hown (hG _ gw_2764) dL_law_1764 ?_
  refine lv_land hx hb dL_law_1767 ?_
  refine lv_lor hx hb dL_law_1768 ?_
  have hPc := hP.sub (ws' := [(m0, .inr (11, y0))]) [0] rfl
  have hDc := hD.sub (ws' := [(m0, .inr (11, y0))]) [0] (by decide) rfl
  have hFc := va_free (wc := [(m0, .inr (11, y0))]) hD hS hA [0] rfl
  refine va_calll (va_runV (As := [.int (xs 1), .int (xs 2), .int (xs 3), .long ((((xs 4).toInt64) <<< ((32 : Int32).toInt64 &&& 63)) ||| (((xs 5).toInt64) &&& 4294967295)), .long ((((xs 6).toInt64) <<< ((32 : Int32).toInt64 &&& 63)) ||| (((xs 7).toInt64) &&& 4294967295))]) (rest := []) ⟨hx, hb, hml, hown, hts⟩ (a155_X12_tell l  D kA V H.size m0 (xs 1) (xs 2) (xs 3) ((((xs 4).toInt64) <<< ((32 : Int32).toInt64 &&& 63)) ||| (((xs 5).toInt64) &&& 4294967295)) ((((xs 6).toInt64) <<< ((32 : Int32).toInt64 &&& 63)) ||| (((xs 7).toInt64) &&& 4294967295)) y0 (fun k hk => (hq k hk)) hq9) (cwV 5 hts (gw_V gw_2760 gw_2761 gw_2762 gw_16 gw_2763) rfl rfl rfl (by decide +kernel) ⟨(Nat.le_of_ble_eq_true rfl), (Nat.le_of_ble_eq_true rfl)⟩) ⟨aP.blind, va_recv hK hP (ci := 11) (q0 := 0) rfl rfl, aP.pre hE hS hPc hK hDc hFc⟩ rfl rfl hl.1 rfl (lv_room (Nat.le_of_ble_eq_true rfl)) dL_law_1769 ⟨(Nat.le_of_ble_eq_true rfl), (Nat.le_of_ble_eq_true rfl)⟩) hS (fun q _ h => hFc q h) hFc (fun r_100001 u t H1 locs ht hvm hw hB hz1 hk1 hS => ?_)
  obtain ⟨u_100002, rfl⟩ : ∃ z, z = u := ⟨u, rfl⟩
  obtain ⟨hP1, hD1⟩ := hB
  rw [ht] at hP1
  try dsimp only at hw hP1 hD1
  rcases hw with hz | hz | hz | hz | hz | hz | hz | hz | hz | hz | hz | hz | hz | hz | hz | hz | hz | hz | hz | hz | hz | hz | hz | hz | hz | hz | hz | hz | hz | hz | hz | hz | hz | hz | hz | hz | hz | hz | hz | hz | hz | hz
  · exact absurd hz.1 c_40
  · exact absurd hz.1 c_40
  · exact absurd hz.1 c_40
  · exact absurd hz.1 c_40
  · exact absurd hz.1 c_40
  · exact absurd hz.2.1 (Int32.not_lt.mpr c_41)
  · exact absurd hz.2.1 (Int32.not_lt.mpr c_41)
  · exact absurd hz.2.1 (Int32.not_lt.mpr c_41)
  · exact absurd hz.2.1 (Int32.not_lt.mpr c_41)
  · exact absurd hz.2.1 (Int32.not_lt.mpr c_41)
  · exact absurd hz.2.2.1 c_36
  · exact absurd hz.2.2.2.1 c_37
  · exact absurd hz.2.2.2.2.1 c_38
  · exact absurd hz.2.2.2.2.2.1 c_39
  · obtain ⟨c_100092, c_100093, c_100094, c_100095, c_100096, c_100097, c_100098, c_100099, c_100100, c_100101, c_100102, c_100103, c_100104, c_100105, c_100106, w_100107, w_100108⟩ := hz
    subst w_100107
    subst w_100108
    obtain ⟨hP, hD⟩ := va_join (wr := [(h0, .inr (10, [.ref x0, .int 0, .ref x1, .ref x2, .ref x3, .ref x4, .ref x5, .ref x6, .ref x7, .ref x8, .int 0, .int 3000])), (o0, .inl (kA 1, 1, .inr (.inl (vp_updL (fun _ => 0) 0 (n_apply (xs 1) 0 (n_cut (xs 2) ((((xs 4).toInt64) <<< ((32 : Int32).toInt64 &&& 63)) ||| (((xs 5).toInt64) &&& 4294967295))) (n_cut (xs 3) ((((xs 6).toInt64) <<< ((32 : Int32).toInt64 &&& 63)) ||| (((xs 7).toInt64) &&& 4294967295))))))))]) (w1 := [(m0, .inr (11, y0.set 9 (.int 0)))]) hP hD [0] [1, 2] rfl rfl (by decide) (by decide) hk1 hFc hP1 hD1
    generalize H1 = H at hP hS ⊢
    have hP : va_P D vwCl [(h0, .inr (10, [.ref x0, .int 0, .ref x1, .ref x2, .ref x3, .ref x4, .ref x5, .ref x6, .ref x7, .ref x8, .int 0, .int 3000])), (o0, .inl (kA 1, 1, .inr (.inl (vp_updL (fun _ => 0) 0 (n_apply (xs 1) 0 (n_cut (xs 2) ((((xs 4).toInt64) <<< ((32 : Int32).toInt64 &&& 63)) ||| (((xs 5).toInt64) &&& 4294967295))) (n_cut (xs 3) ((((xs 6).toInt64) <<< ((32 : Int32).toInt64 &&& 63)) ||| (((xs 7).toInt64) &&& 4294967295)))))))), (m0, .inr (11, y0.set 9 (.int 0)))] H := hP
    have hD : va_D A [(h0, .inr (10, [.ref x0, .int 0, .ref x1, .ref x2, .ref x3, .ref x4, .ref x5, .ref x6, .ref x7, .ref x8, .int 0, .int 3000])), (o0, .inl (kA 1, 1, .inr (.inl (vp_updL (fun _ => 0) 0 (n_apply (xs 1) 0 (n_cut (xs 2) ((((xs 4).toInt64) <<< ((32 : Int32).toInt64 &&& 63)) ||| (((xs 5).toInt64) &&& 4294967295))) (n_cut (xs 3) ((((xs 6).toInt64) <<< ((32 : Int32).toInt64 &&& 63)) ||| (((xs 7).toInt64) &&& 4294967295)))))))), (m0, .inr (11, y0.set 9 (.int 0)))] := hD
    refine lv_lstore (lv' := [(6, .long 0), (5, .int 0), (0, .ref b), (1, .ref h0), (2, .ref m0), (3, .ref o0), (4, .int 0)]) hx hb dL_law_1772 hl (by decide) rfl (fun ls hl => ?_)
    refine lv_aload_n hx hb dL_law_1774 rfl (lv_at hl 4 rfl) ?_
    have hPc := hP.sub (ws' := [(m0, .inr (11, y0.set 9 (.int 0)))]) [2] rfl
    have hDc := hD.sub (ws' := [(m0, .inr (11, y0.set 9 (.int 0)))]) [2] (by decide) rfl
    have hFc := va_free (wc := [(m0, .inr (11, y0.set 9 (.int 0)))]) hD hS hA [2] rfl
    refine va_calli (va_runV (As := []) (rest := []) ⟨hx, hb, hml, hown, hts⟩ (a94_X12_thrown l  D kA V H.size m0 (y0.set 9 (.int 0)) (fun k hk => (by rw [List.length_set]; exact (hq k hk))) (List.getElem?_set_self (hq 9 (by decide)))) (cwV 0 hts (gw_V gw_1879 gw_1880 gw_1881 gw_16 gw_1882) rfl rfl rfl (by decide +kernel) ⟨(Nat.le_of_ble_eq_true rfl), (Nat.le_of_ble_eq_true rfl)⟩) ⟨aP.blind, va_recv hK hP (ci := 11) (q0 := 2) rfl rfl, aP.pre hE hS hPc hK hDc hFc⟩ rfl rfl hl.1 rfl (lv_room (Nat.le_of_ble_eq_true rfl)) dL_law_1775 ⟨(Nat.le_of_ble_eq_true rfl), (Nat.le_of_ble_eq_true rfl)⟩) hS (fun q _ h => hFc q h) hFc (fun r_100482 u t H1 locs ht hvm hw hB hz1 hk1 hS => ?_)
    obtain ⟨hP1, hD1⟩ := hB
    rw [ht] at hP1
    try dsimp only at hw hP1 hD1
    have w_100483 := hw
    subst w_100483
    obtain ⟨hP, hD⟩ := va_join (wr := [(h0, .inr (10, [.ref x0, .int 0, .ref x1, .ref x2, .ref x3, .ref x4, .ref x5, .ref x6, .ref x7, .ref x8, .int 0, .int 3000])), (o0, .inl (kA 1, 1, .inr (.inl (vp_updL (fun _ => 0) 0 (n_apply (xs 1) 0 (n_cut (xs 2) ((((xs 4).toInt64) <<< ((32 : Int32).toInt64 &&& 63)) ||| (((xs 5).toInt64) &&& 4294967295))) (n_cut (xs 3) ((((xs 6).toInt64) <<< ((32 : Int32).toInt64 &&& 63)) ||| (((xs 7).toInt64) &&& 4294967295))))))))]) (w1 := [(m0, .inr (11, (y0.set 9 (.int 0))))]) hP hD [2] [0, 1] rfl rfl (by decide) (by decide) hk1 hFc hP1 hD1
    generalize H1 = H at hP hS ⊢
    have hP : va_P D vwCl [(h0, .inr (10, [.ref x0, .int 0, .ref x1, .ref x2, .ref x3, .ref x4, .ref x5, .ref x6, .ref x7, .ref x8, .int 0, .int 3000])), (o0, .inl (kA 1, 1, .inr (.inl (vp_updL (fun _ => 0) 0 (n_apply (xs 1) 0 (n_cut (xs 2) ((((xs 4).toInt64) <<< ((32 : Int32).toInt64 &&& 63)) ||| (((xs 5).toInt64) &&& 4294967295))) (n_cut (xs 3) ((((xs 6).toInt64) <<< ((32 : Int32).toInt64 &&& 63)) ||| (((xs 7).toInt64) &&& 4294967295)))))))), (m0, .inr (11, (y0.set 9 (.int 0))))] H := hP
    have hD : va_D A [(h0, .inr (10, [.ref x0, .int 0, .ref x1, .ref x2, .ref x3, .ref x4, .ref x5, .ref x6, .ref x7, .ref x8, .int 0, .int 3000])), (o0, .inl (kA 1, 1, .inr (.inl (vp_updL (fun _ => 0) 0 (n_apply (xs 1) 0 (n_cut (xs 2) ((((xs 4).toInt64) <<< ((32 : Int32).toInt64 &&& 63)) ||| (((xs 5).toInt64) &&& 4294967295))) (n_cut (xs 3) ((((xs 6).toInt64) <<< ((32 : Int32).toInt64 &&& 63)) ||| (((xs 7).toInt64) &&& 4294967295)))))))), (m0, .inr (11, (y0.set 9 (.int 0))))] := hD
    refine lv_iload hx hb dL_law_1778 (lv_at hl 1 rfl) ?_
    refine lv_icmp_eq (tgt := 1785) hx hb dL_law_1780 (by decide) (fun c_100484 => ?_) (fun c_100484 => ?_)
    · skip
      refine lv_iload hx hb dL_law_1785 (lv_at hl 1 rfl) ?_
      refine lv_if_ne (tgt := 1801) hx hb dL_law_1787 (by decide) (fun c_100485 => ?_) (fun c_100485 => ?_)
      · exact absurd (by decide) c_100485
      · skip
        refine lv_aload_n hx hb dL_law_1790 rfl (lv_at hl 5 rfl) ?_
        refine lv_iconst (v := 0) hx hb dL_law_1791 (by decide) ?_
        refine va_lald hx hb hK hP 1 1 rfl rfl (show vp_in 0 1 by unfold vp_in; decide) dL_law_1792 ?_
        refine W.eq (g2 := F0 m 1793 ls [.long (n_apply (xs 1) 0 (n_cut (xs 2) ((((xs 4).toInt64) <<< ((32 : Int32).toInt64 &&& 63)) ||| (((xs 5).toInt64) &&& 4294967295))) (n_cut (xs 3) ((((xs 6).toInt64) <<< ((32 : Int32).toInt64 &&& 63)) ||| (((xs 7).toInt64) &&& 4294967295))))]) rfl ?_
        refine lv_lload hx hb dL_law_1793 (lv_at hl 0 rfl) ?_
        refine W.lcmp hx hb dL_law_1795 ?_
        refine lv_if_eq (tgt := 1801) hx hb dL_law_1796 (by decide) (fun c_100486 => ?_) (fun c_100486 => ?_)
        · skip
          refine lv_goto (tgt := 1804) hx hb dL_law_1801 (by decide) ?_
          exact lk_tail hC hA2 (lv_sub hl [2, 6] rfl) hS (Nat.le_of_ble_eq_true rfl) (Nat.le_of_ble_eq_true rfl)
        · exact absurd ((lg_cmp_eq _ _).mpr (qx_h0 (qx_16 c_100103 c_100093 c_100104 c_100105) (by decide) c_100106)) c_100486
    · exact absurd (by decide) c_100484
  · obtain ⟨c_100109, c_100110, c_100111, c_100112, c_100113, c_100114, c_100115, c_100116, c_100117, c_100118, c_100119, c_100120, c_100121, c_100122, c_100123, w_100124, w_100125⟩ := hz
    subst w_100124
    subst w_100125
    obtain ⟨hP, hD⟩ := va_join (wr := [(h0, .inr (10, [.ref x0, .int 0, .ref x1, .ref x2, .ref x3, .ref x4, .ref x5, .ref x6, .ref x7, .ref x8, .int 0, .int 3000])), (o0, .inl (kA 1, 1, .inr (.inl (vp_updL (fun _ => 0) 0 (n_apply (xs 1) 0 (n_cut (xs 2) ((((xs 4).toInt64) <<< ((32 : Int32).toInt64 &&& 63)) ||| (((xs 5).toInt64) &&& 4294967295))) (n_cut (xs 3) ((((xs 6).toInt64) <<< ((32 : Int32).toInt64 &&& 63)) ||| (((xs 7).toInt64) &&& 4294967295))))))))]) (w1 := [(m0, .inr (11, y0.set 9 (.int 0)))]) hP hD [0] [1, 2] rfl rfl (by decide) (by decide) hk1 hFc hP1 hD1
    generalize H1 = H at hP hS ⊢
    have hP : va_P D vwCl [(h0, .inr (10, [.ref x0, .int 0, .ref x1, .ref x2, .ref x3, .ref x4, .ref x5, .ref x6, .ref x7, .ref x8, .int 0, .int 3000])), (o0, .inl (kA 1, 1, .inr (.inl (vp_updL (fun _ => 0) 0 (n_apply (xs 1) 0 (n_cut (xs 2) ((((xs 4).toInt64) <<< ((32 : Int32).toInt64 &&& 63)) ||| (((xs 5).toInt64) &&& 4294967295))) (n_cut (xs 3) ((((xs 6).toInt64) <<< ((32 : Int32).toInt64 &&& 63)) ||| (((xs 7).toInt64) &&& 4294967295)))))))), (m0, .inr (11, y0.set 9 (.int 0)))] H := hP
    have hD : va_D A [(h0, .inr (10, [.ref x0, .int 0, .ref x1, .ref x2, .ref x3, .ref x4, .ref x5, .ref x6, .ref x7, .ref x8, .int 0, .int 3000])), (o0, .inl (kA 1, 1, .inr (.inl (vp_updL (fun _ => 0) 0 (n_apply (xs 1) 0 (n_cut (xs 2) ((((xs 4).toInt64) <<< ((32 : Int32).toInt64 &&& 63)) ||| (((xs 5).toInt64) &&& 4294967295))) (n_cut (xs 3) ((((xs 6).toInt64) <<< ((32 : Int32).toInt64 &&& 63)) ||| (((xs 7).toInt64) &&& 4294967295)))))))), (m0, .inr (11, y0.set 9 (.int 0)))] := hD
    refine lv_lstore (lv' := [(6, .long 1), (5, .int 0), (0, .ref b), (1, .ref h0), (2, .ref m0), (3, .ref o0), (4, .int 0)]) hx hb dL_law_1772 hl (by decide) rfl (fun ls hl => ?_)
    refine lv_aload_n hx hb dL_law_1774 rfl (lv_at hl 4 rfl) ?_
    have hPc := hP.sub (ws' := [(m0, .inr (11, y0.set 9 (.int 0)))]) [2] rfl
    have hDc := hD.sub (ws' := [(m0, .inr (11, y0.set 9 (.int 0)))]) [2] (by decide) rfl
    have hFc := va_free (wc := [(m0, .inr (11, y0.set 9 (.int 0)))]) hD hS hA [2] rfl
    refine va_calli (va_runV (As := []) (rest := []) ⟨hx, hb, hml, hown, hts⟩ (a94_X12_thrown l  D kA V H.size m0 (y0.set 9 (.int 0)) (fun k hk => (by rw [List.length_set]; exact (hq k hk))) (List.getElem?_set_self (hq 9 (by decide)))) (cwV 0 hts (gw_V gw_1879 gw_1880 gw_1881 gw_16 gw_1882) rfl rfl rfl (by decide +kernel) ⟨(Nat.le_of_ble_eq_true rfl), (Nat.le_of_ble_eq_true rfl)⟩) ⟨aP.blind, va_recv hK hP (ci := 11) (q0 := 2) rfl rfl, aP.pre hE hS hPc hK hDc hFc⟩ rfl rfl hl.1 rfl (lv_room (Nat.le_of_ble_eq_true rfl)) dL_law_1775 ⟨(Nat.le_of_ble_eq_true rfl), (Nat.le_of_ble_eq_true rfl)⟩) hS (fun q _ h => hFc q h) hFc (fun r_100487 u t H1 locs ht hvm hw hB hz1 hk1 hS => ?_)
    obtain ⟨hP1, hD1⟩ := hB
    rw [ht] at hP1
    try dsimp only at hw hP1 hD1
    have w_100488 := hw
    subst w_100488
    obtain ⟨hP, hD⟩ := va_join (wr := [(h0, .inr (10, [.ref x0, .int 0, .ref x1, .ref x2, .ref x3, .ref x4, .ref x5, .ref x6, .ref x7, .ref x8, .int 0, .int 3000])), (o0, .inl (kA 1, 1, .inr (.inl (vp_updL (fun _ => 0) 0 (n_apply (xs 1) 0 (n_cut (xs 2) ((((xs 4).toInt64) <<< ((32 : Int32).toInt64 &&& 63)) ||| (((xs 5).toInt64) &&& 4294967295))) (n_cut (xs 3) ((((xs 6).toInt64) <<< ((32 : Int32).toInt64 &&& 63)) ||| (((xs 7).toInt64) &&& 4294967295))))))))]) (w1 := [(m0, .inr (11, (y0.set 9 (.int 0))))]) hP hD [2] [0, 1] rfl rfl (by decide) (by decide) hk1 hFc hP1 hD1
    generalize H1 = H at hP hS ⊢
    have hP : va_P D vwCl [(h0, .inr (10, [.ref x0, .int 0, .ref x1, .ref x2, .ref x3, .ref x4, .ref x5, .ref x6, .ref x7, .ref x8, .int 0, .int 3000])), (o0, .inl (kA 1, 1, .inr (.inl (vp_updL (fun _ => 0) 0 (n_apply (xs 1) 0 (n_cut (xs 2) ((((xs 4).toInt64) <<< ((32 : Int32).toInt64 &&& 63)) ||| (((xs 5).toInt64) &&& 4294967295))) (n_cut (xs 3) ((((xs 6).toInt64) <<< ((32 : Int32).toInt64 &&& 63)) ||| (((xs 7).toInt64) &&& 4294967295)))))))), (m0, .inr (11, (y0.set 9 (.int 0))))] H := hP
    have hD : va_D A [(h0, .inr (10, [.ref x0, .int 0, .ref x1, .ref x2, .ref x3, .ref x4, .ref x5, .ref x6, .ref x7, .ref x8, .int 0, .int 3000])), (o0, .inl (kA 1, 1, .inr (.inl (vp_updL (fun _ => 0) 0 (n_apply (xs 1) 0 (n_cut (xs 2) ((((xs 4).toInt64) <<< ((32 : Int32).toInt64 &&& 63)) ||| (((xs 5).toInt64) &&& 4294967295))) (n_cut (xs 3) ((((xs 6).toInt64) <<< ((32 : Int32).toInt64 &&& 63)) ||| (((xs 7).toInt64) &&& 4294967295)))))))), (m0, .inr (11, (y0.set 9 (.int 0))))] := hD
    refine lv_iload hx hb dL_law_1778 (lv_at hl 1 rfl) ?_
    refine lv_icmp_eq (tgt := 1785) hx hb dL_law_1780 (by decide) (fun c_100489 => ?_) (fun c_100489 => ?_)
    · skip
      refine lv_iload hx hb dL_law_1785 (lv_at hl 1 rfl) ?_
      refine lv_if_ne (tgt := 1801) hx hb dL_law_1787 (by decide) (fun c_100490 => ?_) (fun c_100490 => ?_)
      · exact absurd (by decide) c_100490
      · skip
        refine lv_aload_n hx hb dL_law_1790 rfl (lv_at hl 5 rfl) ?_
        refine lv_iconst (v := 0) hx hb dL_law_1791 (by decide) ?_
        refine va_lald hx hb hK hP 1 1 rfl rfl (show vp_in 0 1 by unfold vp_in; decide) dL_law_1792 ?_
        refine W.eq (g2 := F0 m 1793 ls [.long (n_apply (xs 1) 0 (n_cut (xs 2) ((((xs 4).toInt64) <<< ((32 : Int32).toInt64 &&& 63)) ||| (((xs 5).toInt64) &&& 4294967295))) (n_cut (xs 3) ((((xs 6).toInt64) <<< ((32 : Int32).toInt64 &&& 63)) ||| (((xs 7).toInt64) &&& 4294967295))))]) rfl ?_
        refine lv_lload hx hb dL_law_1793 (lv_at hl 0 rfl) ?_
        refine W.lcmp hx hb dL_law_1795 ?_
        refine lv_if_eq (tgt := 1801) hx hb dL_law_1796 (by decide) (fun c_100491 => ?_) (fun c_100491 => ?_)
        · skip
          refine lv_goto (tgt := 1804) hx hb dL_law_1801 (by decide) ?_
          exact lk_tail hC hA2 (lv_sub hl [2, 6] rfl) hS (Nat.le_of_ble_eq_true rfl) (Nat.le_of_ble_eq_true rfl)
        · exact absurd ((lg_cmp_eq _ _).mpr (qx_h1 (qx_16 c_100120 c_100110 c_100121 c_100122) (by decide) c_100123)) c_100491
    · exact absurd (by decide) c_100489
  · obtain ⟨c_100126, c_100127, c_100128, c_100129, c_100130, c_100131, c_100132, c_100133, c_100134, c_100135, c_100136, c_100137, c_100138, c_100139, w_100140, w_100141⟩ := hz
    subst w_100140
    subst w_100141
    obtain ⟨hP, hD⟩ := va_join (wr := [(h0, .inr (10, [.ref x0, .int 0, .ref x1, .ref x2, .ref x3, .ref x4, .ref x5, .ref x6, .ref x7, .ref x8, .int 0, .int 3000])), (o0, .inl (kA 1, 1, .inr (.inl (vp_updL (fun _ => 0) 0 (n_apply (xs 1) 0 (n_cut (xs 2) ((((xs 4).toInt64) <<< ((32 : Int32).toInt64 &&& 63)) ||| (((xs 5).toInt64) &&& 4294967295))) (n_cut (xs 3) ((((xs 6).toInt64) <<< ((32 : Int32).toInt64 &&& 63)) ||| (((xs 7).toInt64) &&& 4294967295))))))))]) (w1 := [(m0, .inr (11, y0.set 9 (.int 0)))]) hP hD [0] [1, 2] rfl rfl (by decide) (by decide) hk1 hFc hP1 hD1
    generalize H1 = H at hP hS ⊢
    have hP : va_P D vwCl [(h0, .inr (10, [.ref x0, .int 0, .ref x1, .ref x2, .ref x3, .ref x4, .ref x5, .ref x6, .ref x7, .ref x8, .int 0, .int 3000])), (o0, .inl (kA 1, 1, .inr (.inl (vp_updL (fun _ => 0) 0 (n_apply (xs 1) 0 (n_cut (xs 2) ((((xs 4).toInt64) <<< ((32 : Int32).toInt64 &&& 63)) ||| (((xs 5).toInt64) &&& 4294967295))) (n_cut (xs 3) ((((xs 6).toInt64) <<< ((32 : Int32).toInt64 &&& 63)) ||| (((xs 7).toInt64) &&& 4294967295)))))))), (m0, .inr (11, y0.set 9 (.int 0)))] H := hP
    have hD : va_D A [(h0, .inr (10, [.ref x0, .int 0, .ref x1, .ref x2, .ref x3, .ref x4, .ref x5, .ref x6, .ref x7, .ref x8, .int 0, .int 3000])), (o0, .inl (kA 1, 1, .inr (.inl (vp_updL (fun _ => 0) 0 (n_apply (xs 1) 0 (n_cut (xs 2) ((((xs 4).toInt64) <<< ((32 : Int32).toInt64 &&& 63)) ||| (((xs 5).toInt64) &&& 4294967295))) (n_cut (xs 3) ((((xs 6).toInt64) <<< ((32 : Int32).toInt64 &&& 63)) ||| (((xs 7).toInt64) &&& 4294967295)))))))), (m0, .inr (11, y0.set 9 (.int 0)))] := hD
    refine lv_lstore (lv' := [(6, .long ((n_cut (xs 2) ((((xs 4).toInt64) <<< ((32 : Int32).toInt64 &&& 63)) ||| (((xs 5).toInt64) &&& 4294967295))) ^^^ (-1))), (5, .int 0), (0, .ref b), (1, .ref h0), (2, .ref m0), (3, .ref o0), (4, .int 0)]) hx hb dL_law_1772 hl (by decide) rfl (fun ls hl => ?_)
    refine lv_aload_n hx hb dL_law_1774 rfl (lv_at hl 4 rfl) ?_
    have hPc := hP.sub (ws' := [(m0, .inr (11, y0.set 9 (.int 0)))]) [2] rfl
    have hDc := hD.sub (ws' := [(m0, .inr (11, y0.set 9 (.int 0)))]) [2] (by decide) rfl
    have hFc := va_free (wc := [(m0, .inr (11, y0.set 9 (.int 0)))]) hD hS hA [2] rfl
    refine va_calli (va_runV (As := []) (rest := []) ⟨hx, hb, hml, hown, hts⟩ (a94_X12_thrown l  D kA V H.size m0 (y0.set 9 (.int 0)) (fun k hk => (by rw [List.length_set]; exact (hq k hk))) (List.getElem?_set_self (hq 9 (by decide)))) (cwV 0 hts (gw_V gw_1879 gw_1880 gw_1881 gw_16 gw_1882) rfl rfl rfl (by decide +kernel) ⟨(Nat.le_of_ble_eq_true rfl), (Nat.le_of_ble_eq_true rfl)⟩) ⟨aP.blind, va_recv hK hP (ci := 11) (q0 := 2) rfl rfl, aP.pre hE hS hPc hK hDc hFc⟩ rfl rfl hl.1 rfl (lv_room (Nat.le_of_ble_eq_true rfl)) dL_law_1775 ⟨(Nat.le_of_ble_eq_true rfl), (Nat.le_of_ble_eq_true rfl)⟩) hS (fun q _ h => hFc q h) hFc (fun r_100492 u t H1 locs ht hvm hw hB hz1 hk1 hS => ?_)
    obtain ⟨hP1, hD1⟩ := hB
    rw [ht] at hP1
    try dsimp only at hw hP1 hD1
    have w_100493 := hw
    subst w_100493
    obtain ⟨hP, hD⟩ := va_join (wr := [(h0, .inr (10, [.ref x0, .int 0, .ref x1, .ref x2, .ref x3, .ref x4, .ref x5, .ref x6, .ref x7, .ref x8, .int 0, .int 3000])), (o0, .inl (kA 1, 1, .inr (.inl (vp_updL (fun _ => 0) 0 (n_apply (xs 1) 0 (n_cut (xs 2) ((((xs 4).toInt64) <<< ((32 : Int32).toInt64 &&& 63)) ||| (((xs 5).toInt64) &&& 4294967295))) (n_cut (xs 3) ((((xs 6).toInt64) <<< ((32 : Int32).toInt64 &&& 63)) ||| (((xs 7).toInt64) &&& 4294967295))))))))]) (w1 := [(m0, .inr (11, (y0.set 9 (.int 0))))]) hP hD [2] [0, 1] rfl rfl (by decide) (by decide) hk1 hFc hP1 hD1
    generalize H1 = H at hP hS ⊢
    have hP : va_P D vwCl [(h0, .inr (10, [.ref x0, .int 0, .ref x1, .ref x2, .ref x3, .ref x4, .ref x5, .ref x6, .ref x7, .ref x8, .int 0, .int 3000])), (o0, .inl (kA 1, 1, .inr (.inl (vp_updL (fun _ => 0) 0 (n_apply (xs 1) 0 (n_cut (xs 2) ((((xs 4).toInt64) <<< ((32 : Int32).toInt64 &&& 63)) ||| (((xs 5).toInt64) &&& 4294967295))) (n_cut (xs 3) ((((xs 6).toInt64) <<< ((32 : Int32).toInt64 &&& 63)) ||| (((xs 7).toInt64) &&& 4294967295)))))))), (m0, .inr (11, (y0.set 9 (.int 0))))] H := hP
    have hD : va_D A [(h0, .inr (10, [.ref x0, .int 0, .ref x1, .ref x2, .ref x3, .ref x4, .ref x5, .ref x6, .ref x7, .ref x8, .int 0, .int 3000])), (o0, .inl (kA 1, 1, .inr (.inl (vp_updL (fun _ => 0) 0 (n_apply (xs 1) 0 (n_cut (xs 2) ((((xs 4).toInt64) <<< ((32 : Int32).toInt64 &&& 63)) ||| (((xs 5).toInt64) &&& 4294967295))) (n_cut (xs 3) ((((xs 6).toInt64) <<< ((32 : Int32).toInt64 &&& 63)) ||| (((xs 7).toInt64) &&& 4294967295)))))))), (m0, .inr (11, (y0.set 9 (.int 0))))] := hD
    refine lv_iload hx hb dL_law_1778 (lv_at hl 1 rfl) ?_
    refine lv_icmp_eq (tgt := 1785) hx hb dL_law_1780 (by decide) (fun c_100494 => ?_) (fun c_100494 => ?_)
    · skip
      refine lv_iload hx hb dL_law_1785 (lv_at hl 1 rfl) ?_
      refine lv_if_ne (tgt := 1801) hx hb dL_law_1787 (by decide) (fun c_100495 => ?_) (fun c_100495 => ?_)
      · exact absurd (by decide) c_100495
      · skip
        refine lv_aload_n hx hb dL_law_1790 rfl (lv_at hl 5 rfl) ?_
        refine lv_iconst (v := 0) hx hb dL_law_1791 (by decide) ?_
        refine va_lald hx hb hK hP 1 1 rfl rfl (show vp_in 0 1 by unfold vp_in; decide) dL_law_1792 ?_
        refine W.eq (g2 := F0 m 1793 ls [.long (n_apply (xs 1) 0 (n_cut (xs 2) ((((xs 4).toInt64) <<< ((32 : Int32).toInt64 &&& 63)) ||| (((xs 5).toInt64) &&& 4294967295))) (n_cut (xs 3) ((((xs 6).toInt64) <<< ((32 : Int32).toInt64 &&& 63)) ||| (((xs 7).toInt64) &&& 4294967295))))]) rfl ?_
        refine lv_lload hx hb dL_law_1793 (lv_at hl 0 rfl) ?_
        refine W.lcmp hx hb dL_law_1795 ?_
        refine lv_if_eq (tgt := 1801) hx hb dL_law_1796 (by decide) (fun c_100496 => ?_) (fun c_100496 => ?_)
        · skip
          refine lv_goto (tgt := 1804) hx hb dL_law_1801 (by decide) ?_
          exact lk_tail hC hA2 (lv_sub hl [2, 6] rfl) hS (Nat.le_of_ble_eq_true rfl) (Nat.le_of_ble_eq_true rfl)
        · exact absurd ((lg_cmp_eq _ _).mpr (qx_g0 c_100139 (qx_Icut c_36 c_37 c_42 _))) c_100496
    · exact absurd (by decide) c_100494
  · obtain ⟨c_100142, c_100143, c_100144, c_100145, c_100146, c_100147, c_100148, c_100149, c_100150, c_100151, c_100152, c_100153, c_100154, w_100155, w_100156⟩ := hz
    subst w_100155
    subst w_100156
    obtain ⟨hP, hD⟩ := va_join (wr := [(h0, .inr (10, [.ref x0, .int 0, .ref x1, .ref x2, .ref x3, .ref x4, .ref x5, .ref x6, .ref x7, .ref x8, .int 0, .int 3000])), (o0, .inl (kA 1, 1, .inr (.inl (vp_updL (fun _ => 0) 0 (n_apply (xs 1) 0 (n_cut (xs 2) ((((xs 4).toInt64) <<< ((32 : Int32).toInt64 &&& 63)) ||| (((xs 5).toInt64) &&& 4294967295))) (n_cut (xs 3) ((((xs 6).toInt64) <<< ((32 : Int32).toInt64 &&& 63)) ||| (((xs 7).toInt64) &&& 4294967295))))))))]) (w1 := [(m0, .inr (11, y0.set 9 (.int 0)))]) hP hD [0] [1, 2] rfl rfl (by decide) (by decide) hk1 hFc hP1 hD1
    generalize H1 = H at hP hS ⊢
    have hP : va_P D vwCl [(h0, .inr (10, [.ref x0, .int 0, .ref x1, .ref x2, .ref x3, .ref x4, .ref x5, .ref x6, .ref x7, .ref x8, .int 0, .int 3000])), (o0, .inl (kA 1, 1, .inr (.inl (vp_updL (fun _ => 0) 0 (n_apply (xs 1) 0 (n_cut (xs 2) ((((xs 4).toInt64) <<< ((32 : Int32).toInt64 &&& 63)) ||| (((xs 5).toInt64) &&& 4294967295))) (n_cut (xs 3) ((((xs 6).toInt64) <<< ((32 : Int32).toInt64 &&& 63)) ||| (((xs 7).toInt64) &&& 4294967295)))))))), (m0, .inr (11, y0.set 9 (.int 0)))] H := hP
    have hD : va_D A [(h0, .inr (10, [.ref x0, .int 0, .ref x1, .ref x2, .ref x3, .ref x4, .ref x5, .ref x6, .ref x7, .ref x8, .int 0, .int 3000])), (o0, .inl (kA 1, 1, .inr (.inl (vp_updL (fun _ => 0) 0 (n_apply (xs 1) 0 (n_cut (xs 2) ((((xs 4).toInt64) <<< ((32 : Int32).toInt64 &&& 63)) ||| (((xs 5).toInt64) &&& 4294967295))) (n_cut (xs 3) ((((xs 6).toInt64) <<< ((32 : Int32).toInt64 &&& 63)) ||| (((xs 7).toInt64) &&& 4294967295)))))))), (m0, .inr (11, y0.set 9 (.int 0)))] := hD
    refine lv_lstore (lv' := [(6, .long (r_worked 0 (-(n_cut (xs 2) ((((xs 4).toInt64) <<< ((32 : Int32).toInt64 &&& 63)) ||| (((xs 5).toInt64) &&& 4294967295)))))), (5, .int 0), (0, .ref b), (1, .ref h0), (2, .ref m0), (3, .ref o0), (4, .int 0)]) hx hb dL_law_1772 hl (by decide) rfl (fun ls hl => ?_)
    refine lv_aload_n hx hb dL_law_1774 rfl (lv_at hl 4 rfl) ?_
    have hPc := hP.sub (ws' := [(m0, .inr (11, y0.set 9 (.int 0)))]) [2] rfl
    have hDc := hD.sub (ws' := [(m0, .inr (11, y0.set 9 (.int 0)))]) [2] (by decide) rfl
    have hFc := va_free (wc := [(m0, .inr (11, y0.set 9 (.int 0)))]) hD hS hA [2] rfl
    refine va_calli (va_runV (As := []) (rest := []) ⟨hx, hb, hml, hown, hts⟩ (a94_X12_thrown l  D kA V H.size m0 (y0.set 9 (.int 0)) (fun k hk => (by rw [List.length_set]; exact (hq k hk))) (List.getElem?_set_self (hq 9 (by decide)))) (cwV 0 hts (gw_V gw_1879 gw_1880 gw_1881 gw_16 gw_1882) rfl rfl rfl (by decide +kernel) ⟨(Nat.le_of_ble_eq_true rfl), (Nat.le_of_ble_eq_true rfl)⟩) ⟨aP.blind, va_recv hK hP (ci := 11) (q0 := 2) rfl rfl, aP.pre hE hS hPc hK hDc hFc⟩ rfl rfl hl.1 rfl (lv_room (Nat.le_of_ble_eq_true rfl)) dL_law_1775 ⟨(Nat.le_of_ble_eq_true rfl), (Nat.le_of_ble_eq_true rfl)⟩) hS (fun q _ h => hFc q h) hFc (fun r_100497 u t H1 locs ht hvm hw hB hz1 hk1 hS => ?_)
    obtain ⟨hP1, hD1⟩ := hB
    rw [ht] at hP1
    try dsimp only at hw hP1 hD1
    have w_100498 := hw
    subst w_100498
    obtain ⟨hP, hD⟩ := va_join (wr := [(h0, .inr (10, [.ref x0, .int 0, .ref x1, .ref x2, .ref x3, .ref x4, .ref x5, .ref x6, .ref x7, .ref x8, .int 0, .int 3000])), (o0, .inl (kA 1, 1, .inr (.inl (vp_updL (fun _ => 0) 0 (n_apply (xs 1) 0 (n_cut (xs 2) ((((xs 4).toInt64) <<< ((32 : Int32).toInt64 &&& 63)) ||| (((xs 5).toInt64) &&& 4294967295))) (n_cut (xs 3) ((((xs 6).toInt64) <<< ((32 : Int32).toInt64 &&& 63)) ||| (((xs 7).toInt64) &&& 4294967295))))))))]) (w1 := [(m0, .inr (11, (y0.set 9 (.int 0))))]) hP hD [2] [0, 1] rfl rfl (by decide) (by decide) hk1 hFc hP1 hD1
    generalize H1 = H at hP hS ⊢
    have hP : va_P D vwCl [(h0, .inr (10, [.ref x0, .int 0, .ref x1, .ref x2, .ref x3, .ref x4, .ref x5, .ref x6, .ref x7, .ref x8, .int 0, .int 3000])), (o0, .inl (kA 1, 1, .inr (.inl (vp_updL (fun _ => 0) 0 (n_apply (xs 1) 0 (n_cut (xs 2) ((((xs 4).toInt64) <<< ((32 : Int32).toInt64 &&& 63)) ||| (((xs 5).toInt64) &&& 4294967295))) (n_cut (xs 3) ((((xs 6).toInt64) <<< ((32 : Int32).toInt64 &&& 63)) ||| (((xs 7).toInt64) &&& 4294967295)))))))), (m0, .inr (11, (y0.set 9 (.int 0))))] H := hP
    have hD : va_D A [(h0, .inr (10, [.ref x0, .int 0, .ref x1, .ref x2, .ref x3, .ref x4, .ref x5, .ref x6, .ref x7, .ref x8, .int 0, .int 3000])), (o0, .inl (kA 1, 1, .inr (.inl (vp_updL (fun _ => 0) 0 (n_apply (xs 1) 0 (n_cut (xs 2) ((((xs 4).toInt64) <<< ((32 : Int32).toInt64 &&& 63)) ||| (((xs 5).toInt64) &&& 4294967295))) (n_cut (xs 3) ((((xs 6).toInt64) <<< ((32 : Int32).toInt64 &&& 63)) ||| (((xs 7).toInt64) &&& 4294967295)))))))), (m0, .inr (11, (y0.set 9 (.int 0))))] := hD
    refine lv_iload hx hb dL_law_1778 (lv_at hl 1 rfl) ?_
    refine lv_icmp_eq (tgt := 1785) hx hb dL_law_1780 (by decide) (fun c_100499 => ?_) (fun c_100499 => ?_)
    · skip
      refine lv_iload hx hb dL_law_1785 (lv_at hl 1 rfl) ?_
      refine lv_if_ne (tgt := 1801) hx hb dL_law_1787 (by decide) (fun c_100500 => ?_) (fun c_100500 => ?_)
      · exact absurd (by decide) c_100500
      · skip
        refine lv_aload_n hx hb dL_law_1790 rfl (lv_at hl 5 rfl) ?_
        refine lv_iconst (v := 0) hx hb dL_law_1791 (by decide) ?_
        refine va_lald hx hb hK hP 1 1 rfl rfl (show vp_in 0 1 by unfold vp_in; decide) dL_law_1792 ?_
        refine W.eq (g2 := F0 m 1793 ls [.long (n_apply (xs 1) 0 (n_cut (xs 2) ((((xs 4).toInt64) <<< ((32 : Int32).toInt64 &&& 63)) ||| (((xs 5).toInt64) &&& 4294967295))) (n_cut (xs 3) ((((xs 6).toInt64) <<< ((32 : Int32).toInt64 &&& 63)) ||| (((xs 7).toInt64) &&& 4294967295))))]) rfl ?_
        refine lv_lload hx hb dL_law_1793 (lv_at hl 0 rfl) ?_
        refine W.lcmp hx hb dL_law_1795 ?_
        refine lv_if_eq (tgt := 1801) hx hb dL_law_1796 (by decide) (fun c_100501 => ?_) (fun c_100501 => ?_)
        · skip
          refine lv_goto (tgt := 1804) hx hb dL_law_1801 (by decide) ?_
          exact lk_tail hC hA2 (lv_sub hl [2, 6] rfl) hS (Nat.le_of_ble_eq_true rfl) (Nat.le_of_ble_eq_true rfl)
        · exact absurd ((lg_cmp_eq _ _).mpr (qx_f0 c_100154)) c_100501
    · exact absurd (by decide) c_100499
  · obtain ⟨c_100157, c_100158, c_100159, c_100160, c_100161, c_100162, c_100163, c_100164, c_100165, c_100166, c_100167, c_100168, w_100169, w_100170⟩ := hz
    subst w_100169
    subst w_100170
    obtain ⟨hP, hD⟩ := va_join (wr := [(h0, .inr (10, [.ref x0, .int 0, .ref x1, .ref x2, .ref x3, .ref x4, .ref x5, .ref x6, .ref x7, .ref x8, .int 0, .int 3000])), (o0, .inl (kA 1, 1, .inr (.inl (vp_updL (fun _ => 0) 0 (n_apply (xs 1) 0 (n_cut (xs 2) ((((xs 4).toInt64) <<< ((32 : Int32).toInt64 &&& 63)) ||| (((xs 5).toInt64) &&& 4294967295))) (n_cut (xs 3) ((((xs 6).toInt64) <<< ((32 : Int32).toInt64 &&& 63)) ||| (((xs 7).toInt64) &&& 4294967295))))))))]) (w1 := [(m0, .inr (11, y0.set 9 (.int 0)))]) hP hD [0] [1, 2] rfl rfl (by decide) (by decide) hk1 hFc hP1 hD1
    generalize H1 = H at hP hS ⊢
    have hP : va_P D vwCl [(h0, .inr (10, [.ref x0, .int 0, .ref x1, .ref x2, .ref x3, .ref x4, .ref x5, .ref x6, .ref x7, .ref x8, .int 0, .int 3000])), (o0, .inl (kA 1, 1, .inr (.inl (vp_updL (fun _ => 0) 0 (n_apply (xs 1) 0 (n_cut (xs 2) ((((xs 4).toInt64) <<< ((32 : Int32).toInt64 &&& 63)) ||| (((xs 5).toInt64) &&& 4294967295))) (n_cut (xs 3) ((((xs 6).toInt64) <<< ((32 : Int32).toInt64 &&& 63)) ||| (((xs 7).toInt64) &&& 4294967295)))))))), (m0, .inr (11, y0.set 9 (.int 0)))] H := hP
    have hD : va_D A [(h0, .inr (10, [.ref x0, .int 0, .ref x1, .ref x2, .ref x3, .ref x4, .ref x5, .ref x6, .ref x7, .ref x8, .int 0, .int 3000])), (o0, .inl (kA 1, 1, .inr (.inl (vp_updL (fun _ => 0) 0 (n_apply (xs 1) 0 (n_cut (xs 2) ((((xs 4).toInt64) <<< ((32 : Int32).toInt64 &&& 63)) ||| (((xs 5).toInt64) &&& 4294967295))) (n_cut (xs 3) ((((xs 6).toInt64) <<< ((32 : Int32).toInt64 &&& 63)) ||| (((xs 7).toInt64) &&& 4294967295)))))))), (m0, .inr (11, y0.set 9 (.int 0)))] := hD
    refine lv_lstore (lv' := [(6, .long (r_special ((xs 1) - 6) 0 (n_cut (xs 2) ((((xs 4).toInt64) <<< ((32 : Int32).toInt64 &&& 63)) ||| (((xs 5).toInt64) &&& 4294967295))) 0)), (5, .int 0), (0, .ref b), (1, .ref h0), (2, .ref m0), (3, .ref o0), (4, .int 0)]) hx hb dL_law_1772 hl (by decide) rfl (fun ls hl => ?_)
    refine lv_aload_n hx hb dL_law_1774 rfl (lv_at hl 4 rfl) ?_
    have hPc := hP.sub (ws' := [(m0, .inr (11, y0.set 9 (.int 0)))]) [2] rfl
    have hDc := hD.sub (ws' := [(m0, .inr (11, y0.set 9 (.int 0)))]) [2] (by decide) rfl
    have hFc := va_free (wc := [(m0, .inr (11, y0.set 9 (.int 0)))]) hD hS hA [2] rfl
    refine va_calli (va_runV (As := []) (rest := []) ⟨hx, hb, hml, hown, hts⟩ (a94_X12_thrown l  D kA V H.size m0 (y0.set 9 (.int 0)) (fun k hk => (by rw [List.length_set]; exact (hq k hk))) (List.getElem?_set_self (hq 9 (by decide)))) (cwV 0 hts (gw_V gw_1879 gw_1880 gw_1881 gw_16 gw_1882) rfl rfl rfl (by decide +kernel) ⟨(Nat.le_of_ble_eq_true rfl), (Nat.le_of_ble_eq_true rfl)⟩) ⟨aP.blind, va_recv hK hP (ci := 11) (q0 := 2) rfl rfl, aP.pre hE hS hPc hK hDc hFc⟩ rfl rfl hl.1 rfl (lv_room (Nat.le_of_ble_eq_true rfl)) dL_law_1775 ⟨(Nat.le_of_ble_eq_true rfl), (Nat.le_of_ble_eq_true rfl)⟩) hS (fun q _ h => hFc q h) hFc (fun r_100502 u t H1 locs ht hvm hw hB hz1 hk1 hS => ?_)
    obtain ⟨hP1, hD1⟩ := hB
    rw [ht] at hP1
    try dsimp only at hw hP1 hD1
    have w_100503 := hw
    subst w_100503
    obtain ⟨hP, hD⟩ := va_join (wr := [(h0, .inr (10, [.ref x0, .int 0, .ref x1, .ref x2, .ref x3, .ref x4, .ref x5, .ref x6, .ref x7, .ref x8, .int 0, .int 3000])), (o0, .inl (kA 1, 1, .inr (.inl (vp_updL (fun _ => 0) 0 (n_apply (xs 1) 0 (n_cut (xs 2) ((((xs 4).toInt64) <<< ((32 : Int32).toInt64 &&& 63)) ||| (((xs 5).toInt64) &&& 4294967295))) (n_cut (xs 3) ((((xs 6).toInt64) <<< ((32 : Int32).toInt64 &&& 63)) ||| (((xs 7).toInt64) &&& 4294967295))))))))]) (w1 := [(m0, .inr (11, (y0.set 9 (.int 0))))]) hP hD [2] [0, 1] rfl rfl (by decide) (by decide) hk1 hFc hP1 hD1
    generalize H1 = H at hP hS ⊢
    have hP : va_P D vwCl [(h0, .inr (10, [.ref x0, .int 0, .ref x1, .ref x2, .ref x3, .ref x4, .ref x5, .ref x6, .ref x7, .ref x8, .int 0, .int 3000])), (o0, .inl (kA 1, 1, .inr (.inl (vp_updL (fun _ => 0) 0 (n_apply (xs 1) 0 (n_cut (xs 2) ((((xs 4).toInt64) <<< ((32 : Int32).toInt64 &&& 63)) ||| (((xs 5).toInt64) &&& 4294967295))) (n_cut (xs 3) ((((xs 6).toInt64) <<< ((32 : Int32).toInt64 &&& 63)) ||| (((xs 7).toInt64) &&& 4294967295)))))))), (m0, .inr (11, (y0.set 9 (.int 0))))] H := hP
    have hD : va_D A [(h0, .inr (10, [.ref x0, .int 0, .ref x1, .ref x2, .ref x3, .ref x4, .ref x5, .ref x6, .ref x7, .ref x8, .int 0, .int 3000])), (o0, .inl (kA 1, 1, .inr (.inl (vp_updL (fun _ => 0) 0 (n_apply (xs 1) 0 (n_cut (xs 2) ((((xs 4).toInt64) <<< ((32 : Int32).toInt64 &&& 63)) ||| (((xs 5).toInt64) &&& 4294967295))) (n_cut (xs 3) ((((xs 6).toInt64) <<< ((32 : Int32).toInt64 &&& 63)) ||| (((xs 7).toInt64) &&& 4294967295)))))))), (m0, .inr (11, (y0.set 9 (.int 0))))] := hD
    refine lv_iload hx hb dL_law_1778 (lv_at hl 1 rfl) ?_
    refine lv_icmp_eq (tgt := 1785) hx hb dL_law_1780 (by decide) (fun c_100504 => ?_) (fun c_100504 => ?_)
    · skip
      refine lv_iload hx hb dL_law_1785 (lv_at hl 1 rfl) ?_
      refine lv_if_ne (tgt := 1801) hx hb dL_law_1787 (by decide) (fun c_100505 => ?_) (fun c_100505 => ?_)
      · exact absurd (by decide) c_100505
      · skip
        refine lv_aload_n hx hb dL_law_1790 rfl (lv_at hl 5 rfl) ?_
        refine lv_iconst (v := 0) hx hb dL_law_1791 (by decide) ?_
        refine va_lald hx hb hK hP 1 1 rfl rfl (show vp_in 0 1 by unfold vp_in; decide) dL_law_1792 ?_
        refine W.eq (g2 := F0 m 1793 ls [.long (n_apply (xs 1) 0 (n_cut (xs 2) ((((xs 4).toInt64) <<< ((32 : Int32).toInt64 &&& 63)) ||| (((xs 5).toInt64) &&& 4294967295))) (n_cut (xs 3) ((((xs 6).toInt64) <<< ((32 : Int32).toInt64 &&& 63)) ||| (((xs 7).toInt64) &&& 4294967295))))]) rfl ?_
        refine lv_lload hx hb dL_law_1793 (lv_at hl 0 rfl) ?_
        refine W.lcmp hx hb dL_law_1795 ?_
        refine lv_if_eq (tgt := 1801) hx hb dL_law_1796 (by decide) (fun c_100506 => ?_) (fun c_100506 => ?_)
        · skip
          refine lv_goto (tgt := 1804) hx hb dL_law_1801 (by decide) ?_
          exact lk_tail hC hA2 (lv_sub hl [2, 6] rfl) hS (Nat.le_of_ble_eq_true rfl) (Nat.le_of_ble_eq_true rfl)
        · exact absurd ((lg_cmp_eq _ _).mpr (qx_e c_100166 c_100167 c_100168)) c_100506
    · exact absurd (by decide) c_100504
  · obtain ⟨c_100171, c_100172, c_100173, c_100174, c_100175, c_100176, c_100177, c_100178, c_100179, c_100180, c_100181, w_100182, w_100183⟩ := hz
    subst w_100182
    subst w_100183
    obtain ⟨hP, hD⟩ := va_join (wr := [(h0, .inr (10, [.ref x0, .int 0, .ref x1, .ref x2, .ref x3, .ref x4, .ref x5, .ref x6, .ref x7, .ref x8, .int 0, .int 3000])), (o0, .inl (kA 1, 1, .inr (.inl (vp_updL (fun _ => 0) 0 (n_apply (xs 1) 0 (n_cut (xs 2) ((((xs 4).toInt64) <<< ((32 : Int32).toInt64 &&& 63)) ||| (((xs 5).toInt64) &&& 4294967295))) (n_cut (xs 3) ((((xs 6).toInt64) <<< ((32 : Int32).toInt64 &&& 63)) ||| (((xs 7).toInt64) &&& 4294967295))))))))]) (w1 := [(m0, .inr (11, y0.set 9 (.int 0)))]) hP hD [0] [1, 2] rfl rfl (by decide) (by decide) hk1 hFc hP1 hD1
    generalize H1 = H at hP hS ⊢
    have hP : va_P D vwCl [(h0, .inr (10, [.ref x0, .int 0, .ref x1, .ref x2, .ref x3, .ref x4, .ref x5, .ref x6, .ref x7, .ref x8, .int 0, .int 3000])), (o0, .inl (kA 1, 1, .inr (.inl (vp_updL (fun _ => 0) 0 (n_apply (xs 1) 0 (n_cut (xs 2) ((((xs 4).toInt64) <<< ((32 : Int32).toInt64 &&& 63)) ||| (((xs 5).toInt64) &&& 4294967295))) (n_cut (xs 3) ((((xs 6).toInt64) <<< ((32 : Int32).toInt64 &&& 63)) ||| (((xs 7).toInt64) &&& 4294967295)))))))), (m0, .inr (11, y0.set 9 (.int 0)))] H := hP
    have hD : va_D A [(h0, .inr (10, [.ref x0, .int 0, .ref x1, .ref x2, .ref x3, .ref x4, .ref x5, .ref x6, .ref x7, .ref x8, .int 0, .int 3000])), (o0, .inl (kA 1, 1, .inr (.inl (vp_updL (fun _ => 0) 0 (n_apply (xs 1) 0 (n_cut (xs 2) ((((xs 4).toInt64) <<< ((32 : Int32).toInt64 &&& 63)) ||| (((xs 5).toInt64) &&& 4294967295))) (n_cut (xs 3) ((((xs 6).toInt64) <<< ((32 : Int32).toInt64 &&& 63)) ||| (((xs 7).toInt64) &&& 4294967295)))))))), (m0, .inr (11, y0.set 9 (.int 0)))] := hD
    refine lv_lstore (lv' := [(6, .long (r_special 0 0 (n_cut (xs 2) ((((xs 4).toInt64) <<< ((32 : Int32).toInt64 &&& 63)) ||| (((xs 5).toInt64) &&& 4294967295))) 0)), (5, .int 0), (0, .ref b), (1, .ref h0), (2, .ref m0), (3, .ref o0), (4, .int 0)]) hx hb dL_law_1772 hl (by decide) rfl (fun ls hl => ?_)
    refine lv_aload_n hx hb dL_law_1774 rfl (lv_at hl 4 rfl) ?_
    have hPc := hP.sub (ws' := [(m0, .inr (11, y0.set 9 (.int 0)))]) [2] rfl
    have hDc := hD.sub (ws' := [(m0, .inr (11, y0.set 9 (.int 0)))]) [2] (by decide) rfl
    have hFc := va_free (wc := [(m0, .inr (11, y0.set 9 (.int 0)))]) hD hS hA [2] rfl
    refine va_calli (va_runV (As := []) (rest := []) ⟨hx, hb, hml, hown, hts⟩ (a94_X12_thrown l  D kA V H.size m0 (y0.set 9 (.int 0)) (fun k hk => (by rw [List.length_set]; exact (hq k hk))) (List.getElem?_set_self (hq 9 (by decide)))) (cwV 0 hts (gw_V gw_1879 gw_1880 gw_1881 gw_16 gw_1882) rfl rfl rfl (by decide +kernel) ⟨(Nat.le_of_ble_eq_true rfl), (Nat.le_of_ble_eq_true rfl)⟩) ⟨aP.blind, va_recv hK hP (ci := 11) (q0 := 2) rfl rfl, aP.pre hE hS hPc hK hDc hFc⟩ rfl rfl hl.1 rfl (lv_room (Nat.le_of_ble_eq_true rfl)) dL_law_1775 ⟨(Nat.le_of_ble_eq_true rfl), (Nat.le_of_ble_eq_true rfl)⟩) hS (fun q _ h => hFc q h) hFc (fun r_100507 u t H1 locs ht hvm hw hB hz1 hk1 hS => ?_)
    obtain ⟨hP1, hD1⟩ := hB
    rw [ht] at hP1
    try dsimp only at hw hP1 hD1
    have w_100508 := hw
    subst w_100508
    obtain ⟨hP, hD⟩ := va_join (wr := [(h0, .inr (10, [.ref x0, .int 0, .ref x1, .ref x2, .ref x3, .ref x4, .ref x5, .ref x6, .ref x7, .ref x8, .int 0, .int 3000])), (o0, .inl (kA 1, 1, .inr (.inl (vp_updL (fun _ => 0) 0 (n_apply (xs 1) 0 (n_cut (xs 2) ((((xs 4).toInt64) <<< ((32 : Int32).toInt64 &&& 63)) ||| (((xs 5).toInt64) &&& 4294967295))) (n_cut (xs 3) ((((xs 6).toInt64) <<< ((32 : Int32).toInt64 &&& 63)) ||| (((xs 7).toInt64) &&& 4294967295))))))))]) (w1 := [(m0, .inr (11, (y0.set 9 (.int 0))))]) hP hD [2] [0, 1] rfl rfl (by decide) (by decide) hk1 hFc hP1 hD1
    generalize H1 = H at hP hS ⊢
    have hP : va_P D vwCl [(h0, .inr (10, [.ref x0, .int 0, .ref x1, .ref x2, .ref x3, .ref x4, .ref x5, .ref x6, .ref x7, .ref x8, .int 0, .int 3000])), (o0, .inl (kA 1, 1, .inr (.inl (vp_updL (fun _ => 0) 0 (n_apply (xs 1) 0 (n_cut (xs 2) ((((xs 4).toInt64) <<< ((32 : Int32).toInt64 &&& 63)) ||| (((xs 5).toInt64) &&& 4294967295))) (n_cut (xs 3) ((((xs 6).toInt64) <<< ((32 : Int32).toInt64 &&& 63)) ||| (((xs 7).toInt64) &&& 4294967295)))))))), (m0, .inr (11, (y0.set 9 (.int 0))))] H := hP
    have hD : va_D A [(h0, .inr (10, [.ref x0, .int 0, .ref x1, .ref x2, .ref x3, .ref x4, .ref x5, .ref x6, .ref x7, .ref x8, .int 0, .int 3000])), (o0, .inl (kA 1, 1, .inr (.inl (vp_updL (fun _ => 0) 0 (n_apply (xs 1) 0 (n_cut (xs 2) ((((xs 4).toInt64) <<< ((32 : Int32).toInt64 &&& 63)) ||| (((xs 5).toInt64) &&& 4294967295))) (n_cut (xs 3) ((((xs 6).toInt64) <<< ((32 : Int32).toInt64 &&& 63)) ||| (((xs 7).toInt64) &&& 4294967295)))))))), (m0, .inr (11, (y0.set 9 (.int 0))))] := hD
    refine lv_iload hx hb dL_law_1778 (lv_at hl 1 rfl) ?_
    refine lv_icmp_eq (tgt := 1785) hx hb dL_law_1780 (by decide) (fun c_100509 => ?_) (fun c_100509 => ?_)
    · skip
      refine lv_iload hx hb dL_law_1785 (lv_at hl 1 rfl) ?_
      refine lv_if_ne (tgt := 1801) hx hb dL_law_1787 (by decide) (fun c_100510 => ?_) (fun c_100510 => ?_)
      · exact absurd (by decide) c_100510
      · skip
        refine lv_aload_n hx hb dL_law_1790 rfl (lv_at hl 5 rfl) ?_
        refine lv_iconst (v := 0) hx hb dL_law_1791 (by decide) ?_
        refine va_lald hx hb hK hP 1 1 rfl rfl (show vp_in 0 1 by unfold vp_in; decide) dL_law_1792 ?_
        refine W.eq (g2 := F0 m 1793 ls [.long (n_apply (xs 1) 0 (n_cut (xs 2) ((((xs 4).toInt64) <<< ((32 : Int32).toInt64 &&& 63)) ||| (((xs 5).toInt64) &&& 4294967295))) (n_cut (xs 3) ((((xs 6).toInt64) <<< ((32 : Int32).toInt64 &&& 63)) ||| (((xs 7).toInt64) &&& 4294967295))))]) rfl ?_
        refine lv_lload hx hb dL_law_1793 (lv_at hl 0 rfl) ?_
        refine W.lcmp hx hb dL_law_1795 ?_
        refine lv_if_eq (tgt := 1801) hx hb dL_law_1796 (by decide) (fun c_100511 => ?_) (fun c_100511 => ?_)
        · skip
          refine lv_goto (tgt := 1804) hx hb dL_law_1801 (by decide) ?_
          exact lk_tail hC hA2 (lv_sub hl [2, 6] rfl) hS (Nat.le_of_ble_eq_true rfl) (Nat.le_of_ble_eq_true rfl)
        · exact absurd ((lg_cmp_eq _ _).mpr (qx_d c_100181)) c_100511
    · exact absurd (by decide) c_100509
  · obtain ⟨c_100184, c_100185, c_100186, c_100187, c_100188, c_100189, c_100190, c_100191, c_100192, c_100193, w_100194, w_100195⟩ := hz
    subst w_100194
    subst w_100195
    obtain ⟨hP, hD⟩ := va_join (wr := [(h0, .inr (10, [.ref x0, .int 0, .ref x1, .ref x2, .ref x3, .ref x4, .ref x5, .ref x6, .ref x7, .ref x8, .int 0, .int 3000])), (o0, .inl (kA 1, 1, .inr (.inl (vp_updL (fun _ => 0) 0 (n_apply (xs 1) 0 (n_cut (xs 2) ((((xs 4).toInt64) <<< ((32 : Int32).toInt64 &&& 63)) ||| (((xs 5).toInt64) &&& 4294967295))) (n_cut (xs 3) ((((xs 6).toInt64) <<< ((32 : Int32).toInt64 &&& 63)) ||| (((xs 7).toInt64) &&& 4294967295))))))))]) (w1 := [(m0, .inr (11, y0.set 9 (.int 0)))]) hP hD [0] [1, 2] rfl rfl (by decide) (by decide) hk1 hFc hP1 hD1
    generalize H1 = H at hP hS ⊢
    have hP : va_P D vwCl [(h0, .inr (10, [.ref x0, .int 0, .ref x1, .ref x2, .ref x3, .ref x4, .ref x5, .ref x6, .ref x7, .ref x8, .int 0, .int 3000])), (o0, .inl (kA 1, 1, .inr (.inl (vp_updL (fun _ => 0) 0 (n_apply (xs 1) 0 (n_cut (xs 2) ((((xs 4).toInt64) <<< ((32 : Int32).toInt64 &&& 63)) ||| (((xs 5).toInt64) &&& 4294967295))) (n_cut (xs 3) ((((xs 6).toInt64) <<< ((32 : Int32).toInt64 &&& 63)) ||| (((xs 7).toInt64) &&& 4294967295)))))))), (m0, .inr (11, y0.set 9 (.int 0)))] H := hP
    have hD : va_D A [(h0, .inr (10, [.ref x0, .int 0, .ref x1, .ref x2, .ref x3, .ref x4, .ref x5, .ref x6, .ref x7, .ref x8, .int 0, .int 3000])), (o0, .inl (kA 1, 1, .inr (.inl (vp_updL (fun _ => 0) 0 (n_apply (xs 1) 0 (n_cut (xs 2) ((((xs 4).toInt64) <<< ((32 : Int32).toInt64 &&& 63)) ||| (((xs 5).toInt64) &&& 4294967295))) (n_cut (xs 3) ((((xs 6).toInt64) <<< ((32 : Int32).toInt64 &&& 63)) ||| (((xs 7).toInt64) &&& 4294967295)))))))), (m0, .inr (11, y0.set 9 (.int 0)))] := hD
    refine lv_lstore (lv' := [(6, .long (r_special ((xs 1) - 5) 0 (n_cut (xs 2) ((((xs 4).toInt64) <<< ((32 : Int32).toInt64 &&& 63)) ||| (((xs 5).toInt64) &&& 4294967295))) (n_cut (xs 3) ((((xs 6).toInt64) <<< ((32 : Int32).toInt64 &&& 63)) ||| (((xs 7).toInt64) &&& 4294967295))))), (5, .int 0), (0, .ref b), (1, .ref h0), (2, .ref m0), (3, .ref o0), (4, .int 0)]) hx hb dL_law_1772 hl (by decide) rfl (fun ls hl => ?_)
    refine lv_aload_n hx hb dL_law_1774 rfl (lv_at hl 4 rfl) ?_
    have hPc := hP.sub (ws' := [(m0, .inr (11, y0.set 9 (.int 0)))]) [2] rfl
    have hDc := hD.sub (ws' := [(m0, .inr (11, y0.set 9 (.int 0)))]) [2] (by decide) rfl
    have hFc := va_free (wc := [(m0, .inr (11, y0.set 9 (.int 0)))]) hD hS hA [2] rfl
    refine va_calli (va_runV (As := []) (rest := []) ⟨hx, hb, hml, hown, hts⟩ (a94_X12_thrown l  D kA V H.size m0 (y0.set 9 (.int 0)) (fun k hk => (by rw [List.length_set]; exact (hq k hk))) (List.getElem?_set_self (hq 9 (by decide)))) (cwV 0 hts (gw_V gw_1879 gw_1880 gw_1881 gw_16 gw_1882) rfl rfl rfl (by decide +kernel) ⟨(Nat.le_of_ble_eq_true rfl), (Nat.le_of_ble_eq_true rfl)⟩) ⟨aP.blind, va_recv hK hP (ci := 11) (q0 := 2) rfl rfl, aP.pre hE hS hPc hK hDc hFc⟩ rfl rfl hl.1 rfl (lv_room (Nat.le_of_ble_eq_true rfl)) dL_law_1775 ⟨(Nat.le_of_ble_eq_true rfl), (Nat.le_of_ble_eq_true rfl)⟩) hS (fun q _ h => hFc q h) hFc (fun r_100512 u t H1 locs ht hvm hw hB hz1 hk1 hS => ?_)
    obtain ⟨hP1, hD1⟩ := hB
    rw [ht] at hP1
    try dsimp only at hw hP1 hD1
    have w_100513 := hw
    subst w_100513
    obtain ⟨hP, hD⟩ := va_join (wr := [(h0, .inr (10, [.ref x0, .int 0, .ref x1, .ref x2, .ref x3, .ref x4, .ref x5, .ref x6, .ref x7, .ref x8, .int 0, .int 3000])), (o0, .inl (kA 1, 1, .inr (.inl (vp_updL (fun _ => 0) 0 (n_apply (xs 1) 0 (n_cut (xs 2) ((((xs 4).toInt64) <<< ((32 : Int32).toInt64 &&& 63)) ||| (((xs 5).toInt64) &&& 4294967295))) (n_cut (xs 3) ((((xs 6).toInt64) <<< ((32 : Int32).toInt64 &&& 63)) ||| (((xs 7).toInt64) &&& 4294967295))))))))]) (w1 := [(m0, .inr (11, (y0.set 9 (.int 0))))]) hP hD [2] [0, 1] rfl rfl (by decide) (by decide) hk1 hFc hP1 hD1
    generalize H1 = H at hP hS ⊢
    have hP : va_P D vwCl [(h0, .inr (10, [.ref x0, .int 0, .ref x1, .ref x2, .ref x3, .ref x4, .ref x5, .ref x6, .ref x7, .ref x8, .int 0, .int 3000])), (o0, .inl (kA 1, 1, .inr (.inl (vp_updL (fun _ => 0) 0 (n_apply (xs 1) 0 (n_cut (xs 2) ((((xs 4).toInt64) <<< ((32 : Int32).toInt64 &&& 63)) ||| (((xs 5).toInt64) &&& 4294967295))) (n_cut (xs 3) ((((xs 6).toInt64) <<< ((32 : Int32).toInt64 &&& 63)) ||| (((xs 7).toInt64) &&& 4294967295)))))))), (m0, .inr (11, (y0.set 9 (.int 0))))] H := hP
    have hD : va_D A [(h0, .inr (10, [.ref x0, .int 0, .ref x1, .ref x2, .ref x3, .ref x4, .ref x5, .ref x6, .ref x7, .ref x8, .int 0, .int 3000])), (o0, .inl (kA 1, 1, .inr (.inl (vp_updL (fun _ => 0) 0 (n_apply (xs 1) 0 (n_cut (xs 2) ((((xs 4).toInt64) <<< ((32 : Int32).toInt64 &&& 63)) ||| (((xs 5).toInt64) &&& 4294967295))) (n_cut (xs 3) ((((xs 6).toInt64) <<< ((32 : Int32).toInt64 &&& 63)) ||| (((xs 7).toInt64) &&& 4294967295)))))))), (m0, .inr (11, (y0.set 9 (.int 0))))] := hD
    refine lv_iload hx hb dL_law_1778 (lv_at hl 1 rfl) ?_
    refine lv_icmp_eq (tgt := 1785) hx hb dL_law_1780 (by decide) (fun c_100514 => ?_) (fun c_100514 => ?_)
    · skip
      refine lv_iload hx hb dL_law_1785 (lv_at hl 1 rfl) ?_
      refine lv_if_ne (tgt := 1801) hx hb dL_law_1787 (by decide) (fun c_100515 => ?_) (fun c_100515 => ?_)
      · exact absurd (by decide) c_100515
      · skip
        refine lv_aload_n hx hb dL_law_1790 rfl (lv_at hl 5 rfl) ?_
        refine lv_iconst (v := 0) hx hb dL_law_1791 (by decide) ?_
        refine va_lald hx hb hK hP 1 1 rfl rfl (show vp_in 0 1 by unfold vp_in; decide) dL_law_1792 ?_
        refine W.eq (g2 := F0 m 1793 ls [.long (n_apply (xs 1) 0 (n_cut (xs 2) ((((xs 4).toInt64) <<< ((32 : Int32).toInt64 &&& 63)) ||| (((xs 5).toInt64) &&& 4294967295))) (n_cut (xs 3) ((((xs 6).toInt64) <<< ((32 : Int32).toInt64 &&& 63)) ||| (((xs 7).toInt64) &&& 4294967295))))]) rfl ?_
        refine lv_lload hx hb dL_law_1793 (lv_at hl 0 rfl) ?_
        refine W.lcmp hx hb dL_law_1795 ?_
        refine lv_if_eq (tgt := 1801) hx hb dL_law_1796 (by decide) (fun c_100516 => ?_) (fun c_100516 => ?_)
        · skip
          refine lv_goto (tgt := 1804) hx hb dL_law_1801 (by decide) ?_
          exact lk_tail hC hA2 (lv_sub hl [2, 6] rfl) hS (Nat.le_of_ble_eq_true rfl) (Nat.le_of_ble_eq_true rfl)
        · exact absurd ((lg_cmp_eq _ _).mpr (qx_c0 c_100192 c_100193)) c_100516
    · exact absurd (by decide) c_100514
  · obtain ⟨c_100196, c_100197, c_100198, c_100199, c_100200, c_100201, c_100202, c_100203, c_100204, w_100205, w_100206⟩ := hz
    subst w_100205
    subst w_100206
    obtain ⟨hP, hD⟩ := va_join (wr := [(h0, .inr (10, [.ref x0, .int 0, .ref x1, .ref x2, .ref x3, .ref x4, .ref x5, .ref x6, .ref x7, .ref x8, .int 0, .int 3000])), (o0, .inl (kA 1, 1, .inr (.inl (vp_updL (fun _ => 0) 0 (n_apply (xs 1) 0 (n_cut (xs 2) ((((xs 4).toInt64) <<< ((32 : Int32).toInt64 &&& 63)) ||| (((xs 5).toInt64) &&& 4294967295))) (n_cut (xs 3) ((((xs 6).toInt64) <<< ((32 : Int32).toInt64 &&& 63)) ||| (((xs 7).toInt64) &&& 4294967295))))))))]) (w1 := [(m0, .inr (11, y0.set 9 (.int 0)))]) hP hD [0] [1, 2] rfl rfl (by decide) (by decide) hk1 hFc hP1 hD1
    generalize H1 = H at hP hS ⊢
    have hP : va_P D vwCl [(h0, .inr (10, [.ref x0, .int 0, .ref x1, .ref x2, .ref x3, .ref x4, .ref x5, .ref x6, .ref x7, .ref x8, .int 0, .int 3000])), (o0, .inl (kA 1, 1, .inr (.inl (vp_updL (fun _ => 0) 0 (n_apply (xs 1) 0 (n_cut (xs 2) ((((xs 4).toInt64) <<< ((32 : Int32).toInt64 &&& 63)) ||| (((xs 5).toInt64) &&& 4294967295))) (n_cut (xs 3) ((((xs 6).toInt64) <<< ((32 : Int32).toInt64 &&& 63)) ||| (((xs 7).toInt64) &&& 4294967295)))))))), (m0, .inr (11, y0.set 9 (.int 0)))] H := hP
    have hD : va_D A [(h0, .inr (10, [.ref x0, .int 0, .ref x1, .ref x2, .ref x3, .ref x4, .ref x5, .ref x6, .ref x7, .ref x8, .int 0, .int 3000])), (o0, .inl (kA 1, 1, .inr (.inl (vp_updL (fun _ => 0) 0 (n_apply (xs 1) 0 (n_cut (xs 2) ((((xs 4).toInt64) <<< ((32 : Int32).toInt64 &&& 63)) ||| (((xs 5).toInt64) &&& 4294967295))) (n_cut (xs 3) ((((xs 6).toInt64) <<< ((32 : Int32).toInt64 &&& 63)) ||| (((xs 7).toInt64) &&& 4294967295)))))))), (m0, .inr (11, y0.set 9 (.int 0)))] := hD
    refine lv_lstore (lv' := [(6, .long (r_special ((xs 1) - 5) 1 (n_cut (xs 2) ((((xs 4).toInt64) <<< ((32 : Int32).toInt64 &&& 63)) ||| (((xs 5).toInt64) &&& 4294967295))) (n_cut (xs 3) ((((xs 6).toInt64) <<< ((32 : Int32).toInt64 &&& 63)) ||| (((xs 7).toInt64) &&& 4294967295))))), (5, .int 0), (0, .ref b), (1, .ref h0), (2, .ref m0), (3, .ref o0), (4, .int 0)]) hx hb dL_law_1772 hl (by decide) rfl (fun ls hl => ?_)
    refine lv_aload_n hx hb dL_law_1774 rfl (lv_at hl 4 rfl) ?_
    have hPc := hP.sub (ws' := [(m0, .inr (11, y0.set 9 (.int 0)))]) [2] rfl
    have hDc := hD.sub (ws' := [(m0, .inr (11, y0.set 9 (.int 0)))]) [2] (by decide) rfl
    have hFc := va_free (wc := [(m0, .inr (11, y0.set 9 (.int 0)))]) hD hS hA [2] rfl
    refine va_calli (va_runV (As := []) (rest := []) ⟨hx, hb, hml, hown, hts⟩ (a94_X12_thrown l  D kA V H.size m0 (y0.set 9 (.int 0)) (fun k hk => (by rw [List.length_set]; exact (hq k hk))) (List.getElem?_set_self (hq 9 (by decide)))) (cwV 0 hts (gw_V gw_1879 gw_1880 gw_1881 gw_16 gw_1882) rfl rfl rfl (by decide +kernel) ⟨(Nat.le_of_ble_eq_true rfl), (Nat.le_of_ble_eq_true rfl)⟩) ⟨aP.blind, va_recv hK hP (ci := 11) (q0 := 2) rfl rfl, aP.pre hE hS hPc hK hDc hFc⟩ rfl rfl hl.1 rfl (lv_room (Nat.le_of_ble_eq_true rfl)) dL_law_1775 ⟨(Nat.le_of_ble_eq_true rfl), (Nat.le_of_ble_eq_true rfl)⟩) hS (fun q _ h => hFc q h) hFc (fun r_100517 u t H1 locs ht hvm hw hB hz1 hk1 hS => ?_)
    obtain ⟨hP1, hD1⟩ := hB
    rw [ht] at hP1
    try dsimp only at hw hP1 hD1
    have w_100518 := hw
    subst w_100518
    obtain ⟨hP, hD⟩ := va_join (wr := [(h0, .inr (10, [.ref x0, .int 0, .ref x1, .ref x2, .ref x3, .ref x4, .ref x5, .ref x6, .ref x7, .ref x8, .int 0, .int 3000])), (o0, .inl (kA 1, 1, .inr (.inl (vp_updL (fun _ => 0) 0 (n_apply (xs 1) 0 (n_cut (xs 2) ((((xs 4).toInt64) <<< ((32 : Int32).toInt64 &&& 63)) ||| (((xs 5).toInt64) &&& 4294967295))) (n_cut (xs 3) ((((xs 6).toInt64) <<< ((32 : Int32).toInt64 &&& 63)) ||| (((xs 7).toInt64) &&& 4294967295))))))))]) (w1 := [(m0, .inr (11, (y0.set 9 (.int 0))))]) hP hD [2] [0, 1] rfl rfl (by decide) (by decide) hk1 hFc hP1 hD1
    generalize H1 = H at hP hS ⊢
    have hP : va_P D vwCl [(h0, .inr (10, [.ref x0, .int 0, .ref x1, .ref x2, .ref x3, .ref x4, .ref x5, .ref x6, .ref x7, .ref x8, .int 0, .int 3000])), (o0, .inl (kA 1, 1, .inr (.inl (vp_updL (fun _ => 0) 0 (n_apply (xs 1) 0 (n_cut (xs 2) ((((xs 4).toInt64) <<< ((32 : Int32).toInt64 &&& 63)) ||| (((xs 5).toInt64) &&& 4294967295))) (n_cut (xs 3) ((((xs 6).toInt64) <<< ((32 : Int32).toInt64 &&& 63)) ||| (((xs 7).toInt64) &&& 4294967295)))))))), (m0, .inr (11, (y0.set 9 (.int 0))))] H := hP
    have hD : va_D A [(h0, .inr (10, [.ref x0, .int 0, .ref x1, .ref x2, .ref x3, .ref x4, .ref x5, .ref x6, .ref x7, .ref x8, .int 0, .int 3000])), (o0, .inl (kA 1, 1, .inr (.inl (vp_updL (fun _ => 0) 0 (n_apply (xs 1) 0 (n_cut (xs 2) ((((xs 4).toInt64) <<< ((32 : Int32).toInt64 &&& 63)) ||| (((xs 5).toInt64) &&& 4294967295))) (n_cut (xs 3) ((((xs 6).toInt64) <<< ((32 : Int32).toInt64 &&& 63)) ||| (((xs 7).toInt64) &&& 4294967295)))))))), (m0, .inr (11, (y0.set 9 (.int 0))))] := hD
    refine lv_iload hx hb dL_law_1778 (lv_at hl 1 rfl) ?_
    refine lv_icmp_eq (tgt := 1785) hx hb dL_law_1780 (by decide) (fun c_100519 => ?_) (fun c_100519 => ?_)
    · skip
      refine lv_iload hx hb dL_law_1785 (lv_at hl 1 rfl) ?_
      refine lv_if_ne (tgt := 1801) hx hb dL_law_1787 (by decide) (fun c_100520 => ?_) (fun c_100520 => ?_)
      · exact absurd (by decide) c_100520
      · skip
        refine lv_aload_n hx hb dL_law_1790 rfl (lv_at hl 5 rfl) ?_
        refine lv_iconst (v := 0) hx hb dL_law_1791 (by decide) ?_
        refine va_lald hx hb hK hP 1 1 rfl rfl (show vp_in 0 1 by unfold vp_in; decide) dL_law_1792 ?_
        refine W.eq (g2 := F0 m 1793 ls [.long (n_apply (xs 1) 0 (n_cut (xs 2) ((((xs 4).toInt64) <<< ((32 : Int32).toInt64 &&& 63)) ||| (((xs 5).toInt64) &&& 4294967295))) (n_cut (xs 3) ((((xs 6).toInt64) <<< ((32 : Int32).toInt64 &&& 63)) ||| (((xs 7).toInt64) &&& 4294967295))))]) rfl ?_
        refine lv_lload hx hb dL_law_1793 (lv_at hl 0 rfl) ?_
        refine W.lcmp hx hb dL_law_1795 ?_
        refine lv_if_eq (tgt := 1801) hx hb dL_law_1796 (by decide) (fun c_100521 => ?_) (fun c_100521 => ?_)
        · skip
          refine lv_goto (tgt := 1804) hx hb dL_law_1801 (by decide) ?_
          exact lk_tail hC hA2 (lv_sub hl [2, 6] rfl) hS (Nat.le_of_ble_eq_true rfl) (Nat.le_of_ble_eq_true rfl)
        · exact absurd ((lg_cmp_eq _ _).mpr (qx_b c_100203 c_100204)) c_100521
    · exact absurd (by decide) c_100519
  · obtain ⟨c_100207, c_100208, c_100209, c_100210, c_100211, c_100212, c_100213, c_100214, c_100215, c_100216, c_100217, c_100218, c_100219, w_100220, w_100221⟩ := hz
    subst w_100220
    subst w_100221
    obtain ⟨hP, hD⟩ := va_join (wr := [(h0, .inr (10, [.ref x0, .int 0, .ref x1, .ref x2, .ref x3, .ref x4, .ref x5, .ref x6, .ref x7, .ref x8, .int 0, .int 3000])), (o0, .inl (kA 1, 1, .inr (.inl (vp_updL (fun _ => 0) 0 (n_apply (xs 1) 0 (n_cut (xs 2) ((((xs 4).toInt64) <<< ((32 : Int32).toInt64 &&& 63)) ||| (((xs 5).toInt64) &&& 4294967295))) (n_cut (xs 3) ((((xs 6).toInt64) <<< ((32 : Int32).toInt64 &&& 63)) ||| (((xs 7).toInt64) &&& 4294967295))))))))]) (w1 := [(m0, .inr (11, y0.set 9 (.int 0)))]) hP hD [0] [1, 2] rfl rfl (by decide) (by decide) hk1 hFc hP1 hD1
    generalize H1 = H at hP hS ⊢
    have hP : va_P D vwCl [(h0, .inr (10, [.ref x0, .int 0, .ref x1, .ref x2, .ref x3, .ref x4, .ref x5, .ref x6, .ref x7, .ref x8, .int 0, .int 3000])), (o0, .inl (kA 1, 1, .inr (.inl (vp_updL (fun _ => 0) 0 (n_apply (xs 1) 0 (n_cut (xs 2) ((((xs 4).toInt64) <<< ((32 : Int32).toInt64 &&& 63)) ||| (((xs 5).toInt64) &&& 4294967295))) (n_cut (xs 3) ((((xs 6).toInt64) <<< ((32 : Int32).toInt64 &&& 63)) ||| (((xs 7).toInt64) &&& 4294967295)))))))), (m0, .inr (11, y0.set 9 (.int 0)))] H := hP
    have hD : va_D A [(h0, .inr (10, [.ref x0, .int 0, .ref x1, .ref x2, .ref x3, .ref x4, .ref x5, .ref x6, .ref x7, .ref x8, .int 0, .int 3000])), (o0, .inl (kA 1, 1, .inr (.inl (vp_updL (fun _ => 0) 0 (n_apply (xs 1) 0 (n_cut (xs 2) ((((xs 4).toInt64) <<< ((32 : Int32).toInt64 &&& 63)) ||| (((xs 5).toInt64) &&& 4294967295))) (n_cut (xs 3) ((((xs 6).toInt64) <<< ((32 : Int32).toInt64 &&& 63)) ||| (((xs 7).toInt64) &&& 4294967295)))))))), (m0, .inr (11, y0.set 9 (.int 0)))] := hD
    refine lv_lstore (lv' := [(6, .long (r_two 220 1 (n_cut (xs 2) ((((xs 4).toInt64) <<< ((32 : Int32).toInt64 &&& 63)) ||| (((xs 5).toInt64) &&& 4294967295))) (n_cut (xs 3) ((((xs 6).toInt64) <<< ((32 : Int32).toInt64 &&& 63)) ||| (((xs 7).toInt64) &&& 4294967295))))), (5, .int 0), (0, .ref b), (1, .ref h0), (2, .ref m0), (3, .ref o0), (4, .int 0)]) hx hb dL_law_1772 hl (by decide) rfl (fun ls hl => ?_)
    refine lv_aload_n hx hb dL_law_1774 rfl (lv_at hl 4 rfl) ?_
    have hPc := hP.sub (ws' := [(m0, .inr (11, y0.set 9 (.int 0)))]) [2] rfl
    have hDc := hD.sub (ws' := [(m0, .inr (11, y0.set 9 (.int 0)))]) [2] (by decide) rfl
    have hFc := va_free (wc := [(m0, .inr (11, y0.set 9 (.int 0)))]) hD hS hA [2] rfl
    refine va_calli (va_runV (As := []) (rest := []) ⟨hx, hb, hml, hown, hts⟩ (a94_X12_thrown l  D kA V H.size m0 (y0.set 9 (.int 0)) (fun k hk => (by rw [List.length_set]; exact (hq k hk))) (List.getElem?_set_self (hq 9 (by decide)))) (cwV 0 hts (gw_V gw_1879 gw_1880 gw_1881 gw_16 gw_1882) rfl rfl rfl (by decide +kernel) ⟨(Nat.le_of_ble_eq_true rfl), (Nat.le_of_ble_eq_true rfl)⟩) ⟨aP.blind, va_recv hK hP (ci := 11) (q0 := 2) rfl rfl, aP.pre hE hS hPc hK hDc hFc⟩ rfl rfl hl.1 rfl (lv_room (Nat.le_of_ble_eq_true rfl)) dL_law_1775 ⟨(Nat.le_of_ble_eq_true rfl), (Nat.le_of_ble_eq_true rfl)⟩) hS (fun q _ h => hFc q h) hFc (fun r_100522 u t H1 locs ht hvm hw hB hz1 hk1 hS => ?_)
    obtain ⟨hP1, hD1⟩ := hB
    rw [ht] at hP1
    try dsimp only at hw hP1 hD1
    have w_100523 := hw
    subst w_100523
    obtain ⟨hP, hD⟩ := va_join (wr := [(h0, .inr (10, [.ref x0, .int 0, .ref x1, .ref x2, .ref x3, .ref x4, .ref x5, .ref x6, .ref x7, .ref x8, .int 0, .int 3000])), (o0, .inl (kA 1, 1, .inr (.inl (vp_updL (fun _ => 0) 0 (n_apply (xs 1) 0 (n_cut (xs 2) ((((xs 4).toInt64) <<< ((32 : Int32).toInt64 &&& 63)) ||| (((xs 5).toInt64) &&& 4294967295))) (n_cut (xs 3) ((((xs 6).toInt64) <<< ((32 : Int32).toInt64 &&& 63)) ||| (((xs 7).toInt64) &&& 4294967295))))))))]) (w1 := [(m0, .inr (11, (y0.set 9 (.int 0))))]) hP hD [2] [0, 1] rfl rfl (by decide) (by decide) hk1 hFc hP1 hD1
    generalize H1 = H at hP hS ⊢
    have hP : va_P D vwCl [(h0, .inr (10, [.ref x0, .int 0, .ref x1, .ref x2, .ref x3, .ref x4, .ref x5, .ref x6, .ref x7, .ref x8, .int 0, .int 3000])), (o0, .inl (kA 1, 1, .inr (.inl (vp_updL (fun _ => 0) 0 (n_apply (xs 1) 0 (n_cut (xs 2) ((((xs 4).toInt64) <<< ((32 : Int32).toInt64 &&& 63)) ||| (((xs 5).toInt64) &&& 4294967295))) (n_cut (xs 3) ((((xs 6).toInt64) <<< ((32 : Int32).toInt64 &&& 63)) ||| (((xs 7).toInt64) &&& 4294967295)))))))), (m0, .inr (11, (y0.set 9 (.int 0))))] H := hP
    have hD : va_D A [(h0, .inr (10, [.ref x0, .int 0, .ref x1, .ref x2, .ref x3, .ref x4, .ref x5, .ref x6, .ref x7, .ref x8, .int 0, .int 3000])), (o0, .inl (kA 1, 1, .inr (.inl (vp_updL (fun _ => 0) 0 (n_apply (xs 1) 0 (n_cut (xs 2) ((((xs 4).toInt64) <<< ((32 : Int32).toInt64 &&& 63)) ||| (((xs 5).toInt64) &&& 4294967295))) (n_cut (xs 3) ((((xs 6).toInt64) <<< ((32 : Int32).toInt64 &&& 63)) ||| (((xs 7).toInt64) &&& 4294967295)))))))), (m0, .inr (11, (y0.set 9 (.int 0))))] := hD
    refine lv_iload hx hb dL_law_1778 (lv_at hl 1 rfl) ?_
    refine lv_icmp_eq (tgt := 1785) hx hb dL_law_1780 (by decide) (fun c_100524 => ?_) (fun c_100524 => ?_)
    · skip
      refine lv_iload hx hb dL_law_1785 (lv_at hl 1 rfl) ?_
      refine lv_if_ne (tgt := 1801) hx hb dL_law_1787 (by decide) (fun c_100525 => ?_) (fun c_100525 => ?_)
      · exact absurd (by decide) c_100525
      · skip
        refine lv_aload_n hx hb dL_law_1790 rfl (lv_at hl 5 rfl) ?_
        refine lv_iconst (v := 0) hx hb dL_law_1791 (by decide) ?_
        refine va_lald hx hb hK hP 1 1 rfl rfl (show vp_in 0 1 by unfold vp_in; decide) dL_law_1792 ?_
        refine W.eq (g2 := F0 m 1793 ls [.long (n_apply (xs 1) 0 (n_cut (xs 2) ((((xs 4).toInt64) <<< ((32 : Int32).toInt64 &&& 63)) ||| (((xs 5).toInt64) &&& 4294967295))) (n_cut (xs 3) ((((xs 6).toInt64) <<< ((32 : Int32).toInt64 &&& 63)) ||| (((xs 7).toInt64) &&& 4294967295))))]) rfl ?_
        refine lv_lload hx hb dL_law_1793 (lv_at hl 0 rfl) ?_
        refine W.lcmp hx hb dL_law_1795 ?_
        refine lv_if_eq (tgt := 1801) hx hb dL_law_1796 (by decide) (fun c_100526 => ?_) (fun c_100526 => ?_)
        · skip
          refine lv_goto (tgt := 1804) hx hb dL_law_1801 (by decide) ?_
          exact lk_tail hC hA2 (lv_sub hl [2, 6] rfl) hS (Nat.le_of_ble_eq_true rfl) (Nat.le_of_ble_eq_true rfl)
        · exact absurd ((lg_cmp_eq _ _).mpr (qx_a c_40 c_100214 (by unfold q_cmp; rw [if_neg c_100215, if_neg c_100216, if_neg c_100217, if_neg c_100218, if_neg c_100219]))) c_100526
    · exact absurd (by decide) c_100524
  · obtain ⟨c_100222, c_100223, c_100224, c_100225, c_100226, c_100227, c_100228, c_100229, c_100230, c_100231, c_100232, c_100233, c_100234, w_100235, w_100236⟩ := hz
    subst w_100235
    subst w_100236
    obtain ⟨hP, hD⟩ := va_join (wr := [(h0, .inr (10, [.ref x0, .int 0, .ref x1, .ref x2, .ref x3, .ref x4, .ref x5, .ref x6, .ref x7, .ref x8, .int 0, .int 3000])), (o0, .inl (kA 1, 1, .inr (.inl (vp_updL (fun _ => 0) 0 (n_apply (xs 1) 0 (n_cut (xs 2) ((((xs 4).toInt64) <<< ((32 : Int32).toInt64 &&& 63)) ||| (((xs 5).toInt64) &&& 4294967295))) (n_cut (xs 3) ((((xs 6).toInt64) <<< ((32 : Int32).toInt64 &&& 63)) ||| (((xs 7).toInt64) &&& 4294967295))))))))]) (w1 := [(m0, .inr (11, y0.set 9 (.int 0)))]) hP hD [0] [1, 2] rfl rfl (by decide) (by decide) hk1 hFc hP1 hD1
    generalize H1 = H at hP hS ⊢
    have hP : va_P D vwCl [(h0, .inr (10, [.ref x0, .int 0, .ref x1, .ref x2, .ref x3, .ref x4, .ref x5, .ref x6, .ref x7, .ref x8, .int 0, .int 3000])), (o0, .inl (kA 1, 1, .inr (.inl (vp_updL (fun _ => 0) 0 (n_apply (xs 1) 0 (n_cut (xs 2) ((((xs 4).toInt64) <<< ((32 : Int32).toInt64 &&& 63)) ||| (((xs 5).toInt64) &&& 4294967295))) (n_cut (xs 3) ((((xs 6).toInt64) <<< ((32 : Int32).toInt64 &&& 63)) ||| (((xs 7).toInt64) &&& 4294967295)))))))), (m0, .inr (11, y0.set 9 (.int 0)))] H := hP
    have hD : va_D A [(h0, .inr (10, [.ref x0, .int 0, .ref x1, .ref x2, .ref x3, .ref x4, .ref x5, .ref x6, .ref x7, .ref x8, .int 0, .int 3000])), (o0, .inl (kA 1, 1, .inr (.inl (vp_updL (fun _ => 0) 0 (n_apply (xs 1) 0 (n_cut (xs 2) ((((xs 4).toInt64) <<< ((32 : Int32).toInt64 &&& 63)) ||| (((xs 5).toInt64) &&& 4294967295))) (n_cut (xs 3) ((((xs 6).toInt64) <<< ((32 : Int32).toInt64 &&& 63)) ||| (((xs 7).toInt64) &&& 4294967295)))))))), (m0, .inr (11, y0.set 9 (.int 0)))] := hD
    refine lv_lstore (lv' := [(6, .long (r_two 239 1 (n_cut (xs 2) ((((xs 4).toInt64) <<< ((32 : Int32).toInt64 &&& 63)) ||| (((xs 5).toInt64) &&& 4294967295))) (n_cut (xs 3) ((((xs 6).toInt64) <<< ((32 : Int32).toInt64 &&& 63)) ||| (((xs 7).toInt64) &&& 4294967295))))), (5, .int 0), (0, .ref b), (1, .ref h0), (2, .ref m0), (3, .ref o0), (4, .int 0)]) hx hb dL_law_1772 hl (by decide) rfl (fun ls hl => ?_)
    refine lv_aload_n hx hb dL_law_1774 rfl (lv_at hl 4 rfl) ?_
    have hPc := hP.sub (ws' := [(m0, .inr (11, y0.set 9 (.int 0)))]) [2] rfl
    have hDc := hD.sub (ws' := [(m0, .inr (11, y0.set 9 (.int 0)))]) [2] (by decide) rfl
    have hFc := va_free (wc := [(m0, .inr (11, y0.set 9 (.int 0)))]) hD hS hA [2] rfl
    refine va_calli (va_runV (As := []) (rest := []) ⟨hx, hb, hml, hown, hts⟩ (a94_X12_thrown l  D kA V H.size m0 (y0.set 9 (.int 0)) (fun k hk => (by rw [List.length_set]; exact (hq k hk))) (List.getElem?_set_self (hq 9 (by decide)))) (cwV 0 hts (gw_V gw_1879 gw_1880 gw_1881 gw_16 gw_1882) rfl rfl rfl (by decide +kernel) ⟨(Nat.le_of_ble_eq_true rfl), (Nat.le_of_ble_eq_true rfl)⟩) ⟨aP.blind, va_recv hK hP (ci := 11) (q0 := 2) rfl rfl, aP.pre hE hS hPc hK hDc hFc⟩ rfl rfl hl.1 rfl (lv_room (Nat.le_of_ble_eq_true rfl)) dL_law_1775 ⟨(Nat.le_of_ble_eq_true rfl), (Nat.le_of_ble_eq_true rfl)⟩) hS (fun q _ h => hFc q h) hFc (fun r_100527 u t H1 locs ht hvm hw hB hz1 hk1 hS => ?_)
    obtain ⟨hP1, hD1⟩ := hB
    rw [ht] at hP1
    try dsimp only at hw hP1 hD1
    have w_100528 := hw
    subst w_100528
    obtain ⟨hP, hD⟩ := va_join (wr := [(h0, .inr (10, [.ref x0, .int 0, .ref x1, .ref x2, .ref x3, .ref x4, .ref x5, .ref x6, .ref x7, .ref x8, .int 0, .int 3000])), (o0, .inl (kA 1, 1, .inr (.inl (vp_updL (fun _ => 0) 0 (n_apply (xs 1) 0 (n_cut (xs 2) ((((xs 4).toInt64) <<< ((32 : Int32).toInt64 &&& 63)) ||| (((xs 5).toInt64) &&& 4294967295))) (n_cut (xs 3) ((((xs 6).toInt64) <<< ((32 : Int32).toInt64 &&& 63)) ||| (((xs 7).toInt64) &&& 4294967295))))))))]) (w1 := [(m0, .inr (11, (y0.set 9 (.int 0))))]) hP hD [2] [0, 1] rfl rfl (by decide) (by decide) hk1 hFc hP1 hD1
    generalize H1 = H at hP hS ⊢
    have hP : va_P D vwCl [(h0, .inr (10, [.ref x0, .int 0, .ref x1, .ref x2, .ref x3, .ref x4, .ref x5, .ref x6, .ref x7, .ref x8, .int 0, .int 3000])), (o0, .inl (kA 1, 1, .inr (.inl (vp_updL (fun _ => 0) 0 (n_apply (xs 1) 0 (n_cut (xs 2) ((((xs 4).toInt64) <<< ((32 : Int32).toInt64 &&& 63)) ||| (((xs 5).toInt64) &&& 4294967295))) (n_cut (xs 3) ((((xs 6).toInt64) <<< ((32 : Int32).toInt64 &&& 63)) ||| (((xs 7).toInt64) &&& 4294967295)))))))), (m0, .inr (11, (y0.set 9 (.int 0))))] H := hP
    have hD : va_D A [(h0, .inr (10, [.ref x0, .int 0, .ref x1, .ref x2, .ref x3, .ref x4, .ref x5, .ref x6, .ref x7, .ref x8, .int 0, .int 3000])), (o0, .inl (kA 1, 1, .inr (.inl (vp_updL (fun _ => 0) 0 (n_apply (xs 1) 0 (n_cut (xs 2) ((((xs 4).toInt64) <<< ((32 : Int32).toInt64 &&& 63)) ||| (((xs 5).toInt64) &&& 4294967295))) (n_cut (xs 3) ((((xs 6).toInt64) <<< ((32 : Int32).toInt64 &&& 63)) ||| (((xs 7).toInt64) &&& 4294967295)))))))), (m0, .inr (11, (y0.set 9 (.int 0))))] := hD
    refine lv_iload hx hb dL_law_1778 (lv_at hl 1 rfl) ?_
    refine lv_icmp_eq (tgt := 1785) hx hb dL_law_1780 (by decide) (fun c_100529 => ?_) (fun c_100529 => ?_)
    · skip
      refine lv_iload hx hb dL_law_1785 (lv_at hl 1 rfl) ?_
      refine lv_if_ne (tgt := 1801) hx hb dL_law_1787 (by decide) (fun c_100530 => ?_) (fun c_100530 => ?_)
      · exact absurd (by decide) c_100530
      · skip
        refine lv_aload_n hx hb dL_law_1790 rfl (lv_at hl 5 rfl) ?_
        refine lv_iconst (v := 0) hx hb dL_law_1791 (by decide) ?_
        refine va_lald hx hb hK hP 1 1 rfl rfl (show vp_in 0 1 by unfold vp_in; decide) dL_law_1792 ?_
        refine W.eq (g2 := F0 m 1793 ls [.long (n_apply (xs 1) 0 (n_cut (xs 2) ((((xs 4).toInt64) <<< ((32 : Int32).toInt64 &&& 63)) ||| (((xs 5).toInt64) &&& 4294967295))) (n_cut (xs 3) ((((xs 6).toInt64) <<< ((32 : Int32).toInt64 &&& 63)) ||| (((xs 7).toInt64) &&& 4294967295))))]) rfl ?_
        refine lv_lload hx hb dL_law_1793 (lv_at hl 0 rfl) ?_
        refine W.lcmp hx hb dL_law_1795 ?_
        refine lv_if_eq (tgt := 1801) hx hb dL_law_1796 (by decide) (fun c_100531 => ?_) (fun c_100531 => ?_)
        · skip
          refine lv_goto (tgt := 1804) hx hb dL_law_1801 (by decide) ?_
          exact lk_tail hC hA2 (lv_sub hl [2, 6] rfl) hS (Nat.le_of_ble_eq_true rfl) (Nat.le_of_ble_eq_true rfl)
        · exact absurd ((lg_cmp_eq _ _).mpr (qx_a c_40 c_100229 (by rw [c_100234]; decide))) c_100531
    · exact absurd (by decide) c_100529
  · obtain ⟨c_100237, c_100238, c_100239, c_100240, c_100241, c_100242, c_100243, c_100244, c_100245, c_100246, c_100247, c_100248, w_100249, w_100250⟩ := hz
    subst w_100249
    subst w_100250
    obtain ⟨hP, hD⟩ := va_join (wr := [(h0, .inr (10, [.ref x0, .int 0, .ref x1, .ref x2, .ref x3, .ref x4, .ref x5, .ref x6, .ref x7, .ref x8, .int 0, .int 3000])), (o0, .inl (kA 1, 1, .inr (.inl (vp_updL (fun _ => 0) 0 (n_apply (xs 1) 0 (n_cut (xs 2) ((((xs 4).toInt64) <<< ((32 : Int32).toInt64 &&& 63)) ||| (((xs 5).toInt64) &&& 4294967295))) (n_cut (xs 3) ((((xs 6).toInt64) <<< ((32 : Int32).toInt64 &&& 63)) ||| (((xs 7).toInt64) &&& 4294967295))))))))]) (w1 := [(m0, .inr (11, y0.set 9 (.int 0)))]) hP hD [0] [1, 2] rfl rfl (by decide) (by decide) hk1 hFc hP1 hD1
    generalize H1 = H at hP hS ⊢
    have hP : va_P D vwCl [(h0, .inr (10, [.ref x0, .int 0, .ref x1, .ref x2, .ref x3, .ref x4, .ref x5, .ref x6, .ref x7, .ref x8, .int 0, .int 3000])), (o0, .inl (kA 1, 1, .inr (.inl (vp_updL (fun _ => 0) 0 (n_apply (xs 1) 0 (n_cut (xs 2) ((((xs 4).toInt64) <<< ((32 : Int32).toInt64 &&& 63)) ||| (((xs 5).toInt64) &&& 4294967295))) (n_cut (xs 3) ((((xs 6).toInt64) <<< ((32 : Int32).toInt64 &&& 63)) ||| (((xs 7).toInt64) &&& 4294967295)))))))), (m0, .inr (11, y0.set 9 (.int 0)))] H := hP
    have hD : va_D A [(h0, .inr (10, [.ref x0, .int 0, .ref x1, .ref x2, .ref x3, .ref x4, .ref x5, .ref x6, .ref x7, .ref x8, .int 0, .int 3000])), (o0, .inl (kA 1, 1, .inr (.inl (vp_updL (fun _ => 0) 0 (n_apply (xs 1) 0 (n_cut (xs 2) ((((xs 4).toInt64) <<< ((32 : Int32).toInt64 &&& 63)) ||| (((xs 5).toInt64) &&& 4294967295))) (n_cut (xs 3) ((((xs 6).toInt64) <<< ((32 : Int32).toInt64 &&& 63)) ||| (((xs 7).toInt64) &&& 4294967295)))))))), (m0, .inr (11, y0.set 9 (.int 0)))] := hD
    refine lv_lstore (lv' := [(6, .long (r_two 219 1 (n_cut (xs 2) ((((xs 4).toInt64) <<< ((32 : Int32).toInt64 &&& 63)) ||| (((xs 5).toInt64) &&& 4294967295))) (n_cut (xs 3) ((((xs 6).toInt64) <<< ((32 : Int32).toInt64 &&& 63)) ||| (((xs 7).toInt64) &&& 4294967295))))), (5, .int 0), (0, .ref b), (1, .ref h0), (2, .ref m0), (3, .ref o0), (4, .int 0)]) hx hb dL_law_1772 hl (by decide) rfl (fun ls hl => ?_)
    refine lv_aload_n hx hb dL_law_1774 rfl (lv_at hl 4 rfl) ?_
    have hPc := hP.sub (ws' := [(m0, .inr (11, y0.set 9 (.int 0)))]) [2] rfl
    have hDc := hD.sub (ws' := [(m0, .inr (11, y0.set 9 (.int 0)))]) [2] (by decide) rfl
    have hFc := va_free (wc := [(m0, .inr (11, y0.set 9 (.int 0)))]) hD hS hA [2] rfl
    refine va_calli (va_runV (As := []) (rest := []) ⟨hx, hb, hml, hown, hts⟩ (a94_X12_thrown l  D kA V H.size m0 (y0.set 9 (.int 0)) (fun k hk => (by rw [List.length_set]; exact (hq k hk))) (List.getElem?_set_self (hq 9 (by decide)))) (cwV 0 hts (gw_V gw_1879 gw_1880 gw_1881 gw_16 gw_1882) rfl rfl rfl (by decide +kernel) ⟨(Nat.le_of_ble_eq_true rfl), (Nat.le_of_ble_eq_true rfl)⟩) ⟨aP.blind, va_recv hK hP (ci := 11) (q0 := 2) rfl rfl, aP.pre hE hS hPc hK hDc hFc⟩ rfl rfl hl.1 rfl (lv_room (Nat.le_of_ble_eq_true rfl)) dL_law_1775 ⟨(Nat.le_of_ble_eq_true rfl), (Nat.le_of_ble_eq_true rfl)⟩) hS (fun q _ h => hFc q h) hFc (fun r_100532 u t H1 locs ht hvm hw hB hz1 hk1 hS => ?_)
    obtain ⟨hP1, hD1⟩ := hB
    rw [ht] at hP1
    try dsimp only at hw hP1 hD1
    have w_100533 := hw
    subst w_100533
    obtain ⟨hP, hD⟩ := va_join (wr := [(h0, .inr (10, [.ref x0, .int 0, .ref x1, .ref x2, .ref x3, .ref x4, .ref x5, .ref x6, .ref x7, .ref x8, .int 0, .int 3000])), (o0, .inl (kA 1, 1, .inr (.inl (vp_updL (fun _ => 0) 0 (n_apply (xs 1) 0 (n_cut (xs 2) ((((xs 4).toInt64) <<< ((32 : Int32).toInt64 &&& 63)) ||| (((xs 5).toInt64) &&& 4294967295))) (n_cut (xs 3) ((((xs 6).toInt64) <<< ((32 : Int32).toInt64 &&& 63)) ||| (((xs 7).toInt64) &&& 4294967295))))))))]) (w1 := [(m0, .inr (11, (y0.set 9 (.int 0))))]) hP hD [2] [0, 1] rfl rfl (by decide) (by decide) hk1 hFc hP1 hD1
    generalize H1 = H at hP hS ⊢
    have hP : va_P D vwCl [(h0, .inr (10, [.ref x0, .int 0, .ref x1, .ref x2, .ref x3, .ref x4, .ref x5, .ref x6, .ref x7, .ref x8, .int 0, .int 3000])), (o0, .inl (kA 1, 1, .inr (.inl (vp_updL (fun _ => 0) 0 (n_apply (xs 1) 0 (n_cut (xs 2) ((((xs 4).toInt64) <<< ((32 : Int32).toInt64 &&& 63)) ||| (((xs 5).toInt64) &&& 4294967295))) (n_cut (xs 3) ((((xs 6).toInt64) <<< ((32 : Int32).toInt64 &&& 63)) ||| (((xs 7).toInt64) &&& 4294967295)))))))), (m0, .inr (11, (y0.set 9 (.int 0))))] H := hP
    have hD : va_D A [(h0, .inr (10, [.ref x0, .int 0, .ref x1, .ref x2, .ref x3, .ref x4, .ref x5, .ref x6, .ref x7, .ref x8, .int 0, .int 3000])), (o0, .inl (kA 1, 1, .inr (.inl (vp_updL (fun _ => 0) 0 (n_apply (xs 1) 0 (n_cut (xs 2) ((((xs 4).toInt64) <<< ((32 : Int32).toInt64 &&& 63)) ||| (((xs 5).toInt64) &&& 4294967295))) (n_cut (xs 3) ((((xs 6).toInt64) <<< ((32 : Int32).toInt64 &&& 63)) ||| (((xs 7).toInt64) &&& 4294967295)))))))), (m0, .inr (11, (y0.set 9 (.int 0))))] := hD
    refine lv_iload hx hb dL_law_1778 (lv_at hl 1 rfl) ?_
    refine lv_icmp_eq (tgt := 1785) hx hb dL_law_1780 (by decide) (fun c_100534 => ?_) (fun c_100534 => ?_)
    · skip
      refine lv_iload hx hb dL_law_1785 (lv_at hl 1 rfl) ?_
      refine lv_if_ne (tgt := 1801) hx hb dL_law_1787 (by decide) (fun c_100535 => ?_) (fun c_100535 => ?_)
      · exact absurd (by decide) c_100535
      · skip
        refine lv_aload_n hx hb dL_law_1790 rfl (lv_at hl 5 rfl) ?_
        refine lv_iconst (v := 0) hx hb dL_law_1791 (by decide) ?_
        refine va_lald hx hb hK hP 1 1 rfl rfl (show vp_in 0 1 by unfold vp_in; decide) dL_law_1792 ?_
        refine W.eq (g2 := F0 m 1793 ls [.long (n_apply (xs 1) 0 (n_cut (xs 2) ((((xs 4).toInt64) <<< ((32 : Int32).toInt64 &&& 63)) ||| (((xs 5).toInt64) &&& 4294967295))) (n_cut (xs 3) ((((xs 6).toInt64) <<< ((32 : Int32).toInt64 &&& 63)) ||| (((xs 7).toInt64) &&& 4294967295))))]) rfl ?_
        refine lv_lload hx hb dL_law_1793 (lv_at hl 0 rfl) ?_
        refine W.lcmp hx hb dL_law_1795 ?_
        refine lv_if_eq (tgt := 1801) hx hb dL_law_1796 (by decide) (fun c_100536 => ?_) (fun c_100536 => ?_)
        · skip
          refine lv_goto (tgt := 1804) hx hb dL_law_1801 (by decide) ?_
          exact lk_tail hC hA2 (lv_sub hl [2, 6] rfl) hS (Nat.le_of_ble_eq_true rfl) (Nat.le_of_ble_eq_true rfl)
        · exact absurd ((lg_cmp_eq _ _).mpr (qx_a c_40 c_100244 (by rw [c_100248]; decide))) c_100536
    · exact absurd (by decide) c_100534
  · obtain ⟨c_100251, c_100252, c_100253, c_100254, c_100255, c_100256, c_100257, c_100258, c_100259, c_100260, c_100261, w_100262, w_100263⟩ := hz
    subst w_100262
    subst w_100263
    obtain ⟨hP, hD⟩ := va_join (wr := [(h0, .inr (10, [.ref x0, .int 0, .ref x1, .ref x2, .ref x3, .ref x4, .ref x5, .ref x6, .ref x7, .ref x8, .int 0, .int 3000])), (o0, .inl (kA 1, 1, .inr (.inl (vp_updL (fun _ => 0) 0 (n_apply (xs 1) 0 (n_cut (xs 2) ((((xs 4).toInt64) <<< ((32 : Int32).toInt64 &&& 63)) ||| (((xs 5).toInt64) &&& 4294967295))) (n_cut (xs 3) ((((xs 6).toInt64) <<< ((32 : Int32).toInt64 &&& 63)) ||| (((xs 7).toInt64) &&& 4294967295))))))))]) (w1 := [(m0, .inr (11, y0.set 9 (.int 0)))]) hP hD [0] [1, 2] rfl rfl (by decide) (by decide) hk1 hFc hP1 hD1
    generalize H1 = H at hP hS ⊢
    have hP : va_P D vwCl [(h0, .inr (10, [.ref x0, .int 0, .ref x1, .ref x2, .ref x3, .ref x4, .ref x5, .ref x6, .ref x7, .ref x8, .int 0, .int 3000])), (o0, .inl (kA 1, 1, .inr (.inl (vp_updL (fun _ => 0) 0 (n_apply (xs 1) 0 (n_cut (xs 2) ((((xs 4).toInt64) <<< ((32 : Int32).toInt64 &&& 63)) ||| (((xs 5).toInt64) &&& 4294967295))) (n_cut (xs 3) ((((xs 6).toInt64) <<< ((32 : Int32).toInt64 &&& 63)) ||| (((xs 7).toInt64) &&& 4294967295)))))))), (m0, .inr (11, y0.set 9 (.int 0)))] H := hP
    have hD : va_D A [(h0, .inr (10, [.ref x0, .int 0, .ref x1, .ref x2, .ref x3, .ref x4, .ref x5, .ref x6, .ref x7, .ref x8, .int 0, .int 3000])), (o0, .inl (kA 1, 1, .inr (.inl (vp_updL (fun _ => 0) 0 (n_apply (xs 1) 0 (n_cut (xs 2) ((((xs 4).toInt64) <<< ((32 : Int32).toInt64 &&& 63)) ||| (((xs 5).toInt64) &&& 4294967295))) (n_cut (xs 3) ((((xs 6).toInt64) <<< ((32 : Int32).toInt64 &&& 63)) ||| (((xs 7).toInt64) &&& 4294967295)))))))), (m0, .inr (11, y0.set 9 (.int 0)))] := hD
    refine lv_lstore (lv' := [(6, .long (r_two 238 1 (n_cut (xs 2) ((((xs 4).toInt64) <<< ((32 : Int32).toInt64 &&& 63)) ||| (((xs 5).toInt64) &&& 4294967295))) (n_cut (xs 3) ((((xs 6).toInt64) <<< ((32 : Int32).toInt64 &&& 63)) ||| (((xs 7).toInt64) &&& 4294967295))))), (5, .int 0), (0, .ref b), (1, .ref h0), (2, .ref m0), (3, .ref o0), (4, .int 0)]) hx hb dL_law_1772 hl (by decide) rfl (fun ls hl => ?_)
    refine lv_aload_n hx hb dL_law_1774 rfl (lv_at hl 4 rfl) ?_
    have hPc := hP.sub (ws' := [(m0, .inr (11, y0.set 9 (.int 0)))]) [2] rfl
    have hDc := hD.sub (ws' := [(m0, .inr (11, y0.set 9 (.int 0)))]) [2] (by decide) rfl
    have hFc := va_free (wc := [(m0, .inr (11, y0.set 9 (.int 0)))]) hD hS hA [2] rfl
    refine va_calli (va_runV (As := []) (rest := []) ⟨hx, hb, hml, hown, hts⟩ (a94_X12_thrown l  D kA V H.size m0 (y0.set 9 (.int 0)) (fun k hk => (by rw [List.length_set]; exact (hq k hk))) (List.getElem?_set_self (hq 9 (by decide)))) (cwV 0 hts (gw_V gw_1879 gw_1880 gw_1881 gw_16 gw_1882) rfl rfl rfl (by decide +kernel) ⟨(Nat.le_of_ble_eq_true rfl), (Nat.le_of_ble_eq_true rfl)⟩) ⟨aP.blind, va_recv hK hP (ci := 11) (q0 := 2) rfl rfl, aP.pre hE hS hPc hK hDc hFc⟩ rfl rfl hl.1 rfl (lv_room (Nat.le_of_ble_eq_true rfl)) dL_law_1775 ⟨(Nat.le_of_ble_eq_true rfl), (Nat.le_of_ble_eq_true rfl)⟩) hS (fun q _ h => hFc q h) hFc (fun r_100537 u t H1 locs ht hvm hw hB hz1 hk1 hS => ?_)
    obtain ⟨hP1, hD1⟩ := hB
    rw [ht] at hP1
    try dsimp only at hw hP1 hD1
    have w_100538 := hw
    subst w_100538
    obtain ⟨hP, hD⟩ := va_join (wr := [(h0, .inr (10, [.ref x0, .int 0, .ref x1, .ref x2, .ref x3, .ref x4, .ref x5, .ref x6, .ref x7, .ref x8, .int 0, .int 3000])), (o0, .inl (kA 1, 1, .inr (.inl (vp_updL (fun _ => 0) 0 (n_apply (xs 1) 0 (n_cut (xs 2) ((((xs 4).toInt64) <<< ((32 : Int32).toInt64 &&& 63)) ||| (((xs 5).toInt64) &&& 4294967295))) (n_cut (xs 3) ((((xs 6).toInt64) <<< ((32 : Int32).toInt64 &&& 63)) ||| (((xs 7).toInt64) &&& 4294967295))))))))]) (w1 := [(m0, .inr (11, (y0.set 9 (.int 0))))]) hP hD [2] [0, 1] rfl rfl (by decide) (by decide) hk1 hFc hP1 hD1
    generalize H1 = H at hP hS ⊢
    have hP : va_P D vwCl [(h0, .inr (10, [.ref x0, .int 0, .ref x1, .ref x2, .ref x3, .ref x4, .ref x5, .ref x6, .ref x7, .ref x8, .int 0, .int 3000])), (o0, .inl (kA 1, 1, .inr (.inl (vp_updL (fun _ => 0) 0 (n_apply (xs 1) 0 (n_cut (xs 2) ((((xs 4).toInt64) <<< ((32 : Int32).toInt64 &&& 63)) ||| (((xs 5).toInt64) &&& 4294967295))) (n_cut (xs 3) ((((xs 6).toInt64) <<< ((32 : Int32).toInt64 &&& 63)) ||| (((xs 7).toInt64) &&& 4294967295)))))))), (m0, .inr (11, (y0.set 9 (.int 0))))] H := hP
    have hD : va_D A [(h0, .inr (10, [.ref x0, .int 0, .ref x1, .ref x2, .ref x3, .ref x4, .ref x5, .ref x6, .ref x7, .ref x8, .int 0, .int 3000])), (o0, .inl (kA 1, 1, .inr (.inl (vp_updL (fun _ => 0) 0 (n_apply (xs 1) 0 (n_cut (xs 2) ((((xs 4).toInt64) <<< ((32 : Int32).toInt64 &&& 63)) ||| (((xs 5).toInt64) &&& 4294967295))) (n_cut (xs 3) ((((xs 6).toInt64) <<< ((32 : Int32).toInt64 &&& 63)) ||| (((xs 7).toInt64) &&& 4294967295)))))))), (m0, .inr (11, (y0.set 9 (.int 0))))] := hD
    refine lv_iload hx hb dL_law_1778 (lv_at hl 1 rfl) ?_
    refine lv_icmp_eq (tgt := 1785) hx hb dL_law_1780 (by decide) (fun c_100539 => ?_) (fun c_100539 => ?_)
    · skip
      refine lv_iload hx hb dL_law_1785 (lv_at hl 1 rfl) ?_
      refine lv_if_ne (tgt := 1801) hx hb dL_law_1787 (by decide) (fun c_100540 => ?_) (fun c_100540 => ?_)
      · exact absurd (by decide) c_100540
      · skip
        refine lv_aload_n hx hb dL_law_1790 rfl (lv_at hl 5 rfl) ?_
        refine lv_iconst (v := 0) hx hb dL_law_1791 (by decide) ?_
        refine va_lald hx hb hK hP 1 1 rfl rfl (show vp_in 0 1 by unfold vp_in; decide) dL_law_1792 ?_
        refine W.eq (g2 := F0 m 1793 ls [.long (n_apply (xs 1) 0 (n_cut (xs 2) ((((xs 4).toInt64) <<< ((32 : Int32).toInt64 &&& 63)) ||| (((xs 5).toInt64) &&& 4294967295))) (n_cut (xs 3) ((((xs 6).toInt64) <<< ((32 : Int32).toInt64 &&& 63)) ||| (((xs 7).toInt64) &&& 4294967295))))]) rfl ?_
        refine lv_lload hx hb dL_law_1793 (lv_at hl 0 rfl) ?_
        refine W.lcmp hx hb dL_law_1795 ?_
        refine lv_if_eq (tgt := 1801) hx hb dL_law_1796 (by decide) (fun c_100541 => ?_) (fun c_100541 => ?_)
        · skip
          refine lv_goto (tgt := 1804) hx hb dL_law_1801 (by decide) ?_
          exact lk_tail hC hA2 (lv_sub hl [2, 6] rfl) hS (Nat.le_of_ble_eq_true rfl) (Nat.le_of_ble_eq_true rfl)
        · exact absurd ((lg_cmp_eq _ _).mpr (qx_a c_40 c_100258 (by rw [c_100261]; decide))) c_100541
    · exact absurd (by decide) c_100539
  · obtain ⟨c_100264, c_100265, c_100266, c_100267, c_100268, c_100269, c_100270, c_100271, c_100272, c_100273, w_100274, w_100275⟩ := hz
    subst w_100274
    subst w_100275
    obtain ⟨hP, hD⟩ := va_join (wr := [(h0, .inr (10, [.ref x0, .int 0, .ref x1, .ref x2, .ref x3, .ref x4, .ref x5, .ref x6, .ref x7, .ref x8, .int 0, .int 3000])), (o0, .inl (kA 1, 1, .inr (.inl (vp_updL (fun _ => 0) 0 (n_apply (xs 1) 0 (n_cut (xs 2) ((((xs 4).toInt64) <<< ((32 : Int32).toInt64 &&& 63)) ||| (((xs 5).toInt64) &&& 4294967295))) (n_cut (xs 3) ((((xs 6).toInt64) <<< ((32 : Int32).toInt64 &&& 63)) ||| (((xs 7).toInt64) &&& 4294967295))))))))]) (w1 := [(m0, .inr (11, y0.set 9 (.int 0)))]) hP hD [0] [1, 2] rfl rfl (by decide) (by decide) hk1 hFc hP1 hD1
    generalize H1 = H at hP hS ⊢
    have hP : va_P D vwCl [(h0, .inr (10, [.ref x0, .int 0, .ref x1, .ref x2, .ref x3, .ref x4, .ref x5, .ref x6, .ref x7, .ref x8, .int 0, .int 3000])), (o0, .inl (kA 1, 1, .inr (.inl (vp_updL (fun _ => 0) 0 (n_apply (xs 1) 0 (n_cut (xs 2) ((((xs 4).toInt64) <<< ((32 : Int32).toInt64 &&& 63)) ||| (((xs 5).toInt64) &&& 4294967295))) (n_cut (xs 3) ((((xs 6).toInt64) <<< ((32 : Int32).toInt64 &&& 63)) ||| (((xs 7).toInt64) &&& 4294967295)))))))), (m0, .inr (11, y0.set 9 (.int 0)))] H := hP
    have hD : va_D A [(h0, .inr (10, [.ref x0, .int 0, .ref x1, .ref x2, .ref x3, .ref x4, .ref x5, .ref x6, .ref x7, .ref x8, .int 0, .int 3000])), (o0, .inl (kA 1, 1, .inr (.inl (vp_updL (fun _ => 0) 0 (n_apply (xs 1) 0 (n_cut (xs 2) ((((xs 4).toInt64) <<< ((32 : Int32).toInt64 &&& 63)) ||| (((xs 5).toInt64) &&& 4294967295))) (n_cut (xs 3) ((((xs 6).toInt64) <<< ((32 : Int32).toInt64 &&& 63)) ||| (((xs 7).toInt64) &&& 4294967295)))))))), (m0, .inr (11, y0.set 9 (.int 0)))] := hD
    refine lv_lstore (lv' := [(6, .long (r_two 218 1 (n_cut (xs 2) ((((xs 4).toInt64) <<< ((32 : Int32).toInt64 &&& 63)) ||| (((xs 5).toInt64) &&& 4294967295))) (n_cut (xs 3) ((((xs 6).toInt64) <<< ((32 : Int32).toInt64 &&& 63)) ||| (((xs 7).toInt64) &&& 4294967295))))), (5, .int 0), (0, .ref b), (1, .ref h0), (2, .ref m0), (3, .ref o0), (4, .int 0)]) hx hb dL_law_1772 hl (by decide) rfl (fun ls hl => ?_)
    refine lv_aload_n hx hb dL_law_1774 rfl (lv_at hl 4 rfl) ?_
    have hPc := hP.sub (ws' := [(m0, .inr (11, y0.set 9 (.int 0)))]) [2] rfl
    have hDc := hD.sub (ws' := [(m0, .inr (11, y0.set 9 (.int 0)))]) [2] (by decide) rfl
    have hFc := va_free (wc := [(m0, .inr (11, y0.set 9 (.int 0)))]) hD hS hA [2] rfl
    refine va_calli (va_runV (As := []) (rest := []) ⟨hx, hb, hml, hown, hts⟩ (a94_X12_thrown l  D kA V H.size m0 (y0.set 9 (.int 0)) (fun k hk => (by rw [List.length_set]; exact (hq k hk))) (List.getElem?_set_self (hq 9 (by decide)))) (cwV 0 hts (gw_V gw_1879 gw_1880 gw_1881 gw_16 gw_1882) rfl rfl rfl (by decide +kernel) ⟨(Nat.le_of_ble_eq_true rfl), (Nat.le_of_ble_eq_true rfl)⟩) ⟨aP.blind, va_recv hK hP (ci := 11) (q0 := 2) rfl rfl, aP.pre hE hS hPc hK hDc hFc⟩ rfl rfl hl.1 rfl (lv_room (Nat.le_of_ble_eq_true rfl)) dL_law_1775 ⟨(Nat.le_of_ble_eq_true rfl), (Nat.le_of_ble_eq_true rfl)⟩) hS (fun q _ h => hFc q h) hFc (fun r_100542 u t H1 locs ht hvm hw hB hz1 hk1 hS => ?_)
    obtain ⟨hP1, hD1⟩ := hB
    rw [ht] at hP1
    try dsimp only at hw hP1 hD1
    have w_100543 := hw
    subst w_100543
    obtain ⟨hP, hD⟩ := va_join (wr := [(h0, .inr (10, [.ref x0, .int 0, .ref x1, .ref x2, .ref x3, .ref x4, .ref x5, .ref x6, .ref x7, .ref x8, .int 0, .int 3000])), (o0, .inl (kA 1, 1, .inr (.inl (vp_updL (fun _ => 0) 0 (n_apply (xs 1) 0 (n_cut (xs 2) ((((xs 4).toInt64) <<< ((32 : Int32).toInt64 &&& 63)) ||| (((xs 5).toInt64) &&& 4294967295))) (n_cut (xs 3) ((((xs 6).toInt64) <<< ((32 : Int32).toInt64 &&& 63)) ||| (((xs 7).toInt64) &&& 4294967295))))))))]) (w1 := [(m0, .inr (11, (y0.set 9 (.int 0))))]) hP hD [2] [0, 1] rfl rfl (by decide) (by decide) hk1 hFc hP1 hD1
    generalize H1 = H at hP hS ⊢
    have hP : va_P D vwCl [(h0, .inr (10, [.ref x0, .int 0, .ref x1, .ref x2, .ref x3, .ref x4, .ref x5, .ref x6, .ref x7, .ref x8, .int 0, .int 3000])), (o0, .inl (kA 1, 1, .inr (.inl (vp_updL (fun _ => 0) 0 (n_apply (xs 1) 0 (n_cut (xs 2) ((((xs 4).toInt64) <<< ((32 : Int32).toInt64 &&& 63)) ||| (((xs 5).toInt64) &&& 4294967295))) (n_cut (xs 3) ((((xs 6).toInt64) <<< ((32 : Int32).toInt64 &&& 63)) ||| (((xs 7).toInt64) &&& 4294967295)))))))), (m0, .inr (11, (y0.set 9 (.int 0))))] H := hP
    have hD : va_D A [(h0, .inr (10, [.ref x0, .int 0, .ref x1, .ref x2, .ref x3, .ref x4, .ref x5, .ref x6, .ref x7, .ref x8, .int 0, .int 3000])), (o0, .inl (kA 1, 1, .inr (.inl (vp_updL (fun _ => 0) 0 (n_apply (xs 1) 0 (n_cut (xs 2) ((((xs 4).toInt64) <<< ((32 : Int32).toInt64 &&& 63)) ||| (((xs 5).toInt64) &&& 4294967295))) (n_cut (xs 3) ((((xs 6).toInt64) <<< ((32 : Int32).toInt64 &&& 63)) ||| (((xs 7).toInt64) &&& 4294967295)))))))), (m0, .inr (11, (y0.set 9 (.int 0))))] := hD
    refine lv_iload hx hb dL_law_1778 (lv_at hl 1 rfl) ?_
    refine lv_icmp_eq (tgt := 1785) hx hb dL_law_1780 (by decide) (fun c_100544 => ?_) (fun c_100544 => ?_)
    · skip
      refine lv_iload hx hb dL_law_1785 (lv_at hl 1 rfl) ?_
      refine lv_if_ne (tgt := 1801) hx hb dL_law_1787 (by decide) (fun c_100545 => ?_) (fun c_100545 => ?_)
      · exact absurd (by decide) c_100545
      · skip
        refine lv_aload_n hx hb dL_law_1790 rfl (lv_at hl 5 rfl) ?_
        refine lv_iconst (v := 0) hx hb dL_law_1791 (by decide) ?_
        refine va_lald hx hb hK hP 1 1 rfl rfl (show vp_in 0 1 by unfold vp_in; decide) dL_law_1792 ?_
        refine W.eq (g2 := F0 m 1793 ls [.long (n_apply (xs 1) 0 (n_cut (xs 2) ((((xs 4).toInt64) <<< ((32 : Int32).toInt64 &&& 63)) ||| (((xs 5).toInt64) &&& 4294967295))) (n_cut (xs 3) ((((xs 6).toInt64) <<< ((32 : Int32).toInt64 &&& 63)) ||| (((xs 7).toInt64) &&& 4294967295))))]) rfl ?_
        refine lv_lload hx hb dL_law_1793 (lv_at hl 0 rfl) ?_
        refine W.lcmp hx hb dL_law_1795 ?_
        refine lv_if_eq (tgt := 1801) hx hb dL_law_1796 (by decide) (fun c_100546 => ?_) (fun c_100546 => ?_)
        · skip
          refine lv_goto (tgt := 1804) hx hb dL_law_1801 (by decide) ?_
          exact lk_tail hC hA2 (lv_sub hl [2, 6] rfl) hS (Nat.le_of_ble_eq_true rfl) (Nat.le_of_ble_eq_true rfl)
        · exact absurd ((lg_cmp_eq _ _).mpr (qx_a c_40 c_100271 (by rw [c_100273]; decide))) c_100546
    · exact absurd (by decide) c_100544
  · obtain ⟨c_100276, c_100277, c_100278, c_100279, c_100280, c_100281, c_100282, c_100283, c_100284, w_100285, w_100286⟩ := hz
    subst w_100285
    subst w_100286
    obtain ⟨hP, hD⟩ := va_join (wr := [(h0, .inr (10, [.ref x0, .int 0, .ref x1, .ref x2, .ref x3, .ref x4, .ref x5, .ref x6, .ref x7, .ref x8, .int 0, .int 3000])), (o0, .inl (kA 1, 1, .inr (.inl (vp_updL (fun _ => 0) 0 (n_apply (xs 1) 0 (n_cut (xs 2) ((((xs 4).toInt64) <<< ((32 : Int32).toInt64 &&& 63)) ||| (((xs 5).toInt64) &&& 4294967295))) (n_cut (xs 3) ((((xs 6).toInt64) <<< ((32 : Int32).toInt64 &&& 63)) ||| (((xs 7).toInt64) &&& 4294967295))))))))]) (w1 := [(m0, .inr (11, y0.set 9 (.int 0)))]) hP hD [0] [1, 2] rfl rfl (by decide) (by decide) hk1 hFc hP1 hD1
    generalize H1 = H at hP hS ⊢
    have hP : va_P D vwCl [(h0, .inr (10, [.ref x0, .int 0, .ref x1, .ref x2, .ref x3, .ref x4, .ref x5, .ref x6, .ref x7, .ref x8, .int 0, .int 3000])), (o0, .inl (kA 1, 1, .inr (.inl (vp_updL (fun _ => 0) 0 (n_apply (xs 1) 0 (n_cut (xs 2) ((((xs 4).toInt64) <<< ((32 : Int32).toInt64 &&& 63)) ||| (((xs 5).toInt64) &&& 4294967295))) (n_cut (xs 3) ((((xs 6).toInt64) <<< ((32 : Int32).toInt64 &&& 63)) ||| (((xs 7).toInt64) &&& 4294967295)))))))), (m0, .inr (11, y0.set 9 (.int 0)))] H := hP
    have hD : va_D A [(h0, .inr (10, [.ref x0, .int 0, .ref x1, .ref x2, .ref x3, .ref x4, .ref x5, .ref x6, .ref x7, .ref x8, .int 0, .int 3000])), (o0, .inl (kA 1, 1, .inr (.inl (vp_updL (fun _ => 0) 0 (n_apply (xs 1) 0 (n_cut (xs 2) ((((xs 4).toInt64) <<< ((32 : Int32).toInt64 &&& 63)) ||| (((xs 5).toInt64) &&& 4294967295))) (n_cut (xs 3) ((((xs 6).toInt64) <<< ((32 : Int32).toInt64 &&& 63)) ||| (((xs 7).toInt64) &&& 4294967295)))))))), (m0, .inr (11, y0.set 9 (.int 0)))] := hD
    refine lv_lstore (lv' := [(6, .long (r_two 217 1 (n_cut (xs 2) ((((xs 4).toInt64) <<< ((32 : Int32).toInt64 &&& 63)) ||| (((xs 5).toInt64) &&& 4294967295))) (n_cut (xs 3) ((((xs 6).toInt64) <<< ((32 : Int32).toInt64 &&& 63)) ||| (((xs 7).toInt64) &&& 4294967295))))), (5, .int 0), (0, .ref b), (1, .ref h0), (2, .ref m0), (3, .ref o0), (4, .int 0)]) hx hb dL_law_1772 hl (by decide) rfl (fun ls hl => ?_)
    refine lv_aload_n hx hb dL_law_1774 rfl (lv_at hl 4 rfl) ?_
    have hPc := hP.sub (ws' := [(m0, .inr (11, y0.set 9 (.int 0)))]) [2] rfl
    have hDc := hD.sub (ws' := [(m0, .inr (11, y0.set 9 (.int 0)))]) [2] (by decide) rfl
    have hFc := va_free (wc := [(m0, .inr (11, y0.set 9 (.int 0)))]) hD hS hA [2] rfl
    refine va_calli (va_runV (As := []) (rest := []) ⟨hx, hb, hml, hown, hts⟩ (a94_X12_thrown l  D kA V H.size m0 (y0.set 9 (.int 0)) (fun k hk => (by rw [List.length_set]; exact (hq k hk))) (List.getElem?_set_self (hq 9 (by decide)))) (cwV 0 hts (gw_V gw_1879 gw_1880 gw_1881 gw_16 gw_1882) rfl rfl rfl (by decide +kernel) ⟨(Nat.le_of_ble_eq_true rfl), (Nat.le_of_ble_eq_true rfl)⟩) ⟨aP.blind, va_recv hK hP (ci := 11) (q0 := 2) rfl rfl, aP.pre hE hS hPc hK hDc hFc⟩ rfl rfl hl.1 rfl (lv_room (Nat.le_of_ble_eq_true rfl)) dL_law_1775 ⟨(Nat.le_of_ble_eq_true rfl), (Nat.le_of_ble_eq_true rfl)⟩) hS (fun q _ h => hFc q h) hFc (fun r_100547 u t H1 locs ht hvm hw hB hz1 hk1 hS => ?_)
    obtain ⟨hP1, hD1⟩ := hB
    rw [ht] at hP1
    try dsimp only at hw hP1 hD1
    have w_100548 := hw
    subst w_100548
    obtain ⟨hP, hD⟩ := va_join (wr := [(h0, .inr (10, [.ref x0, .int 0, .ref x1, .ref x2, .ref x3, .ref x4, .ref x5, .ref x6, .ref x7, .ref x8, .int 0, .int 3000])), (o0, .inl (kA 1, 1, .inr (.inl (vp_updL (fun _ => 0) 0 (n_apply (xs 1) 0 (n_cut (xs 2) ((((xs 4).toInt64) <<< ((32 : Int32).toInt64 &&& 63)) ||| (((xs 5).toInt64) &&& 4294967295))) (n_cut (xs 3) ((((xs 6).toInt64) <<< ((32 : Int32).toInt64 &&& 63)) ||| (((xs 7).toInt64) &&& 4294967295))))))))]) (w1 := [(m0, .inr (11, (y0.set 9 (.int 0))))]) hP hD [2] [0, 1] rfl rfl (by decide) (by decide) hk1 hFc hP1 hD1
    generalize H1 = H at hP hS ⊢
    have hP : va_P D vwCl [(h0, .inr (10, [.ref x0, .int 0, .ref x1, .ref x2, .ref x3, .ref x4, .ref x5, .ref x6, .ref x7, .ref x8, .int 0, .int 3000])), (o0, .inl (kA 1, 1, .inr (.inl (vp_updL (fun _ => 0) 0 (n_apply (xs 1) 0 (n_cut (xs 2) ((((xs 4).toInt64) <<< ((32 : Int32).toInt64 &&& 63)) ||| (((xs 5).toInt64) &&& 4294967295))) (n_cut (xs 3) ((((xs 6).toInt64) <<< ((32 : Int32).toInt64 &&& 63)) ||| (((xs 7).toInt64) &&& 4294967295)))))))), (m0, .inr (11, (y0.set 9 (.int 0))))] H := hP
    have hD : va_D A [(h0, .inr (10, [.ref x0, .int 0, .ref x1, .ref x2, .ref x3, .ref x4, .ref x5, .ref x6, .ref x7, .ref x8, .int 0, .int 3000])), (o0, .inl (kA 1, 1, .inr (.inl (vp_updL (fun _ => 0) 0 (n_apply (xs 1) 0 (n_cut (xs 2) ((((xs 4).toInt64) <<< ((32 : Int32).toInt64 &&& 63)) ||| (((xs 5).toInt64) &&& 4294967295))) (n_cut (xs 3) ((((xs 6).toInt64) <<< ((32 : Int32).toInt64 &&& 63)) ||| (((xs 7).toInt64) &&& 4294967295)))))))), (m0, .inr (11, (y0.set 9 (.int 0))))] := hD
    refine lv_iload hx hb dL_law_1778 (lv_at hl 1 rfl) ?_
    refine lv_icmp_eq (tgt := 1785) hx hb dL_law_1780 (by decide) (fun c_100549 => ?_) (fun c_100549 => ?_)
    · skip
      refine lv_iload hx hb dL_law_1785 (lv_at hl 1 rfl) ?_
      refine lv_if_ne (tgt := 1801) hx hb dL_law_1787 (by decide) (fun c_100550 => ?_) (fun c_100550 => ?_)
      · exact absurd (by decide) c_100550
      · skip
        refine lv_aload_n hx hb dL_law_1790 rfl (lv_at hl 5 rfl) ?_
        refine lv_iconst (v := 0) hx hb dL_law_1791 (by decide) ?_
        refine va_lald hx hb hK hP 1 1 rfl rfl (show vp_in 0 1 by unfold vp_in; decide) dL_law_1792 ?_
        refine W.eq (g2 := F0 m 1793 ls [.long (n_apply (xs 1) 0 (n_cut (xs 2) ((((xs 4).toInt64) <<< ((32 : Int32).toInt64 &&& 63)) ||| (((xs 5).toInt64) &&& 4294967295))) (n_cut (xs 3) ((((xs 6).toInt64) <<< ((32 : Int32).toInt64 &&& 63)) ||| (((xs 7).toInt64) &&& 4294967295))))]) rfl ?_
        refine lv_lload hx hb dL_law_1793 (lv_at hl 0 rfl) ?_
        refine W.lcmp hx hb dL_law_1795 ?_
        refine lv_if_eq (tgt := 1801) hx hb dL_law_1796 (by decide) (fun c_100551 => ?_) (fun c_100551 => ?_)
        · skip
          refine lv_goto (tgt := 1804) hx hb dL_law_1801 (by decide) ?_
          exact lk_tail hC hA2 (lv_sub hl [2, 6] rfl) hS (Nat.le_of_ble_eq_true rfl) (Nat.le_of_ble_eq_true rfl)
        · exact absurd ((lg_cmp_eq _ _).mpr (qx_a c_40 c_100283 (by rw [c_100284]; decide))) c_100551
    · exact absurd (by decide) c_100549
  · exact absurd hz.2.2.2.2.2.2.1 c_42
  · exact absurd hz.2.2.2.2.2.2.1 c_42
  · exact absurd hz.2.2.2.2.2.2.1 c_42
  · exact absurd hz.2.2.2.2.2.2.1 c_42
  · exact absurd hz.2.2.2.2.2.2.1 c_42
  · exact absurd hz.2.2.2.2.2.2.1 c_42
  · exact absurd hz.2.2.2.2.2.2.1 c_42
  · exact absurd hz.2.2.2.2.2.2.1 c_42
  · exact absurd hz.2.2.2.2.2.2.1 c_42
  · exact absurd hz.2.2.2.2.2.2.1 c_42
  · exact absurd hz.2.2.2.2.2.2.1 c_42
  · exact absurd hz.2.2.2.2.2.2.1 c_42
  · exact absurd hz.2.2.2.2.2.2.1 c_42
  · exact absurd hz.2.2.2.2.2.2.1 c_42
set_option maxHeartbeats 4000000 in
set_option maxRecDepth 100000 in
theorem lk_23_7 {p : Program} {l : Launch} {e : Env} {s : State} {m : MethodId} {below : List Frame} {meth : Method} {c : Code} {D : va_G} {kA : Nat → ClassId} {V : Nat → Nat} {b : Nat} {xs : Nat → Int32} {A : Nat → Prop} (hC : lw_C p l s m meth c b 8 xs D kA V A) (hA2 : ∀ q, A q → s.heap.size ≤ q) (h0 : Nat) (m0 : Nat) (o0 : Nat) (x0 : Nat) (x1 : Nat) (x2 : Nat) (x3 : Nat) (x4 : Nat) (x5 : Nat) (x6 : Nat) (x7 : Nat) (x8 : Nat) (y0 : List Value) (hq : ∀ k, k < 121 → k < y0.length) (hq9 : y0[9]? = some (.int 0)) (c_45 : ¬ (xs 2) < 0) (c_46 : ¬ 4 < (xs 2)) (c_47 : ¬ (xs 3) < 0) (c_48 : ¬ 4 < (xs 3)) (c_49 : ¬ (xs 1) < 0) (c_50 : (xs 1) ≤ 16) (c_51 : (xs 2) = 4) {H : Heap} {locs : List Loc} {ls : Array Slot} (hl : lv_has ls 8 [(0, .ref b), (1, .ref h0), (2, .ref m0), (3, .ref o0), (4, .int 0)]) (hS : va_S A s.heap H locs) (hP : va_P D vwCl [(m0, .inr (11, y0)), (h0, .inr (10, [.ref x0, .int 0, .ref x1, .ref x2, .ref x3, .ref x4, .ref x5, .ref x6, .ref x7, .ref x8, .int 0, .int 3000])), (o0, .inl (kA 1, 1, .inr (.inl (vp_updL (fun _ => 0) 0 (n_apply (xs 1) 1 (n_cut (xs 2) ((((xs 4).toInt64) <<< ((32 : Int32).toInt64 &&& 63)) ||| (((xs 5).toInt64) &&& 4294967295))) (n_cut (xs 3) ((((xs 6).toInt64) <<< ((32 : Int32).toInt64 &&& 63)) ||| (((xs 7).toInt64) &&& 4294967295))))))))] H) (hD : va_D A [(m0, .inr (11, y0)), (h0, .inr (10, [.ref x0, .int 0, .ref x1, .ref x2, .ref x3, .ref x4, .ref x5, .ref x6, .ref x7, .ref x8, .int 0, .int 3000])), (o0, .inl (kA 1, 1, .inr (.inl (vp_updL (fun _ => 0) 0 (n_apply (xs 1) 1 (n_cut (xs 2) ((((xs 4).toInt64) <<< ((32 : Int32).toInt64 &&& 63)) ||| (((xs 5).toInt64) &&& 4294967295))) (n_cut (xs 3) ((((xs 6).toInt64) <<< ((32 : Int32).toInt64 &&& 63)) ||| (((xs 7).toInt64) &&& 4294967295))))))))]) : W p l e room_1 s m #[Value.ref b] below meth c H locs 515 172799 (lw_Z below #[Value.ref b] s) (F0 m 1702 ls [.int 0]) := by
  have ⟨hst, hx, hb, hr, hml, hown, hts, hG, hX, hbl, hbA, hlocks, hE, hK, hA⟩ := hC
  refine lv_istore (lv' := [(5, .int 0), (0, .ref b), (1, .ref h0), (2, .ref m0), (3, .ref o0), (4, .int 0)]) hx hb dL_law_1702 hl (by decide) rfl (fun ls hl => ?_)
  refine lv_aload_n hx hb dL_law_1704 rfl (lv_at hl 3 rfl) ?_
  refine lv_aload_n hx hb dL_law_1705 rfl (lv_at hl 1 rfl) ?_
  refine lv_iload hx hb dL_law_1706 (lv_at hl 5 rfl) ?_
  refine lv_iconst (v := 1) hx hb dL_law_1708 (by decide) ?_
  refine lv_iadd hx hb dL_law_1709 ?_
  refine W.eq (g2 := F0 m 1710 ls [.int 1, .ref b, .ref m0]) rfl ?_
  refine va_sld hx hb hX hbl hbA hS (show vp_in 1 8 by unfold vp_in; decide) dL_law_1710 ?_
  refine W.eq (g2 := F0 m 1711 ls [.int (xs 1), .ref m0]) rfl ?_
  refine lv_aload_n hx hb dL_law_1711 rfl (lv_at hl 1 rfl) ?_
  refine lv_iload hx hb dL_law_1712 (lv_at hl 5 rfl) ?_
  refine lv_iconst (v := 2) hx hb dL_law_1714 (by decide) ?_
  refine lv_iadd hx hb dL_law_1715 ?_
  refine W.eq (g2 := F0 m 1716 ls [.int 2, .ref b, .int (xs 1), .ref m0]) rfl ?_
  refine va_sld hx hb hX hbl hbA hS (show vp_in 2 8 by unfold vp_in; decide) dL_law_1716 ?_
  refine W.eq (g2 := F0 m 1717 ls [.int (xs 2), .int (xs 1), .ref m0]) rfl ?_
  refine lv_aload_n hx hb dL_law_1717 rfl (lv_at hl 1 rfl) ?_
  refine lv_iload hx hb dL_law_1718 (lv_at hl 5 rfl) ?_
  refine lv_iconst (v := 3) hx hb dL_law_1720 (by decide) ?_
  refine lv_iadd hx hb dL_law_1721 ?_
  refine W.eq (g2 := F0 m 1722 ls [.int 3, .ref b, .int (xs 2), .int (xs 1), .ref m0]) rfl ?_
  refine va_sld hx hb hX hbl hbA hS (show vp_in 3 8 by unfold vp_in; decide) dL_law_1722 ?_
  refine W.eq (g2 := F0 m 1723 ls [.int (xs 3), .int (xs 2), .int (xs 1), .ref m0]) rfl ?_
  refine lv_aload_n hx hb dL_law_1723 rfl (lv_at hl 1 rfl) ?_
  refine lv_iload hx hb dL_law_1724 (lv_at hl 5 rfl) ?_
  refine lv_iconst (v := 4) hx hb dL_law_1726 (by decide) ?_
  refine lv_iadd hx hb dL_law_1727 ?_
  refine W.eq (g2 := F0 m 1728 ls [.int 4, .ref b, .int (xs 3), .int (xs 2), .int (xs 1), .ref m0]) rfl ?_
  refine va_sld hx hb hX hbl hbA hS (show vp_in 4 8 by unfold vp_in; decide) dL_law_1728 ?_
  refine W.eq (g2 := F0 m 1729 ls [.int (xs 4), .int (xs 3), .int (xs 2), .int (xs 1), .ref m0]) rfl ?_
  refine lv_i2l (v := (xs 4).toInt64) hx hb dL_law_1729 rfl ?_
  refine lv_bipush (v := 32) hx hb dL_law_1730 (by decide) ?_
  refine lv_lshl (v := ((xs 4).toInt64) <<< ((32 : Int32).toInt64 &&& 63)) hx hb dL_law_1732 rfl ?_
  refine lv_aload_n hx hb dL_law_1733 rfl (lv_at hl 1 rfl) ?_
  refine lv_iload hx hb dL_law_1734 (lv_at hl 5 rfl) ?_
  refine lv_iconst (v := 5) hx hb dL_law_1736 (by decide) ?_
  refine lv_iadd hx hb dL_law_1737 ?_
  refine W.eq (g2 := F0 m 1738 ls [.int 5, .ref b, .long (((xs 4).toInt64) <<< ((32 : Int32).toInt64 &&& 63)), .int (xs 3), .int (xs 2), .int (xs 1), .ref m0]) rfl ?_
  refine va_sld hx hb hX hbl hbA hS (show vp_in 5 8 by unfold vp_in; decide) dL_law_1738 ?_
  refine W.eq (g2 := F0 m 1739 ls [.int (xs 5), .long (((xs 4).toInt64) <<< ((32 : Int32).toInt64 &&& 63)), .int (xs 3), .int (xs 2), .int (xs 1), .ref m0]) rfl ?_
  refine lv_i2l (v := (xs 5).toInt64) hx hb dL_law_1739 rfl ?_
  refine lv_ldc2 (v := 4294967295) hx hb hown (hG _ gw_2764) dL_law_1740 ?_
  refine lv_land hx hb dL_law_1743 ?_
  refine lv_lor hx hb dL_law_1744 ?_
  refine lv_aload_n hx hb dL_law_1745 rfl (lv_at hl 1 rfl) ?_
  refine lv_iload hx hb dL_law_1746 (lv_at hl 5 rfl) ?_
  refine lv_bipush (v := 6) hx hb dL_law_1748 (by decide) ?_
  refine lv_iadd hx hb dL_law_1750 ?_
  refine W.eq (g2 := F0 m 1751 ls [.int 6, .ref b, .long ((((xs 4).toInt64) <<< ((32 : Int32).toInt64 &&& 63)) ||| (((xs 5).toInt64) &&& 4294967295)), .int (xs 3), .int (xs 2), .int (xs 1), .ref m0]) rfl ?_
  refine va_sld hx hb hX hbl hbA hS (show vp_in 6 8 by unfold vp_in; decide) dL_law_1751 ?_
  refine W.eq (g2 := F0 m 1752 ls [.int (xs 6), .long ((((xs 4).toInt64) <<< ((32 : Int32).toInt64 &&& 63)) ||| (((xs 5).toInt64) &&& 4294967295)), .int (xs 3), .int (xs 2), .int (xs 1), .ref m0]) rfl ?_
  refine lv_i2l (v := (xs 6).toInt64) hx hb dL_law_1752 rfl ?_
  refine lv_bipush (v := 32) hx hb dL_law_1753 (by decide) ?_
  refine lv_lshl (v := ((xs 6).toInt64) <<< ((32 : Int32).toInt64 &&& 63)) hx hb dL_law_1755 rfl ?_
  refine lv_aload_n hx hb dL_law_1756 rfl (lv_at hl 1 rfl) ?_
  refine lv_iload hx hb dL_law_1757 (lv_at hl 5 rfl) ?_
  refine lv_bipush (v := 7) hx hb dL_law_1759 (by decide) ?_
  refine lv_iadd hx hb dL_law_1761 ?_
  refine W.eq (g2 := F0 m 1762 ls [.int 7, .ref b, .long (((xs 6).toInt64) <<< ((32 : Int32).toInt64 &&& 63)), .long ((((xs 4).toInt64) <<< ((32 : Int32).toInt64 &&& 63)) ||| (((xs 5).toInt64) &&& 4294967295)), .int (xs 3), .int (xs 2), .int (xs 1), .ref m0]) rfl ?_
  refine va_sld hx hb hX hbl hbA hS (show vp_in 7 8 by unfold vp_in; decide) dL_law_1762 ?_
  refine W.eq (g2 := F0 m 1763 ls [.int (xs 7), .long (((xs 6).toInt64) <<< ((32 : Int32).toInt64 &&& 63)), .long ((((xs 4).toInt64) <<< ((32 : Int32).toInt64 &&& 63)) ||| (((xs 5).toInt64) &&& 4294967295)), .int (xs 3), .int (xs 2), .int (xs 1), .ref m0]) rfl ?_
  refine lv_i2l (v := (xs 7).toInt64) hx hb dL_law_1763 rfl ?_
  refine lv_ldc2 (v := 4294967295) hx hb hown (hG _ gw_2764) dL_law_1764 ?_
  refine lv_land hx hb dL_law_1767 ?_
  refine lv_lor hx hb dL_law_1768 ?_
  have hPc := hP.sub (ws' := [(m0, .inr (11, y0))]) [0] rfl
  have hDc := hD.sub (ws' := [(m0, .inr (11, y0))]) [0] (by decide) rfl
  have hFc := va_free (wc := [(m0, .inr (11, y0))]) hD hS hA [0] rfl
  refine va_calll (va_runV (As := [.int (xs 1), .int (xs 2), .int (xs 3), .long ((((xs 4).toInt64) <<< ((32 : Int32).toInt64 &&& 63)) ||| (((xs 5).toInt64) &&& 4294967295)), .long ((((xs 6).toInt64) <<< ((32 : Int32).toInt64 &&& 63)) ||| (((xs 7).toInt64) &&& 4294967295))]) (rest := []) ⟨hx, hb, hml, hown, hts⟩ (a155_X12_tell l  D kA V H.size m0 (xs 1) (xs 2) (xs 3) ((((xs 4).toInt64) <<< ((32 : Int32).toInt64 &&& 63)) ||| (((xs 5).toInt64) &&& 4294967295)) ((((xs 6).toInt64) <<< ((32 : Int32).toInt64 &&& 63)) ||| (((xs 7).toInt64) &&& 4294967295)) y0 (fun k hk => (hq k hk)) hq9) (cwV 5 hts (gw_V gw_2760 gw_2761 gw_2762 gw_16 gw_2763) rfl rfl rfl (by decide +kernel) ⟨(Nat.le_of_ble_eq_true rfl), (Nat.le_of_ble_eq_true rfl)⟩) ⟨aP.blind, va_recv hK hP (ci := 11) (q0 := 0) rfl rfl, aP.pre hE hS hPc hK hDc hFc⟩ rfl rfl hl.1 rfl (lv_room (Nat.le_of_ble_eq_true rfl)) dL_law_1769 ⟨(Nat.le_of_ble_eq_true rfl), (Nat.le_of_ble_eq_true rfl)⟩) hS (fun q _ h => hFc q h) hFc (fun r_100001 u t H1 locs ht hvm hw hB hz1 hk1 hS => ?_)
  obtain ⟨u_100002, rfl⟩ : ∃ z, z = u := ⟨u, rfl⟩
  obtain ⟨hP1, hD1⟩ := hB
  rw [ht] at hP1
  try dsimp only at hw hP1 hD1
  rcases hw with hz | hz | hz | hz | hz | hz | hz | hz | hz | hz | hz | hz | hz | hz | hz | hz | hz | hz | hz | hz | hz | hz | hz | hz | hz | hz | hz | hz | hz | hz | hz | hz | hz | hz | hz | hz | hz | hz | hz | hz | hz | hz
  · exact absurd hz.1 c_49
  · exact absurd hz.1 c_49
  · exact absurd hz.1 c_49
  · exact absurd hz.1 c_49
  · exact absurd hz.1 c_49
  · exact absurd hz.2.1 (Int32.not_lt.mpr c_50)
  · exact absurd hz.2.1 (Int32.not_lt.mpr c_50)
  · exact absurd hz.2.1 (Int32.not_lt.mpr c_50)
  · exact absurd hz.2.1 (Int32.not_lt.mpr c_50)
  · exact absurd hz.2.1 (Int32.not_lt.mpr c_50)
  · exact absurd hz.2.2.1 c_45
  · exact absurd hz.2.2.2.1 c_46
  · exact absurd hz.2.2.2.2.1 c_47
  · exact absurd hz.2.2.2.2.2.1 c_48
  · exact absurd c_51 hz.2.2.2.2.2.2.1
  · exact absurd c_51 hz.2.2.2.2.2.2.1
  · exact absurd c_51 hz.2.2.2.2.2.2.1
  · exact absurd c_51 hz.2.2.2.2.2.2.1
  · exact absurd c_51 hz.2.2.2.2.2.2.1
  · exact absurd c_51 hz.2.2.2.2.2.2.1
  · exact absurd c_51 hz.2.2.2.2.2.2.1
  · exact absurd c_51 hz.2.2.2.2.2.2.1
  · exact absurd c_51 hz.2.2.2.2.2.2.1
  · exact absurd c_51 hz.2.2.2.2.2.2.1
  · exact absurd c_51 hz.2.2.2.2.2.2.1
  · exact absurd c_51 hz.2.2.2.2.2.2.1
  · exact absurd c_51 hz.2.2.2.2.2.2.1
  · exact absurd c_51 hz.2.2.2.2.2.2.1
  · obtain ⟨c_100287, c_100288, c_100289, c_100290, c_100291, c_100292, c_100293, c_100294, c_100295, c_100296, c_100297, c_100298, c_100299, c_100300, c_100301, w_100302, w_100303⟩ := hz
    subst w_100302
    subst w_100303
    obtain ⟨hP, hD⟩ := va_join (wr := [(h0, .inr (10, [.ref x0, .int 0, .ref x1, .ref x2, .ref x3, .ref x4, .ref x5, .ref x6, .ref x7, .ref x8, .int 0, .int 3000])), (o0, .inl (kA 1, 1, .inr (.inl (vp_updL (fun _ => 0) 0 (n_apply (xs 1) 1 (n_cut (xs 2) ((((xs 4).toInt64) <<< ((32 : Int32).toInt64 &&& 63)) ||| (((xs 5).toInt64) &&& 4294967295))) (n_cut (xs 3) ((((xs 6).toInt64) <<< ((32 : Int32).toInt64 &&& 63)) ||| (((xs 7).toInt64) &&& 4294967295))))))))]) (w1 := [(m0, .inr (11, y0.set 9 (.int 0)))]) hP hD [0] [1, 2] rfl rfl (by decide) (by decide) hk1 hFc hP1 hD1
    generalize H1 = H at hP hS ⊢
    have hP : va_P D vwCl [(h0, .inr (10, [.ref x0, .int 0, .ref x1, .ref x2, .ref x3, .ref x4, .ref x5, .ref x6, .ref x7, .ref x8, .int 0, .int 3000])), (o0, .inl (kA 1, 1, .inr (.inl (vp_updL (fun _ => 0) 0 (n_apply (xs 1) 1 (n_cut (xs 2) ((((xs 4).toInt64) <<< ((32 : Int32).toInt64 &&& 63)) ||| (((xs 5).toInt64) &&& 4294967295))) (n_cut (xs 3) ((((xs 6).toInt64) <<< ((32 : Int32).toInt64 &&& 63)) ||| (((xs 7).toInt64) &&& 4294967295)))))))), (m0, .inr (11, y0.set 9 (.int 0)))] H := hP
    have hD : va_D A [(h0, .inr (10, [.ref x0, .int 0, .ref x1, .ref x2, .ref x3, .ref x4, .ref x5, .ref x6, .ref x7, .ref x8, .int 0, .int 3000])), (o0, .inl (kA 1, 1, .inr (.inl (vp_updL (fun _ => 0) 0 (n_apply (xs 1) 1 (n_cut (xs 2) ((((xs 4).toInt64) <<< ((32 : Int32).toInt64 &&& 63)) ||| (((xs 5).toInt64) &&& 4294967295))) (n_cut (xs 3) ((((xs 6).toInt64) <<< ((32 : Int32).toInt64 &&& 63)) ||| (((xs 7).toInt64) &&& 4294967295)))))))), (m0, .inr (11, y0.set 9 (.int 0)))] := hD
    refine lv_lstore (lv' := [(6, .long 0), (5, .int 0), (0, .ref b), (1, .ref h0), (2, .ref m0), (3, .ref o0), (4, .int 0)]) hx hb dL_law_1772 hl (by decide) rfl (fun ls hl => ?_)
    refine lv_aload_n hx hb dL_law_1774 rfl (lv_at hl 4 rfl) ?_
    have hPc := hP.sub (ws' := [(m0, .inr (11, y0.set 9 (.int 0)))]) [2] rfl
    have hDc := hD.sub (ws' := [(m0, .inr (11, y0.set 9 (.int 0)))]) [2] (by decide) rfl
    have hFc := va_free (wc := [(m0, .inr (11, y0.set 9 (.int 0)))]) hD hS hA [2] rfl
    refine va_calli (va_runV (As := []) (rest := []) ⟨hx, hb, hml, hown, hts⟩ (a94_X12_thrown l  D kA V H.size m0 (y0.set 9 (.int 0)) (fun k hk => (by rw [List.length_set]; exact (hq k hk))) (List.getElem?_set_self (hq 9 (by decide)))) (cwV 0 hts (gw_V gw_1879 gw_1880 gw_1881 gw_16 gw_1882) rfl rfl rfl (by decide +kernel) ⟨(Nat.le_of_ble_eq_true rfl), (Nat.le_of_ble_eq_true rfl)⟩) ⟨aP.blind, va_recv hK hP (ci := 11) (q0 := 2) rfl rfl, aP.pre hE hS hPc hK hDc hFc⟩ rfl rfl hl.1 rfl (lv_room (Nat.le_of_ble_eq_true rfl)) dL_law_1775 ⟨(Nat.le_of_ble_eq_true rfl), (Nat.le_of_ble_eq_true rfl)⟩) hS (fun q _ h => hFc q h) hFc (fun r_100482 u t H1 locs ht hvm hw hB hz1 hk1 hS => ?_)
    obtain ⟨hP1, hD1⟩ := hB
    rw [ht] at hP1
    try dsimp only at hw hP1 hD1
    have w_100483 := hw
    subst w_100483
    obtain ⟨hP, hD⟩ := va_join (wr := [(h0, .inr (10, [.ref x0, .int 0, .ref x1, .ref x2, .ref x3, .ref x4, .ref x5, .ref x6, .ref x7, .ref x8, .int 0, .int 3000])), (o0, .inl (kA 1, 1, .inr (.inl (vp_updL (fun _ => 0) 0 (n_apply (xs 1) 1 (n_cut (xs 2) ((((xs 4).toInt64) <<< ((32 : Int32).toInt64 &&& 63)) ||| (((xs 5).toInt64) &&& 4294967295))) (n_cut (xs 3) ((((xs 6).toInt64) <<< ((32 : Int32).toInt64 &&& 63)) ||| (((xs 7).toInt64) &&& 4294967295))))))))]) (w1 := [(m0, .inr (11, (y0.set 9 (.int 0))))]) hP hD [2] [0, 1] rfl rfl (by decide) (by decide) hk1 hFc hP1 hD1
    generalize H1 = H at hP hS ⊢
    have hP : va_P D vwCl [(h0, .inr (10, [.ref x0, .int 0, .ref x1, .ref x2, .ref x3, .ref x4, .ref x5, .ref x6, .ref x7, .ref x8, .int 0, .int 3000])), (o0, .inl (kA 1, 1, .inr (.inl (vp_updL (fun _ => 0) 0 (n_apply (xs 1) 1 (n_cut (xs 2) ((((xs 4).toInt64) <<< ((32 : Int32).toInt64 &&& 63)) ||| (((xs 5).toInt64) &&& 4294967295))) (n_cut (xs 3) ((((xs 6).toInt64) <<< ((32 : Int32).toInt64 &&& 63)) ||| (((xs 7).toInt64) &&& 4294967295)))))))), (m0, .inr (11, (y0.set 9 (.int 0))))] H := hP
    have hD : va_D A [(h0, .inr (10, [.ref x0, .int 0, .ref x1, .ref x2, .ref x3, .ref x4, .ref x5, .ref x6, .ref x7, .ref x8, .int 0, .int 3000])), (o0, .inl (kA 1, 1, .inr (.inl (vp_updL (fun _ => 0) 0 (n_apply (xs 1) 1 (n_cut (xs 2) ((((xs 4).toInt64) <<< ((32 : Int32).toInt64 &&& 63)) ||| (((xs 5).toInt64) &&& 4294967295))) (n_cut (xs 3) ((((xs 6).toInt64) <<< ((32 : Int32).toInt64 &&& 63)) ||| (((xs 7).toInt64) &&& 4294967295)))))))), (m0, .inr (11, (y0.set 9 (.int 0))))] := hD
    refine lv_iload hx hb dL_law_1778 (lv_at hl 1 rfl) ?_
    refine lv_icmp_eq (tgt := 1785) hx hb dL_law_1780 (by decide) (fun c_100484 => ?_) (fun c_100484 => ?_)
    · skip
      refine lv_iload hx hb dL_law_1785 (lv_at hl 1 rfl) ?_
      refine lv_if_ne (tgt := 1801) hx hb dL_law_1787 (by decide) (fun c_100485 => ?_) (fun c_100485 => ?_)
      · exact absurd (by decide) c_100485
      · skip
        refine lv_aload_n hx hb dL_law_1790 rfl (lv_at hl 5 rfl) ?_
        refine lv_iconst (v := 0) hx hb dL_law_1791 (by decide) ?_
        refine va_lald hx hb hK hP 1 1 rfl rfl (show vp_in 0 1 by unfold vp_in; decide) dL_law_1792 ?_
        refine W.eq (g2 := F0 m 1793 ls [.long (n_apply (xs 1) 1 (n_cut (xs 2) ((((xs 4).toInt64) <<< ((32 : Int32).toInt64 &&& 63)) ||| (((xs 5).toInt64) &&& 4294967295))) (n_cut (xs 3) ((((xs 6).toInt64) <<< ((32 : Int32).toInt64 &&& 63)) ||| (((xs 7).toInt64) &&& 4294967295))))]) rfl ?_
        refine lv_lload hx hb dL_law_1793 (lv_at hl 0 rfl) ?_
        refine W.lcmp hx hb dL_law_1795 ?_
        refine lv_if_eq (tgt := 1801) hx hb dL_law_1796 (by decide) (fun c_100486 => ?_) (fun c_100486 => ?_)
        · skip
          refine lv_goto (tgt := 1804) hx hb dL_law_1801 (by decide) ?_
          exact lk_tail hC hA2 (lv_sub hl [2, 6] rfl) hS (Nat.le_of_ble_eq_true rfl) (Nat.le_of_ble_eq_true rfl)
        · exact absurd ((lg_cmp_eq _ _).mpr (qx_h0 (qx_16 c_100298 c_100288 c_100299 c_100300) (by decide) c_100301)) c_100486
    · exact absurd (by decide) c_100484
  · obtain ⟨c_100304, c_100305, c_100306, c_100307, c_100308, c_100309, c_100310, c_100311, c_100312, c_100313, c_100314, c_100315, c_100316, c_100317, c_100318, w_100319, w_100320⟩ := hz
    subst w_100319
    subst w_100320
    obtain ⟨hP, hD⟩ := va_join (wr := [(h0, .inr (10, [.ref x0, .int 0, .ref x1, .ref x2, .ref x3, .ref x4, .ref x5, .ref x6, .ref x7, .ref x8, .int 0, .int 3000])), (o0, .inl (kA 1, 1, .inr (.inl (vp_updL (fun _ => 0) 0 (n_apply (xs 1) 1 (n_cut (xs 2) ((((xs 4).toInt64) <<< ((32 : Int32).toInt64 &&& 63)) ||| (((xs 5).toInt64) &&& 4294967295))) (n_cut (xs 3) ((((xs 6).toInt64) <<< ((32 : Int32).toInt64 &&& 63)) ||| (((xs 7).toInt64) &&& 4294967295))))))))]) (w1 := [(m0, .inr (11, y0.set 9 (.int 0)))]) hP hD [0] [1, 2] rfl rfl (by decide) (by decide) hk1 hFc hP1 hD1
    generalize H1 = H at hP hS ⊢
    have hP : va_P D vwCl [(h0, .inr (10, [.ref x0, .int 0, .ref x1, .ref x2, .ref x3, .ref x4, .ref x5, .ref x6, .ref x7, .ref x8, .int 0, .int 3000])), (o0, .inl (kA 1, 1, .inr (.inl (vp_updL (fun _ => 0) 0 (n_apply (xs 1) 1 (n_cut (xs 2) ((((xs 4).toInt64) <<< ((32 : Int32).toInt64 &&& 63)) ||| (((xs 5).toInt64) &&& 4294967295))) (n_cut (xs 3) ((((xs 6).toInt64) <<< ((32 : Int32).toInt64 &&& 63)) ||| (((xs 7).toInt64) &&& 4294967295)))))))), (m0, .inr (11, y0.set 9 (.int 0)))] H := hP
    have hD : va_D A [(h0, .inr (10, [.ref x0, .int 0, .ref x1, .ref x2, .ref x3, .ref x4, .ref x5, .ref x6, .ref x7, .ref x8, .int 0, .int 3000])), (o0, .inl (kA 1, 1, .inr (.inl (vp_updL (fun _ => 0) 0 (n_apply (xs 1) 1 (n_cut (xs 2) ((((xs 4).toInt64) <<< ((32 : Int32).toInt64 &&& 63)) ||| (((xs 5).toInt64) &&& 4294967295))) (n_cut (xs 3) ((((xs 6).toInt64) <<< ((32 : Int32).toInt64 &&& 63)) ||| (((xs 7).toInt64) &&& 4294967295)))))))), (m0, .inr (11, y0.set 9 (.int 0)))] := hD
    refine lv_lstore (lv' := [(6, .long 1), (5, .int 0), (0, .ref b), (1, .ref h0), (2, .ref m0), (3, .ref o0), (4, .int 0)]) hx hb dL_law_1772 hl (by decide) rfl (fun ls hl => ?_)
    refine lv_aload_n hx hb dL_law_1774 rfl (lv_at hl 4 rfl) ?_
    have hPc := hP.sub (ws' := [(m0, .inr (11, y0.set 9 (.int 0)))]) [2] rfl
    have hDc := hD.sub (ws' := [(m0, .inr (11, y0.set 9 (.int 0)))]) [2] (by decide) rfl
    have hFc := va_free (wc := [(m0, .inr (11, y0.set 9 (.int 0)))]) hD hS hA [2] rfl
    refine va_calli (va_runV (As := []) (rest := []) ⟨hx, hb, hml, hown, hts⟩ (a94_X12_thrown l  D kA V H.size m0 (y0.set 9 (.int 0)) (fun k hk => (by rw [List.length_set]; exact (hq k hk))) (List.getElem?_set_self (hq 9 (by decide)))) (cwV 0 hts (gw_V gw_1879 gw_1880 gw_1881 gw_16 gw_1882) rfl rfl rfl (by decide +kernel) ⟨(Nat.le_of_ble_eq_true rfl), (Nat.le_of_ble_eq_true rfl)⟩) ⟨aP.blind, va_recv hK hP (ci := 11) (q0 := 2) rfl rfl, aP.pre hE hS hPc hK hDc hFc⟩ rfl rfl hl.1 rfl (lv_room (Nat.le_of_ble_eq_true rfl)) dL_law_1775 ⟨(Nat.le_of_ble_eq_true rfl), (Nat.le_of_ble_eq_true rfl)⟩) hS (fun q _ h => hFc q h) hFc (fun r_100487 u t H1 locs ht hvm hw hB hz1 hk1 hS => ?_)
    obtain ⟨hP1, hD1⟩ := hB
    rw [ht] at hP1
    try dsimp only at hw hP1 hD1
    have w_100488 := hw
    subst w_100488
    obtain ⟨hP, hD⟩ := va_join (wr := [(h0, .inr (10, [.ref x0, .int 0, .ref x1, .ref x2, .ref x3, .ref x4, .ref x5, .ref x6, .ref x7, .ref x8, .int 0, .int 3000])), (o0, .inl (kA 1, 1, .inr (.inl (vp_updL (fun _ => 0) 0 (n_apply (xs 1) 1 (n_cut (xs 2) ((((xs 4).toInt64) <<< ((32 : Int32).toInt64 &&& 63)) ||| (((xs 5).toInt64) &&& 4294967295))) (n_cut (xs 3) ((((xs 6).toInt64) <<< ((32 : Int32).toInt64 &&& 63)) ||| (((xs 7).toInt64) &&& 4294967295))))))))]) (w1 := [(m0, .inr (11, (y0.set 9 (.int 0))))]) hP hD [2] [0, 1] rfl rfl (by decide) (by decide) hk1 hFc hP1 hD1
    generalize H1 = H at hP hS ⊢
    have hP : va_P D vwCl [(h0, .inr (10, [.ref x0, .int 0, .ref x1, .ref x2, .ref x3, .ref x4, .ref x5, .ref x6, .ref x7, .ref x8, .int 0, .int 3000])), (o0, .inl (kA 1, 1, .inr (.inl (vp_updL (fun _ => 0) 0 (n_apply (xs 1) 1 (n_cut (xs 2) ((((xs 4).toInt64) <<< ((32 : Int32).toInt64 &&& 63)) ||| (((xs 5).toInt64) &&& 4294967295))) (n_cut (xs 3) ((((xs 6).toInt64) <<< ((32 : Int32).toInt64 &&& 63)) ||| (((xs 7).toInt64) &&& 4294967295)))))))), (m0, .inr (11, (y0.set 9 (.int 0))))] H := hP
    have hD : va_D A [(h0, .inr (10, [.ref x0, .int 0, .ref x1, .ref x2, .ref x3, .ref x4, .ref x5, .ref x6, .ref x7, .ref x8, .int 0, .int 3000])), (o0, .inl (kA 1, 1, .inr (.inl (vp_updL (fun _ => 0) 0 (n_apply (xs 1) 1 (n_cut (xs 2) ((((xs 4).toInt64) <<< ((32 : Int32).toInt64 &&& 63)) ||| (((xs 5).toInt64) &&& 4294967295))) (n_cut (xs 3) ((((xs 6).toInt64) <<< ((32 : Int32).toInt64 &&& 63)) ||| (((xs 7).toInt64) &&& 4294967295)))))))), (m0, .inr (11, (y0.set 9 (.int 0))))] := hD
    refine lv_iload hx hb dL_law_1778 (lv_at hl 1 rfl) ?_
    refine lv_icmp_eq (tgt := 1785) hx hb dL_law_1780 (by decide) (fun c_100489 => ?_) (fun c_100489 => ?_)
    · skip
      refine lv_iload hx hb dL_law_1785 (lv_at hl 1 rfl) ?_
      refine lv_if_ne (tgt := 1801) hx hb dL_law_1787 (by decide) (fun c_100490 => ?_) (fun c_100490 => ?_)
      · exact absurd (by decide) c_100490
      · skip
        refine lv_aload_n hx hb dL_law_1790 rfl (lv_at hl 5 rfl) ?_
        refine lv_iconst (v := 0) hx hb dL_law_1791 (by decide) ?_
        refine va_lald hx hb hK hP 1 1 rfl rfl (show vp_in 0 1 by unfold vp_in; decide) dL_law_1792 ?_
        refine W.eq (g2 := F0 m 1793 ls [.long (n_apply (xs 1) 1 (n_cut (xs 2) ((((xs 4).toInt64) <<< ((32 : Int32).toInt64 &&& 63)) ||| (((xs 5).toInt64) &&& 4294967295))) (n_cut (xs 3) ((((xs 6).toInt64) <<< ((32 : Int32).toInt64 &&& 63)) ||| (((xs 7).toInt64) &&& 4294967295))))]) rfl ?_
        refine lv_lload hx hb dL_law_1793 (lv_at hl 0 rfl) ?_
        refine W.lcmp hx hb dL_law_1795 ?_
        refine lv_if_eq (tgt := 1801) hx hb dL_law_1796 (by decide) (fun c_100491 => ?_) (fun c_100491 => ?_)
        · skip
          refine lv_goto (tgt := 1804) hx hb dL_law_1801 (by decide) ?_
          exact lk_tail hC hA2 (lv_sub hl [2, 6] rfl) hS (Nat.le_of_ble_eq_true rfl) (Nat.le_of_ble_eq_true rfl)
        · exact absurd ((lg_cmp_eq _ _).mpr (qx_h1 (qx_16 c_100315 c_100305 c_100316 c_100317) (by decide) c_100318)) c_100491
    · exact absurd (by decide) c_100489
  · obtain ⟨c_100321, c_100322, c_100323, c_100324, c_100325, c_100326, c_100327, c_100328, c_100329, c_100330, c_100331, c_100332, c_100333, c_100334, w_100335, w_100336⟩ := hz
    subst w_100335
    subst w_100336
    obtain ⟨hP, hD⟩ := va_join (wr := [(h0, .inr (10, [.ref x0, .int 0, .ref x1, .ref x2, .ref x3, .ref x4, .ref x5, .ref x6, .ref x7, .ref x8, .int 0, .int 3000])), (o0, .inl (kA 1, 1, .inr (.inl (vp_updL (fun _ => 0) 0 (n_apply (xs 1) 1 (n_cut (xs 2) ((((xs 4).toInt64) <<< ((32 : Int32).toInt64 &&& 63)) ||| (((xs 5).toInt64) &&& 4294967295))) (n_cut (xs 3) ((((xs 6).toInt64) <<< ((32 : Int32).toInt64 &&& 63)) ||| (((xs 7).toInt64) &&& 4294967295))))))))]) (w1 := [(m0, .inr (11, y0.set 9 (.int 0)))]) hP hD [0] [1, 2] rfl rfl (by decide) (by decide) hk1 hFc hP1 hD1
    generalize H1 = H at hP hS ⊢
    have hP : va_P D vwCl [(h0, .inr (10, [.ref x0, .int 0, .ref x1, .ref x2, .ref x3, .ref x4, .ref x5, .ref x6, .ref x7, .ref x8, .int 0, .int 3000])), (o0, .inl (kA 1, 1, .inr (.inl (vp_updL (fun _ => 0) 0 (n_apply (xs 1) 1 (n_cut (xs 2) ((((xs 4).toInt64) <<< ((32 : Int32).toInt64 &&& 63)) ||| (((xs 5).toInt64) &&& 4294967295))) (n_cut (xs 3) ((((xs 6).toInt64) <<< ((32 : Int32).toInt64 &&& 63)) ||| (((xs 7).toInt64) &&& 4294967295)))))))), (m0, .inr (11, y0.set 9 (.int 0)))] H := hP
    have hD : va_D A [(h0, .inr (10, [.ref x0, .int 0, .ref x1, .ref x2, .ref x3, .ref x4, .ref x5, .ref x6, .ref x7, .ref x8, .int 0, .int 3000])), (o0, .inl (kA 1, 1, .inr (.inl (vp_updL (fun _ => 0) 0 (n_apply (xs 1) 1 (n_cut (xs 2) ((((xs 4).toInt64) <<< ((32 : Int32).toInt64 &&& 63)) ||| (((xs 5).toInt64) &&& 4294967295))) (n_cut (xs 3) ((((xs 6).toInt64) <<< ((32 : Int32).toInt64 &&& 63)) ||| (((xs 7).toInt64) &&& 4294967295)))))))), (m0, .inr (11, y0.set 9 (.int 0)))] := hD
    refine lv_lstore (lv' := [(6, .long ((n_cut (xs 2) ((((xs 4).toInt64) <<< ((32 : Int32).toInt64 &&& 63)) ||| (((xs 5).toInt64) &&& 4294967295))) ^^^ (-1))), (5, .int 0), (0, .ref b), (1, .ref h0), (2, .ref m0), (3, .ref o0), (4, .int 0)]) hx hb dL_law_1772 hl (by decide) rfl (fun ls hl => ?_)
    refine lv_aload_n hx hb dL_law_1774 rfl (lv_at hl 4 rfl) ?_
    have hPc := hP.sub (ws' := [(m0, .inr (11, y0.set 9 (.int 0)))]) [2] rfl
    have hDc := hD.sub (ws' := [(m0, .inr (11, y0.set 9 (.int 0)))]) [2] (by decide) rfl
    have hFc := va_free (wc := [(m0, .inr (11, y0.set 9 (.int 0)))]) hD hS hA [2] rfl
    refine va_calli (va_runV (As := []) (rest := []) ⟨hx, hb, hml, hown, hts⟩ (a94_X12_thrown l  D kA V H.size m0 (y0.set 9 (.int 0)) (fun k hk => (by rw [List.length_set]; exact (hq k hk))) (List.getElem?_set_self (hq 9 (by decide)))) (cwV 0 hts (gw_V gw_1879 gw_1880 gw_1881 gw_16 gw_1882) rfl rfl rfl (by decide +kernel) ⟨(Nat.le_of_ble_eq_true rfl), (Nat.le_of_ble_eq_true rfl)⟩) ⟨aP.blind, va_recv hK hP (ci := 11) (q0 := 2) rfl rfl, aP.pre hE hS hPc hK hDc hFc⟩ rfl rfl hl.1 rfl (lv_room (Nat.le_of_ble_eq_true rfl)) dL_law_1775 ⟨(Nat.le_of_ble_eq_true rfl), (Nat.le_of_ble_eq_true rfl)⟩) hS (fun q _ h => hFc q h) hFc (fun r_100492 u t H1 locs ht hvm hw hB hz1 hk1 hS => ?_)
    obtain ⟨hP1, hD1⟩ := hB
    rw [ht] at hP1
    try dsimp only at hw hP1 hD1
    have w_100493 := hw
    subst w_100493
    obtain ⟨hP, hD⟩ := va_join (wr := [(h0, .inr (10, [.ref x0, .int 0, .ref x1, .ref x2, .ref x3, .ref x4, .ref x5, .ref x6, .ref x7, .ref x8, .int 0, .int 3000])), (o0, .inl (kA 1, 1, .inr (.inl (vp_updL (fun _ => 0) 0 (n_apply (xs 1) 1 (n_cut (xs 2) ((((xs 4).toInt64) <<< ((32 : Int32).toInt64 &&& 63)) ||| (((xs 5).toInt64) &&& 4294967295))) (n_cut (xs 3) ((((xs 6).toInt64) <<< ((32 : Int32).toInt64 &&& 63)) ||| (((xs 7).toInt64) &&& 4294967295))))))))]) (w1 := [(m0, .inr (11, (y0.set 9 (.int 0))))]) hP hD [2] [0, 1] rfl rfl (by decide) (by decide) hk1 hFc hP1 hD1
    generalize H1 = H at hP hS ⊢
    have hP : va_P D vwCl [(h0, .inr (10, [.ref x0, .int 0, .ref x1, .ref x2, .ref x3, .ref x4, .ref x5, .ref x6, .ref x7, .ref x8, .int 0, .int 3000])), (o0, .inl (kA 1, 1, .inr (.inl (vp_updL (fun _ => 0) 0 (n_apply (xs 1) 1 (n_cut (xs 2) ((((xs 4).toInt64) <<< ((32 : Int32).toInt64 &&& 63)) ||| (((xs 5).toInt64) &&& 4294967295))) (n_cut (xs 3) ((((xs 6).toInt64) <<< ((32 : Int32).toInt64 &&& 63)) ||| (((xs 7).toInt64) &&& 4294967295)))))))), (m0, .inr (11, (y0.set 9 (.int 0))))] H := hP
    have hD : va_D A [(h0, .inr (10, [.ref x0, .int 0, .ref x1, .ref x2, .ref x3, .ref x4, .ref x5, .ref x6, .ref x7, .ref x8, .int 0, .int 3000])), (o0, .inl (kA 1, 1, .inr (.inl (vp_updL (fun _ => 0) 0 (n_apply (xs 1) 1 (n_cut (xs 2) ((((xs 4).toInt64) <<< ((32 : Int32).toInt64 &&& 63)) ||| (((xs 5).toInt64) &&& 4294967295))) (n_cut (xs 3) ((((xs 6).toInt64) <<< ((32 : Int32).toInt64 &&& 63)) ||| (((xs 7).toInt64) &&& 4294967295)))))))), (m0, .inr (11, (y0.set 9 (.int 0))))] := hD
    refine lv_iload hx hb dL_law_1778 (lv_at hl 1 rfl) ?_
    refine lv_icmp_eq (tgt := 1785) hx hb dL_law_1780 (by decide) (fun c_100494 => ?_) (fun c_100494 => ?_)
    · skip
      refine lv_iload hx hb dL_law_1785 (lv_at hl 1 rfl) ?_
      refine lv_if_ne (tgt := 1801) hx hb dL_law_1787 (by decide) (fun c_100495 => ?_) (fun c_100495 => ?_)
      · exact absurd (by decide) c_100495
      · skip
        refine lv_aload_n hx hb dL_law_1790 rfl (lv_at hl 5 rfl) ?_
        refine lv_iconst (v := 0) hx hb dL_law_1791 (by decide) ?_
        refine va_lald hx hb hK hP 1 1 rfl rfl (show vp_in 0 1 by unfold vp_in; decide) dL_law_1792 ?_
        refine W.eq (g2 := F0 m 1793 ls [.long (n_apply (xs 1) 1 (n_cut (xs 2) ((((xs 4).toInt64) <<< ((32 : Int32).toInt64 &&& 63)) ||| (((xs 5).toInt64) &&& 4294967295))) (n_cut (xs 3) ((((xs 6).toInt64) <<< ((32 : Int32).toInt64 &&& 63)) ||| (((xs 7).toInt64) &&& 4294967295))))]) rfl ?_
        refine lv_lload hx hb dL_law_1793 (lv_at hl 0 rfl) ?_
        refine W.lcmp hx hb dL_law_1795 ?_
        refine lv_if_eq (tgt := 1801) hx hb dL_law_1796 (by decide) (fun c_100496 => ?_) (fun c_100496 => ?_)
        · skip
          refine lv_goto (tgt := 1804) hx hb dL_law_1801 (by decide) ?_
          exact lk_tail hC hA2 (lv_sub hl [2, 6] rfl) hS (Nat.le_of_ble_eq_true rfl) (Nat.le_of_ble_eq_true rfl)
        · exact absurd ((lg_cmp_eq _ _).mpr (qx_g1 c_100334)) c_100496
    · exact absurd (by decide) c_100494
  · obtain ⟨c_100337, c_100338, c_100339, c_100340, c_100341, c_100342, c_100343, c_100344, c_100345, c_100346, c_100347, c_100348, c_100349, w_100350, w_100351⟩ := hz
    subst w_100350
    subst w_100351
    obtain ⟨hP, hD⟩ := va_join (wr := [(h0, .inr (10, [.ref x0, .int 0, .ref x1, .ref x2, .ref x3, .ref x4, .ref x5, .ref x6, .ref x7, .ref x8, .int 0, .int 3000])), (o0, .inl (kA 1, 1, .inr (.inl (vp_updL (fun _ => 0) 0 (n_apply (xs 1) 1 (n_cut (xs 2) ((((xs 4).toInt64) <<< ((32 : Int32).toInt64 &&& 63)) ||| (((xs 5).toInt64) &&& 4294967295))) (n_cut (xs 3) ((((xs 6).toInt64) <<< ((32 : Int32).toInt64 &&& 63)) ||| (((xs 7).toInt64) &&& 4294967295))))))))]) (w1 := [(m0, .inr (11, y0.set 9 (.int 0)))]) hP hD [0] [1, 2] rfl rfl (by decide) (by decide) hk1 hFc hP1 hD1
    generalize H1 = H at hP hS ⊢
    have hP : va_P D vwCl [(h0, .inr (10, [.ref x0, .int 0, .ref x1, .ref x2, .ref x3, .ref x4, .ref x5, .ref x6, .ref x7, .ref x8, .int 0, .int 3000])), (o0, .inl (kA 1, 1, .inr (.inl (vp_updL (fun _ => 0) 0 (n_apply (xs 1) 1 (n_cut (xs 2) ((((xs 4).toInt64) <<< ((32 : Int32).toInt64 &&& 63)) ||| (((xs 5).toInt64) &&& 4294967295))) (n_cut (xs 3) ((((xs 6).toInt64) <<< ((32 : Int32).toInt64 &&& 63)) ||| (((xs 7).toInt64) &&& 4294967295)))))))), (m0, .inr (11, y0.set 9 (.int 0)))] H := hP
    have hD : va_D A [(h0, .inr (10, [.ref x0, .int 0, .ref x1, .ref x2, .ref x3, .ref x4, .ref x5, .ref x6, .ref x7, .ref x8, .int 0, .int 3000])), (o0, .inl (kA 1, 1, .inr (.inl (vp_updL (fun _ => 0) 0 (n_apply (xs 1) 1 (n_cut (xs 2) ((((xs 4).toInt64) <<< ((32 : Int32).toInt64 &&& 63)) ||| (((xs 5).toInt64) &&& 4294967295))) (n_cut (xs 3) ((((xs 6).toInt64) <<< ((32 : Int32).toInt64 &&& 63)) ||| (((xs 7).toInt64) &&& 4294967295)))))))), (m0, .inr (11, y0.set 9 (.int 0)))] := hD
    refine lv_lstore (lv' := [(6, .long (r_worked 1 (-(n_cut (xs 2) ((((xs 4).toInt64) <<< ((32 : Int32).toInt64 &&& 63)) ||| (((xs 5).toInt64) &&& 4294967295)))))), (5, .int 0), (0, .ref b), (1, .ref h0), (2, .ref m0), (3, .ref o0), (4, .int 0)]) hx hb dL_law_1772 hl (by decide) rfl (fun ls hl => ?_)
    refine lv_aload_n hx hb dL_law_1774 rfl (lv_at hl 4 rfl) ?_
    have hPc := hP.sub (ws' := [(m0, .inr (11, y0.set 9 (.int 0)))]) [2] rfl
    have hDc := hD.sub (ws' := [(m0, .inr (11, y0.set 9 (.int 0)))]) [2] (by decide) rfl
    have hFc := va_free (wc := [(m0, .inr (11, y0.set 9 (.int 0)))]) hD hS hA [2] rfl
    refine va_calli (va_runV (As := []) (rest := []) ⟨hx, hb, hml, hown, hts⟩ (a94_X12_thrown l  D kA V H.size m0 (y0.set 9 (.int 0)) (fun k hk => (by rw [List.length_set]; exact (hq k hk))) (List.getElem?_set_self (hq 9 (by decide)))) (cwV 0 hts (gw_V gw_1879 gw_1880 gw_1881 gw_16 gw_1882) rfl rfl rfl (by decide +kernel) ⟨(Nat.le_of_ble_eq_true rfl), (Nat.le_of_ble_eq_true rfl)⟩) ⟨aP.blind, va_recv hK hP (ci := 11) (q0 := 2) rfl rfl, aP.pre hE hS hPc hK hDc hFc⟩ rfl rfl hl.1 rfl (lv_room (Nat.le_of_ble_eq_true rfl)) dL_law_1775 ⟨(Nat.le_of_ble_eq_true rfl), (Nat.le_of_ble_eq_true rfl)⟩) hS (fun q _ h => hFc q h) hFc (fun r_100497 u t H1 locs ht hvm hw hB hz1 hk1 hS => ?_)
    obtain ⟨hP1, hD1⟩ := hB
    rw [ht] at hP1
    try dsimp only at hw hP1 hD1
    have w_100498 := hw
    subst w_100498
    obtain ⟨hP, hD⟩ := va_join (wr := [(h0, .inr (10, [.ref x0, .int 0, .ref x1, .ref x2, .ref x3, .ref x4, .ref x5, .ref x6, .ref x7, .ref x8, .int 0, .int 3000])), (o0, .inl (kA 1, 1, .inr (.inl (vp_updL (fun _ => 0) 0 (n_apply (xs 1) 1 (n_cut (xs 2) ((((xs 4).toInt64) <<< ((32 : Int32).toInt64 &&& 63)) ||| (((xs 5).toInt64) &&& 4294967295))) (n_cut (xs 3) ((((xs 6).toInt64) <<< ((32 : Int32).toInt64 &&& 63)) ||| (((xs 7).toInt64) &&& 4294967295))))))))]) (w1 := [(m0, .inr (11, (y0.set 9 (.int 0))))]) hP hD [2] [0, 1] rfl rfl (by decide) (by decide) hk1 hFc hP1 hD1
    generalize H1 = H at hP hS ⊢
    have hP : va_P D vwCl [(h0, .inr (10, [.ref x0, .int 0, .ref x1, .ref x2, .ref x3, .ref x4, .ref x5, .ref x6, .ref x7, .ref x8, .int 0, .int 3000])), (o0, .inl (kA 1, 1, .inr (.inl (vp_updL (fun _ => 0) 0 (n_apply (xs 1) 1 (n_cut (xs 2) ((((xs 4).toInt64) <<< ((32 : Int32).toInt64 &&& 63)) ||| (((xs 5).toInt64) &&& 4294967295))) (n_cut (xs 3) ((((xs 6).toInt64) <<< ((32 : Int32).toInt64 &&& 63)) ||| (((xs 7).toInt64) &&& 4294967295)))))))), (m0, .inr (11, (y0.set 9 (.int 0))))] H := hP
    have hD : va_D A [(h0, .inr (10, [.ref x0, .int 0, .ref x1, .ref x2, .ref x3, .ref x4, .ref x5, .ref x6, .ref x7, .ref x8, .int 0, .int 3000])), (o0, .inl (kA 1, 1, .inr (.inl (vp_updL (fun _ => 0) 0 (n_apply (xs 1) 1 (n_cut (xs 2) ((((xs 4).toInt64) <<< ((32 : Int32).toInt64 &&& 63)) ||| (((xs 5).toInt64) &&& 4294967295))) (n_cut (xs 3) ((((xs 6).toInt64) <<< ((32 : Int32).toInt64 &&& 63)) ||| (((xs 7).toInt64) &&& 4294967295)))))))), (m0, .inr (11, (y0.set 9 (.int 0))))] := hD
    refine lv_iload hx hb dL_law_1778 (lv_at hl 1 rfl) ?_
    refine lv_icmp_eq (tgt := 1785) hx hb dL_law_1780 (by decide) (fun c_100499 => ?_) (fun c_100499 => ?_)
    · skip
      refine lv_iload hx hb dL_law_1785 (lv_at hl 1 rfl) ?_
      refine lv_if_ne (tgt := 1801) hx hb dL_law_1787 (by decide) (fun c_100500 => ?_) (fun c_100500 => ?_)
      · exact absurd (by decide) c_100500
      · skip
        refine lv_aload_n hx hb dL_law_1790 rfl (lv_at hl 5 rfl) ?_
        refine lv_iconst (v := 0) hx hb dL_law_1791 (by decide) ?_
        refine va_lald hx hb hK hP 1 1 rfl rfl (show vp_in 0 1 by unfold vp_in; decide) dL_law_1792 ?_
        refine W.eq (g2 := F0 m 1793 ls [.long (n_apply (xs 1) 1 (n_cut (xs 2) ((((xs 4).toInt64) <<< ((32 : Int32).toInt64 &&& 63)) ||| (((xs 5).toInt64) &&& 4294967295))) (n_cut (xs 3) ((((xs 6).toInt64) <<< ((32 : Int32).toInt64 &&& 63)) ||| (((xs 7).toInt64) &&& 4294967295))))]) rfl ?_
        refine lv_lload hx hb dL_law_1793 (lv_at hl 0 rfl) ?_
        refine W.lcmp hx hb dL_law_1795 ?_
        refine lv_if_eq (tgt := 1801) hx hb dL_law_1796 (by decide) (fun c_100501 => ?_) (fun c_100501 => ?_)
        · skip
          refine lv_goto (tgt := 1804) hx hb dL_law_1801 (by decide) ?_
          exact lk_tail hC hA2 (lv_sub hl [2, 6] rfl) hS (Nat.le_of_ble_eq_true rfl) (Nat.le_of_ble_eq_true rfl)
        · exact absurd ((lg_cmp_eq _ _).mpr (qx_f1 c_100349)) c_100501
    · exact absurd (by decide) c_100499
  · obtain ⟨c_100352, c_100353, c_100354, c_100355, c_100356, c_100357, c_100358, c_100359, c_100360, c_100361, c_100362, c_100363, w_100364, w_100365⟩ := hz
    subst w_100364
    subst w_100365
    obtain ⟨hP, hD⟩ := va_join (wr := [(h0, .inr (10, [.ref x0, .int 0, .ref x1, .ref x2, .ref x3, .ref x4, .ref x5, .ref x6, .ref x7, .ref x8, .int 0, .int 3000])), (o0, .inl (kA 1, 1, .inr (.inl (vp_updL (fun _ => 0) 0 (n_apply (xs 1) 1 (n_cut (xs 2) ((((xs 4).toInt64) <<< ((32 : Int32).toInt64 &&& 63)) ||| (((xs 5).toInt64) &&& 4294967295))) (n_cut (xs 3) ((((xs 6).toInt64) <<< ((32 : Int32).toInt64 &&& 63)) ||| (((xs 7).toInt64) &&& 4294967295))))))))]) (w1 := [(m0, .inr (11, y0.set 9 (.int 0)))]) hP hD [0] [1, 2] rfl rfl (by decide) (by decide) hk1 hFc hP1 hD1
    generalize H1 = H at hP hS ⊢
    have hP : va_P D vwCl [(h0, .inr (10, [.ref x0, .int 0, .ref x1, .ref x2, .ref x3, .ref x4, .ref x5, .ref x6, .ref x7, .ref x8, .int 0, .int 3000])), (o0, .inl (kA 1, 1, .inr (.inl (vp_updL (fun _ => 0) 0 (n_apply (xs 1) 1 (n_cut (xs 2) ((((xs 4).toInt64) <<< ((32 : Int32).toInt64 &&& 63)) ||| (((xs 5).toInt64) &&& 4294967295))) (n_cut (xs 3) ((((xs 6).toInt64) <<< ((32 : Int32).toInt64 &&& 63)) ||| (((xs 7).toInt64) &&& 4294967295)))))))), (m0, .inr (11, y0.set 9 (.int 0)))] H := hP
    have hD : va_D A [(h0, .inr (10, [.ref x0, .int 0, .ref x1, .ref x2, .ref x3, .ref x4, .ref x5, .ref x6, .ref x7, .ref x8, .int 0, .int 3000])), (o0, .inl (kA 1, 1, .inr (.inl (vp_updL (fun _ => 0) 0 (n_apply (xs 1) 1 (n_cut (xs 2) ((((xs 4).toInt64) <<< ((32 : Int32).toInt64 &&& 63)) ||| (((xs 5).toInt64) &&& 4294967295))) (n_cut (xs 3) ((((xs 6).toInt64) <<< ((32 : Int32).toInt64 &&& 63)) ||| (((xs 7).toInt64) &&& 4294967295)))))))), (m0, .inr (11, y0.set 9 (.int 0)))] := hD
    refine lv_lstore (lv' := [(6, .long (r_special ((xs 1) - 6) 1 (n_cut (xs 2) ((((xs 4).toInt64) <<< ((32 : Int32).toInt64 &&& 63)) ||| (((xs 5).toInt64) &&& 4294967295))) 0)), (5, .int 0), (0, .ref b), (1, .ref h0), (2, .ref m0), (3, .ref o0), (4, .int 0)]) hx hb dL_law_1772 hl (by decide) rfl (fun ls hl => ?_)
    refine lv_aload_n hx hb dL_law_1774 rfl (lv_at hl 4 rfl) ?_
    have hPc := hP.sub (ws' := [(m0, .inr (11, y0.set 9 (.int 0)))]) [2] rfl
    have hDc := hD.sub (ws' := [(m0, .inr (11, y0.set 9 (.int 0)))]) [2] (by decide) rfl
    have hFc := va_free (wc := [(m0, .inr (11, y0.set 9 (.int 0)))]) hD hS hA [2] rfl
    refine va_calli (va_runV (As := []) (rest := []) ⟨hx, hb, hml, hown, hts⟩ (a94_X12_thrown l  D kA V H.size m0 (y0.set 9 (.int 0)) (fun k hk => (by rw [List.length_set]; exact (hq k hk))) (List.getElem?_set_self (hq 9 (by decide)))) (cwV 0 hts (gw_V gw_1879 gw_1880 gw_1881 gw_16 gw_1882) rfl rfl rfl (by decide +kernel) ⟨(Nat.le_of_ble_eq_true rfl), (Nat.le_of_ble_eq_true rfl)⟩) ⟨aP.blind, va_recv hK hP (ci := 11) (q0 := 2) rfl rfl, aP.pre hE hS hPc hK hDc hFc⟩ rfl rfl hl.1 rfl (lv_room (Nat.le_of_ble_eq_true rfl)) dL_law_1775 ⟨(Nat.le_of_ble_eq_true rfl), (Nat.le_of_ble_eq_true rfl)⟩) hS (fun q _ h => hFc q h) hFc (fun r_100502 u t H1 locs ht hvm hw hB hz1 hk1 hS => ?_)
    obtain ⟨hP1, hD1⟩ := hB
    rw [ht] at hP1
    try dsimp only at hw hP1 hD1
    have w_100503 := hw
    subst w_100503
    obtain ⟨hP, hD⟩ := va_join (wr := [(h0, .inr (10, [.ref x0, .int 0, .ref x1, .ref x2, .ref x3, .ref x4, .ref x5, .ref x6, .ref x7, .ref x8, .int 0, .int 3000])), (o0, .inl (kA 1, 1, .inr (.inl (vp_updL (fun _ => 0) 0 (n_apply (xs 1) 1 (n_cut (xs 2) ((((xs 4).toInt64) <<< ((32 : Int32).toInt64 &&& 63)) ||| (((xs 5).toInt64) &&& 4294967295))) (n_cut (xs 3) ((((xs 6).toInt64) <<< ((32 : Int32).toInt64 &&& 63)) ||| (((xs 7).toInt64) &&& 4294967295))))))))]) (w1 := [(m0, .inr (11, (y0.set 9 (.int 0))))]) hP hD [2] [0, 1] rfl rfl (by decide) (by decide) hk1 hFc hP1 hD1
    generalize H1 = H at hP hS ⊢
    have hP : va_P D vwCl [(h0, .inr (10, [.ref x0, .int 0, .ref x1, .ref x2, .ref x3, .ref x4, .ref x5, .ref x6, .ref x7, .ref x8, .int 0, .int 3000])), (o0, .inl (kA 1, 1, .inr (.inl (vp_updL (fun _ => 0) 0 (n_apply (xs 1) 1 (n_cut (xs 2) ((((xs 4).toInt64) <<< ((32 : Int32).toInt64 &&& 63)) ||| (((xs 5).toInt64) &&& 4294967295))) (n_cut (xs 3) ((((xs 6).toInt64) <<< ((32 : Int32).toInt64 &&& 63)) ||| (((xs 7).toInt64) &&& 4294967295)))))))), (m0, .inr (11, (y0.set 9 (.int 0))))] H := hP
    have hD : va_D A [(h0, .inr (10, [.ref x0, .int 0, .ref x1, .ref x2, .ref x3, .ref x4, .ref x5, .ref x6, .ref x7, .ref x8, .int 0, .int 3000])), (o0, .inl (kA 1, 1, .inr (.inl (vp_updL (fun _ => 0) 0 (n_apply (xs 1) 1 (n_cut (xs 2) ((((xs 4).toInt64) <<< ((32 : Int32).toInt64 &&& 63)) ||| (((xs 5).toInt64) &&& 4294967295))) (n_cut (xs 3) ((((xs 6).toInt64) <<< ((32 : Int32).toInt64 &&& 63)) ||| (((xs 7).toInt64) &&& 4294967295)))))))), (m0, .inr (11, (y0.set 9 (.int 0))))] := hD
    refine lv_iload hx hb dL_law_1778 (lv_at hl 1 rfl) ?_
    refine lv_icmp_eq (tgt := 1785) hx hb dL_law_1780 (by decide) (fun c_100504 => ?_) (fun c_100504 => ?_)
    · skip
      refine lv_iload hx hb dL_law_1785 (lv_at hl 1 rfl) ?_
      refine lv_if_ne (tgt := 1801) hx hb dL_law_1787 (by decide) (fun c_100505 => ?_) (fun c_100505 => ?_)
      · exact absurd (by decide) c_100505
      · skip
        refine lv_aload_n hx hb dL_law_1790 rfl (lv_at hl 5 rfl) ?_
        refine lv_iconst (v := 0) hx hb dL_law_1791 (by decide) ?_
        refine va_lald hx hb hK hP 1 1 rfl rfl (show vp_in 0 1 by unfold vp_in; decide) dL_law_1792 ?_
        refine W.eq (g2 := F0 m 1793 ls [.long (n_apply (xs 1) 1 (n_cut (xs 2) ((((xs 4).toInt64) <<< ((32 : Int32).toInt64 &&& 63)) ||| (((xs 5).toInt64) &&& 4294967295))) (n_cut (xs 3) ((((xs 6).toInt64) <<< ((32 : Int32).toInt64 &&& 63)) ||| (((xs 7).toInt64) &&& 4294967295))))]) rfl ?_
        refine lv_lload hx hb dL_law_1793 (lv_at hl 0 rfl) ?_
        refine W.lcmp hx hb dL_law_1795 ?_
        refine lv_if_eq (tgt := 1801) hx hb dL_law_1796 (by decide) (fun c_100506 => ?_) (fun c_100506 => ?_)
        · skip
          refine lv_goto (tgt := 1804) hx hb dL_law_1801 (by decide) ?_
          exact lk_tail hC hA2 (lv_sub hl [2, 6] rfl) hS (Nat.le_of_ble_eq_true rfl) (Nat.le_of_ble_eq_true rfl)
        · exact absurd ((lg_cmp_eq _ _).mpr (qx_e c_100361 c_100362 c_100363)) c_100506
    · exact absurd (by decide) c_100504
  · obtain ⟨c_100366, c_100367, c_100368, c_100369, c_100370, c_100371, c_100372, c_100373, c_100374, c_100375, c_100376, w_100377, w_100378⟩ := hz
    subst w_100377
    subst w_100378
    obtain ⟨hP, hD⟩ := va_join (wr := [(h0, .inr (10, [.ref x0, .int 0, .ref x1, .ref x2, .ref x3, .ref x4, .ref x5, .ref x6, .ref x7, .ref x8, .int 0, .int 3000])), (o0, .inl (kA 1, 1, .inr (.inl (vp_updL (fun _ => 0) 0 (n_apply (xs 1) 1 (n_cut (xs 2) ((((xs 4).toInt64) <<< ((32 : Int32).toInt64 &&& 63)) ||| (((xs 5).toInt64) &&& 4294967295))) (n_cut (xs 3) ((((xs 6).toInt64) <<< ((32 : Int32).toInt64 &&& 63)) ||| (((xs 7).toInt64) &&& 4294967295))))))))]) (w1 := [(m0, .inr (11, y0.set 9 (.int 0)))]) hP hD [0] [1, 2] rfl rfl (by decide) (by decide) hk1 hFc hP1 hD1
    generalize H1 = H at hP hS ⊢
    have hP : va_P D vwCl [(h0, .inr (10, [.ref x0, .int 0, .ref x1, .ref x2, .ref x3, .ref x4, .ref x5, .ref x6, .ref x7, .ref x8, .int 0, .int 3000])), (o0, .inl (kA 1, 1, .inr (.inl (vp_updL (fun _ => 0) 0 (n_apply (xs 1) 1 (n_cut (xs 2) ((((xs 4).toInt64) <<< ((32 : Int32).toInt64 &&& 63)) ||| (((xs 5).toInt64) &&& 4294967295))) (n_cut (xs 3) ((((xs 6).toInt64) <<< ((32 : Int32).toInt64 &&& 63)) ||| (((xs 7).toInt64) &&& 4294967295)))))))), (m0, .inr (11, y0.set 9 (.int 0)))] H := hP
    have hD : va_D A [(h0, .inr (10, [.ref x0, .int 0, .ref x1, .ref x2, .ref x3, .ref x4, .ref x5, .ref x6, .ref x7, .ref x8, .int 0, .int 3000])), (o0, .inl (kA 1, 1, .inr (.inl (vp_updL (fun _ => 0) 0 (n_apply (xs 1) 1 (n_cut (xs 2) ((((xs 4).toInt64) <<< ((32 : Int32).toInt64 &&& 63)) ||| (((xs 5).toInt64) &&& 4294967295))) (n_cut (xs 3) ((((xs 6).toInt64) <<< ((32 : Int32).toInt64 &&& 63)) ||| (((xs 7).toInt64) &&& 4294967295)))))))), (m0, .inr (11, y0.set 9 (.int 0)))] := hD
    refine lv_lstore (lv' := [(6, .long (r_special 0 1 (n_cut (xs 2) ((((xs 4).toInt64) <<< ((32 : Int32).toInt64 &&& 63)) ||| (((xs 5).toInt64) &&& 4294967295))) 0)), (5, .int 0), (0, .ref b), (1, .ref h0), (2, .ref m0), (3, .ref o0), (4, .int 0)]) hx hb dL_law_1772 hl (by decide) rfl (fun ls hl => ?_)
    refine lv_aload_n hx hb dL_law_1774 rfl (lv_at hl 4 rfl) ?_
    have hPc := hP.sub (ws' := [(m0, .inr (11, y0.set 9 (.int 0)))]) [2] rfl
    have hDc := hD.sub (ws' := [(m0, .inr (11, y0.set 9 (.int 0)))]) [2] (by decide) rfl
    have hFc := va_free (wc := [(m0, .inr (11, y0.set 9 (.int 0)))]) hD hS hA [2] rfl
    refine va_calli (va_runV (As := []) (rest := []) ⟨hx, hb, hml, hown, hts⟩ (a94_X12_thrown l  D kA V H.size m0 (y0.set 9 (.int 0)) (fun k hk => (by rw [List.length_set]; exact (hq k hk))) (List.getElem?_set_self (hq 9 (by decide)))) (cwV 0 hts (gw_V gw_1879 gw_1880 gw_1881 gw_16 gw_1882) rfl rfl rfl (by decide +kernel) ⟨(Nat.le_of_ble_eq_true rfl), (Nat.le_of_ble_eq_true rfl)⟩) ⟨aP.blind, va_recv hK hP (ci := 11) (q0 := 2) rfl rfl, aP.pre hE hS hPc hK hDc hFc⟩ rfl rfl hl.1 rfl (lv_room (Nat.le_of_ble_eq_true rfl)) dL_law_1775 ⟨(Nat.le_of_ble_eq_true rfl), (Nat.le_of_ble_eq_true rfl)⟩) hS (fun q _ h => hFc q h) hFc (fun r_100507 u t H1 locs ht hvm hw hB hz1 hk1 hS => ?_)
    obtain ⟨hP1, hD1⟩ := hB
    rw [ht] at hP1
    try dsimp only at hw hP1 hD1
    have w_100508 := hw
    subst w_100508
    obtain ⟨hP, hD⟩ := va_join (wr := [(h0, .inr (10, [.ref x0, .int 0, .ref x1, .ref x2, .ref x3, .ref x4, .ref x5, .ref x6, .ref x7, .ref x8, .int 0, .int 3000])), (o0, .inl (kA 1, 1, .inr (.inl (vp_updL (fun _ => 0) 0 (n_apply (xs 1) 1 (n_cut (xs 2) ((((xs 4).toInt64) <<< ((32 : Int32).toInt64 &&& 63)) ||| (((xs 5).toInt64) &&& 4294967295))) (n_cut (xs 3) ((((xs 6).toInt64) <<< ((32 : Int32).toInt64 &&& 63)) ||| (((xs 7).toInt64) &&& 4294967295))))))))]) (w1 := [(m0, .inr (11, (y0.set 9 (.int 0))))]) hP hD [2] [0, 1] rfl rfl (by decide) (by decide) hk1 hFc hP1 hD1
    generalize H1 = H at hP hS ⊢
    have hP : va_P D vwCl [(h0, .inr (10, [.ref x0, .int 0, .ref x1, .ref x2, .ref x3, .ref x4, .ref x5, .ref x6, .ref x7, .ref x8, .int 0, .int 3000])), (o0, .inl (kA 1, 1, .inr (.inl (vp_updL (fun _ => 0) 0 (n_apply (xs 1) 1 (n_cut (xs 2) ((((xs 4).toInt64) <<< ((32 : Int32).toInt64 &&& 63)) ||| (((xs 5).toInt64) &&& 4294967295))) (n_cut (xs 3) ((((xs 6).toInt64) <<< ((32 : Int32).toInt64 &&& 63)) ||| (((xs 7).toInt64) &&& 4294967295)))))))), (m0, .inr (11, (y0.set 9 (.int 0))))] H := hP
    have hD : va_D A [(h0, .inr (10, [.ref x0, .int 0, .ref x1, .ref x2, .ref x3, .ref x4, .ref x5, .ref x6, .ref x7, .ref x8, .int 0, .int 3000])), (o0, .inl (kA 1, 1, .inr (.inl (vp_updL (fun _ => 0) 0 (n_apply (xs 1) 1 (n_cut (xs 2) ((((xs 4).toInt64) <<< ((32 : Int32).toInt64 &&& 63)) ||| (((xs 5).toInt64) &&& 4294967295))) (n_cut (xs 3) ((((xs 6).toInt64) <<< ((32 : Int32).toInt64 &&& 63)) ||| (((xs 7).toInt64) &&& 4294967295)))))))), (m0, .inr (11, (y0.set 9 (.int 0))))] := hD
    refine lv_iload hx hb dL_law_1778 (lv_at hl 1 rfl) ?_
    refine lv_icmp_eq (tgt := 1785) hx hb dL_law_1780 (by decide) (fun c_100509 => ?_) (fun c_100509 => ?_)
    · skip
      refine lv_iload hx hb dL_law_1785 (lv_at hl 1 rfl) ?_
      refine lv_if_ne (tgt := 1801) hx hb dL_law_1787 (by decide) (fun c_100510 => ?_) (fun c_100510 => ?_)
      · exact absurd (by decide) c_100510
      · skip
        refine lv_aload_n hx hb dL_law_1790 rfl (lv_at hl 5 rfl) ?_
        refine lv_iconst (v := 0) hx hb dL_law_1791 (by decide) ?_
        refine va_lald hx hb hK hP 1 1 rfl rfl (show vp_in 0 1 by unfold vp_in; decide) dL_law_1792 ?_
        refine W.eq (g2 := F0 m 1793 ls [.long (n_apply (xs 1) 1 (n_cut (xs 2) ((((xs 4).toInt64) <<< ((32 : Int32).toInt64 &&& 63)) ||| (((xs 5).toInt64) &&& 4294967295))) (n_cut (xs 3) ((((xs 6).toInt64) <<< ((32 : Int32).toInt64 &&& 63)) ||| (((xs 7).toInt64) &&& 4294967295))))]) rfl ?_
        refine lv_lload hx hb dL_law_1793 (lv_at hl 0 rfl) ?_
        refine W.lcmp hx hb dL_law_1795 ?_
        refine lv_if_eq (tgt := 1801) hx hb dL_law_1796 (by decide) (fun c_100511 => ?_) (fun c_100511 => ?_)
        · skip
          refine lv_goto (tgt := 1804) hx hb dL_law_1801 (by decide) ?_
          exact lk_tail hC hA2 (lv_sub hl [2, 6] rfl) hS (Nat.le_of_ble_eq_true rfl) (Nat.le_of_ble_eq_true rfl)
        · exact absurd ((lg_cmp_eq _ _).mpr (qx_d c_100376)) c_100511
    · exact absurd (by decide) c_100509
  · obtain ⟨c_100379, c_100380, c_100381, c_100382, c_100383, c_100384, c_100385, c_100386, c_100387, c_100388, w_100389, w_100390⟩ := hz
    subst w_100389
    subst w_100390
    obtain ⟨hP, hD⟩ := va_join (wr := [(h0, .inr (10, [.ref x0, .int 0, .ref x1, .ref x2, .ref x3, .ref x4, .ref x5, .ref x6, .ref x7, .ref x8, .int 0, .int 3000])), (o0, .inl (kA 1, 1, .inr (.inl (vp_updL (fun _ => 0) 0 (n_apply (xs 1) 1 (n_cut (xs 2) ((((xs 4).toInt64) <<< ((32 : Int32).toInt64 &&& 63)) ||| (((xs 5).toInt64) &&& 4294967295))) (n_cut (xs 3) ((((xs 6).toInt64) <<< ((32 : Int32).toInt64 &&& 63)) ||| (((xs 7).toInt64) &&& 4294967295))))))))]) (w1 := [(m0, .inr (11, y0.set 9 (.int 0)))]) hP hD [0] [1, 2] rfl rfl (by decide) (by decide) hk1 hFc hP1 hD1
    generalize H1 = H at hP hS ⊢
    have hP : va_P D vwCl [(h0, .inr (10, [.ref x0, .int 0, .ref x1, .ref x2, .ref x3, .ref x4, .ref x5, .ref x6, .ref x7, .ref x8, .int 0, .int 3000])), (o0, .inl (kA 1, 1, .inr (.inl (vp_updL (fun _ => 0) 0 (n_apply (xs 1) 1 (n_cut (xs 2) ((((xs 4).toInt64) <<< ((32 : Int32).toInt64 &&& 63)) ||| (((xs 5).toInt64) &&& 4294967295))) (n_cut (xs 3) ((((xs 6).toInt64) <<< ((32 : Int32).toInt64 &&& 63)) ||| (((xs 7).toInt64) &&& 4294967295)))))))), (m0, .inr (11, y0.set 9 (.int 0)))] H := hP
    have hD : va_D A [(h0, .inr (10, [.ref x0, .int 0, .ref x1, .ref x2, .ref x3, .ref x4, .ref x5, .ref x6, .ref x7, .ref x8, .int 0, .int 3000])), (o0, .inl (kA 1, 1, .inr (.inl (vp_updL (fun _ => 0) 0 (n_apply (xs 1) 1 (n_cut (xs 2) ((((xs 4).toInt64) <<< ((32 : Int32).toInt64 &&& 63)) ||| (((xs 5).toInt64) &&& 4294967295))) (n_cut (xs 3) ((((xs 6).toInt64) <<< ((32 : Int32).toInt64 &&& 63)) ||| (((xs 7).toInt64) &&& 4294967295)))))))), (m0, .inr (11, y0.set 9 (.int 0)))] := hD
    refine lv_lstore (lv' := [(6, .long (r_special ((xs 1) - 5) 1 (n_cut (xs 2) ((((xs 4).toInt64) <<< ((32 : Int32).toInt64 &&& 63)) ||| (((xs 5).toInt64) &&& 4294967295))) (n_cut (xs 3) ((((xs 6).toInt64) <<< ((32 : Int32).toInt64 &&& 63)) ||| (((xs 7).toInt64) &&& 4294967295))))), (5, .int 0), (0, .ref b), (1, .ref h0), (2, .ref m0), (3, .ref o0), (4, .int 0)]) hx hb dL_law_1772 hl (by decide) rfl (fun ls hl => ?_)
    refine lv_aload_n hx hb dL_law_1774 rfl (lv_at hl 4 rfl) ?_
    have hPc := hP.sub (ws' := [(m0, .inr (11, y0.set 9 (.int 0)))]) [2] rfl
    have hDc := hD.sub (ws' := [(m0, .inr (11, y0.set 9 (.int 0)))]) [2] (by decide) rfl
    have hFc := va_free (wc := [(m0, .inr (11, y0.set 9 (.int 0)))]) hD hS hA [2] rfl
    refine va_calli (va_runV (As := []) (rest := []) ⟨hx, hb, hml, hown, hts⟩ (a94_X12_thrown l  D kA V H.size m0 (y0.set 9 (.int 0)) (fun k hk => (by rw [List.length_set]; exact (hq k hk))) (List.getElem?_set_self (hq 9 (by decide)))) (cwV 0 hts (gw_V gw_1879 gw_1880 gw_1881 gw_16 gw_1882) rfl rfl rfl (by decide +kernel) ⟨(Nat.le_of_ble_eq_true rfl), (Nat.le_of_ble_eq_true rfl)⟩) ⟨aP.blind, va_recv hK hP (ci := 11) (q0 := 2) rfl rfl, aP.pre hE hS hPc hK hDc hFc⟩ rfl rfl hl.1 rfl (lv_room (Nat.le_of_ble_eq_true rfl)) dL_law_1775 ⟨(Nat.le_of_ble_eq_true rfl), (Nat.le_of_ble_eq_true rfl)⟩) hS (fun q _ h => hFc q h) hFc (fun r_100512 u t H1 locs ht hvm hw hB hz1 hk1 hS => ?_)
    obtain ⟨hP1, hD1⟩ := hB
    rw [ht] at hP1
    try dsimp only at hw hP1 hD1
    have w_100513 := hw
    subst w_100513
    obtain ⟨hP, hD⟩ := va_join (wr := [(h0, .inr (10, [.ref x0, .int 0, .ref x1, .ref x2, .ref x3, .ref x4, .ref x5, .ref x6, .ref x7, .ref x8, .int 0, .int 3000])), (o0, .inl (kA 1, 1, .inr (.inl (vp_updL (fun _ => 0) 0 (n_apply (xs 1) 1 (n_cut (xs 2) ((((xs 4).toInt64) <<< ((32 : Int32).toInt64 &&& 63)) ||| (((xs 5).toInt64) &&& 4294967295))) (n_cut (xs 3) ((((xs 6).toInt64) <<< ((32 : Int32).toInt64 &&& 63)) ||| (((xs 7).toInt64) &&& 4294967295))))))))]) (w1 := [(m0, .inr (11, (y0.set 9 (.int 0))))]) hP hD [2] [0, 1] rfl rfl (by decide) (by decide) hk1 hFc hP1 hD1
    generalize H1 = H at hP hS ⊢
    have hP : va_P D vwCl [(h0, .inr (10, [.ref x0, .int 0, .ref x1, .ref x2, .ref x3, .ref x4, .ref x5, .ref x6, .ref x7, .ref x8, .int 0, .int 3000])), (o0, .inl (kA 1, 1, .inr (.inl (vp_updL (fun _ => 0) 0 (n_apply (xs 1) 1 (n_cut (xs 2) ((((xs 4).toInt64) <<< ((32 : Int32).toInt64 &&& 63)) ||| (((xs 5).toInt64) &&& 4294967295))) (n_cut (xs 3) ((((xs 6).toInt64) <<< ((32 : Int32).toInt64 &&& 63)) ||| (((xs 7).toInt64) &&& 4294967295)))))))), (m0, .inr (11, (y0.set 9 (.int 0))))] H := hP
    have hD : va_D A [(h0, .inr (10, [.ref x0, .int 0, .ref x1, .ref x2, .ref x3, .ref x4, .ref x5, .ref x6, .ref x7, .ref x8, .int 0, .int 3000])), (o0, .inl (kA 1, 1, .inr (.inl (vp_updL (fun _ => 0) 0 (n_apply (xs 1) 1 (n_cut (xs 2) ((((xs 4).toInt64) <<< ((32 : Int32).toInt64 &&& 63)) ||| (((xs 5).toInt64) &&& 4294967295))) (n_cut (xs 3) ((((xs 6).toInt64) <<< ((32 : Int32).toInt64 &&& 63)) ||| (((xs 7).toInt64) &&& 4294967295)))))))), (m0, .inr (11, (y0.set 9 (.int 0))))] := hD
    refine lv_iload hx hb dL_law_1778 (lv_at hl 1 rfl) ?_
    refine lv_icmp_eq (tgt := 1785) hx hb dL_law_1780 (by decide) (fun c_100514 => ?_) (fun c_100514 => ?_)
    · skip
      refine lv_iload hx hb dL_law_1785 (lv_at hl 1 rfl) ?_
      refine lv_if_ne (tgt := 1801) hx hb dL_law_1787 (by decide) (fun c_100515 => ?_) (fun c_100515 => ?_)
      · exact absurd (by decide) c_100515
      · skip
        refine lv_aload_n hx hb dL_law_1790 rfl (lv_at hl 5 rfl) ?_
        refine lv_iconst (v := 0) hx hb dL_law_1791 (by decide) ?_
        refine va_lald hx hb hK hP 1 1 rfl rfl (show vp_in 0 1 by unfold vp_in; decide) dL_law_1792 ?_
        refine W.eq (g2 := F0 m 1793 ls [.long (n_apply (xs 1) 1 (n_cut (xs 2) ((((xs 4).toInt64) <<< ((32 : Int32).toInt64 &&& 63)) ||| (((xs 5).toInt64) &&& 4294967295))) (n_cut (xs 3) ((((xs 6).toInt64) <<< ((32 : Int32).toInt64 &&& 63)) ||| (((xs 7).toInt64) &&& 4294967295))))]) rfl ?_
        refine lv_lload hx hb dL_law_1793 (lv_at hl 0 rfl) ?_
        refine W.lcmp hx hb dL_law_1795 ?_
        refine lv_if_eq (tgt := 1801) hx hb dL_law_1796 (by decide) (fun c_100516 => ?_) (fun c_100516 => ?_)
        · skip
          refine lv_goto (tgt := 1804) hx hb dL_law_1801 (by decide) ?_
          exact lk_tail hC hA2 (lv_sub hl [2, 6] rfl) hS (Nat.le_of_ble_eq_true rfl) (Nat.le_of_ble_eq_true rfl)
        · exact absurd ((lg_cmp_eq _ _).mpr (qx_c1 c_100387 c_100388)) c_100516
    · exact absurd (by decide) c_100514
  · obtain ⟨c_100391, c_100392, c_100393, c_100394, c_100395, c_100396, c_100397, c_100398, c_100399, w_100400, w_100401⟩ := hz
    subst w_100400
    subst w_100401
    obtain ⟨hP, hD⟩ := va_join (wr := [(h0, .inr (10, [.ref x0, .int 0, .ref x1, .ref x2, .ref x3, .ref x4, .ref x5, .ref x6, .ref x7, .ref x8, .int 0, .int 3000])), (o0, .inl (kA 1, 1, .inr (.inl (vp_updL (fun _ => 0) 0 (n_apply (xs 1) 1 (n_cut (xs 2) ((((xs 4).toInt64) <<< ((32 : Int32).toInt64 &&& 63)) ||| (((xs 5).toInt64) &&& 4294967295))) (n_cut (xs 3) ((((xs 6).toInt64) <<< ((32 : Int32).toInt64 &&& 63)) ||| (((xs 7).toInt64) &&& 4294967295))))))))]) (w1 := [(m0, .inr (11, y0.set 9 (.int 0)))]) hP hD [0] [1, 2] rfl rfl (by decide) (by decide) hk1 hFc hP1 hD1
    generalize H1 = H at hP hS ⊢
    have hP : va_P D vwCl [(h0, .inr (10, [.ref x0, .int 0, .ref x1, .ref x2, .ref x3, .ref x4, .ref x5, .ref x6, .ref x7, .ref x8, .int 0, .int 3000])), (o0, .inl (kA 1, 1, .inr (.inl (vp_updL (fun _ => 0) 0 (n_apply (xs 1) 1 (n_cut (xs 2) ((((xs 4).toInt64) <<< ((32 : Int32).toInt64 &&& 63)) ||| (((xs 5).toInt64) &&& 4294967295))) (n_cut (xs 3) ((((xs 6).toInt64) <<< ((32 : Int32).toInt64 &&& 63)) ||| (((xs 7).toInt64) &&& 4294967295)))))))), (m0, .inr (11, y0.set 9 (.int 0)))] H := hP
    have hD : va_D A [(h0, .inr (10, [.ref x0, .int 0, .ref x1, .ref x2, .ref x3, .ref x4, .ref x5, .ref x6, .ref x7, .ref x8, .int 0, .int 3000])), (o0, .inl (kA 1, 1, .inr (.inl (vp_updL (fun _ => 0) 0 (n_apply (xs 1) 1 (n_cut (xs 2) ((((xs 4).toInt64) <<< ((32 : Int32).toInt64 &&& 63)) ||| (((xs 5).toInt64) &&& 4294967295))) (n_cut (xs 3) ((((xs 6).toInt64) <<< ((32 : Int32).toInt64 &&& 63)) ||| (((xs 7).toInt64) &&& 4294967295)))))))), (m0, .inr (11, y0.set 9 (.int 0)))] := hD
    refine lv_lstore (lv' := [(6, .long (r_special ((xs 1) - 5) 1 (n_cut (xs 2) ((((xs 4).toInt64) <<< ((32 : Int32).toInt64 &&& 63)) ||| (((xs 5).toInt64) &&& 4294967295))) (n_cut (xs 3) ((((xs 6).toInt64) <<< ((32 : Int32).toInt64 &&& 63)) ||| (((xs 7).toInt64) &&& 4294967295))))), (5, .int 0), (0, .ref b), (1, .ref h0), (2, .ref m0), (3, .ref o0), (4, .int 0)]) hx hb dL_law_1772 hl (by decide) rfl (fun ls hl => ?_)
    refine lv_aload_n hx hb dL_law_1774 rfl (lv_at hl 4 rfl) ?_
    have hPc := hP.sub (ws' := [(m0, .inr (11, y0.set 9 (.int 0)))]) [2] rfl
    have hDc := hD.sub (ws' := [(m0, .inr (11, y0.set 9 (.int 0)))]) [2] (by decide) rfl
    have hFc := va_free (wc := [(m0, .inr (11, y0.set 9 (.int 0)))]) hD hS hA [2] rfl
    refine va_calli (va_runV (As := []) (rest := []) ⟨hx, hb, hml, hown, hts⟩ (a94_X12_thrown l  D kA V H.size m0 (y0.set 9 (.int 0)) (fun k hk => (by rw [List.length_set]; exact (hq k hk))) (List.getElem?_set_self (hq 9 (by decide)))) (cwV 0 hts (gw_V gw_1879 gw_1880 gw_1881 gw_16 gw_1882) rfl rfl rfl (by decide +kernel) ⟨(Nat.le_of_ble_eq_true rfl), (Nat.le_of_ble_eq_true rfl)⟩) ⟨aP.blind, va_recv hK hP (ci := 11) (q0 := 2) rfl rfl, aP.pre hE hS hPc hK hDc hFc⟩ rfl rfl hl.1 rfl (lv_room (Nat.le_of_ble_eq_true rfl)) dL_law_1775 ⟨(Nat.le_of_ble_eq_true rfl), (Nat.le_of_ble_eq_true rfl)⟩) hS (fun q _ h => hFc q h) hFc (fun r_100517 u t H1 locs ht hvm hw hB hz1 hk1 hS => ?_)
    obtain ⟨hP1, hD1⟩ := hB
    rw [ht] at hP1
    try dsimp only at hw hP1 hD1
    have w_100518 := hw
    subst w_100518
    obtain ⟨hP, hD⟩ := va_join (wr := [(h0, .inr (10, [.ref x0, .int 0, .ref x1, .ref x2, .ref x3, .ref x4, .ref x5, .ref x6, .ref x7, .ref x8, .int 0, .int 3000])), (o0, .inl (kA 1, 1, .inr (.inl (vp_updL (fun _ => 0) 0 (n_apply (xs 1) 1 (n_cut (xs 2) ((((xs 4).toInt64) <<< ((32 : Int32).toInt64 &&& 63)) ||| (((xs 5).toInt64) &&& 4294967295))) (n_cut (xs 3) ((((xs 6).toInt64) <<< ((32 : Int32).toInt64 &&& 63)) ||| (((xs 7).toInt64) &&& 4294967295))))))))]) (w1 := [(m0, .inr (11, (y0.set 9 (.int 0))))]) hP hD [2] [0, 1] rfl rfl (by decide) (by decide) hk1 hFc hP1 hD1
    generalize H1 = H at hP hS ⊢
    have hP : va_P D vwCl [(h0, .inr (10, [.ref x0, .int 0, .ref x1, .ref x2, .ref x3, .ref x4, .ref x5, .ref x6, .ref x7, .ref x8, .int 0, .int 3000])), (o0, .inl (kA 1, 1, .inr (.inl (vp_updL (fun _ => 0) 0 (n_apply (xs 1) 1 (n_cut (xs 2) ((((xs 4).toInt64) <<< ((32 : Int32).toInt64 &&& 63)) ||| (((xs 5).toInt64) &&& 4294967295))) (n_cut (xs 3) ((((xs 6).toInt64) <<< ((32 : Int32).toInt64 &&& 63)) ||| (((xs 7).toInt64) &&& 4294967295)))))))), (m0, .inr (11, (y0.set 9 (.int 0))))] H := hP
    have hD : va_D A [(h0, .inr (10, [.ref x0, .int 0, .ref x1, .ref x2, .ref x3, .ref x4, .ref x5, .ref x6, .ref x7, .ref x8, .int 0, .int 3000])), (o0, .inl (kA 1, 1, .inr (.inl (vp_updL (fun _ => 0) 0 (n_apply (xs 1) 1 (n_cut (xs 2) ((((xs 4).toInt64) <<< ((32 : Int32).toInt64 &&& 63)) ||| (((xs 5).toInt64) &&& 4294967295))) (n_cut (xs 3) ((((xs 6).toInt64) <<< ((32 : Int32).toInt64 &&& 63)) ||| (((xs 7).toInt64) &&& 4294967295)))))))), (m0, .inr (11, (y0.set 9 (.int 0))))] := hD
    refine lv_iload hx hb dL_law_1778 (lv_at hl 1 rfl) ?_
    refine lv_icmp_eq (tgt := 1785) hx hb dL_law_1780 (by decide) (fun c_100519 => ?_) (fun c_100519 => ?_)
    · skip
      refine lv_iload hx hb dL_law_1785 (lv_at hl 1 rfl) ?_
      refine lv_if_ne (tgt := 1801) hx hb dL_law_1787 (by decide) (fun c_100520 => ?_) (fun c_100520 => ?_)
      · exact absurd (by decide) c_100520
      · skip
        refine lv_aload_n hx hb dL_law_1790 rfl (lv_at hl 5 rfl) ?_
        refine lv_iconst (v := 0) hx hb dL_law_1791 (by decide) ?_
        refine va_lald hx hb hK hP 1 1 rfl rfl (show vp_in 0 1 by unfold vp_in; decide) dL_law_1792 ?_
        refine W.eq (g2 := F0 m 1793 ls [.long (n_apply (xs 1) 1 (n_cut (xs 2) ((((xs 4).toInt64) <<< ((32 : Int32).toInt64 &&& 63)) ||| (((xs 5).toInt64) &&& 4294967295))) (n_cut (xs 3) ((((xs 6).toInt64) <<< ((32 : Int32).toInt64 &&& 63)) ||| (((xs 7).toInt64) &&& 4294967295))))]) rfl ?_
        refine lv_lload hx hb dL_law_1793 (lv_at hl 0 rfl) ?_
        refine W.lcmp hx hb dL_law_1795 ?_
        refine lv_if_eq (tgt := 1801) hx hb dL_law_1796 (by decide) (fun c_100521 => ?_) (fun c_100521 => ?_)
        · skip
          refine lv_goto (tgt := 1804) hx hb dL_law_1801 (by decide) ?_
          exact lk_tail hC hA2 (lv_sub hl [2, 6] rfl) hS (Nat.le_of_ble_eq_true rfl) (Nat.le_of_ble_eq_true rfl)
        · exact absurd ((lg_cmp_eq _ _).mpr (qx_b c_100398 c_100399)) c_100521
    · exact absurd (by decide) c_100519
  · obtain ⟨c_100402, c_100403, c_100404, c_100405, c_100406, c_100407, c_100408, c_100409, c_100410, c_100411, c_100412, c_100413, c_100414, w_100415, w_100416⟩ := hz
    subst w_100415
    subst w_100416
    obtain ⟨hP, hD⟩ := va_join (wr := [(h0, .inr (10, [.ref x0, .int 0, .ref x1, .ref x2, .ref x3, .ref x4, .ref x5, .ref x6, .ref x7, .ref x8, .int 0, .int 3000])), (o0, .inl (kA 1, 1, .inr (.inl (vp_updL (fun _ => 0) 0 (n_apply (xs 1) 1 (n_cut (xs 2) ((((xs 4).toInt64) <<< ((32 : Int32).toInt64 &&& 63)) ||| (((xs 5).toInt64) &&& 4294967295))) (n_cut (xs 3) ((((xs 6).toInt64) <<< ((32 : Int32).toInt64 &&& 63)) ||| (((xs 7).toInt64) &&& 4294967295))))))))]) (w1 := [(m0, .inr (11, y0.set 9 (.int 0)))]) hP hD [0] [1, 2] rfl rfl (by decide) (by decide) hk1 hFc hP1 hD1
    generalize H1 = H at hP hS ⊢
    have hP : va_P D vwCl [(h0, .inr (10, [.ref x0, .int 0, .ref x1, .ref x2, .ref x3, .ref x4, .ref x5, .ref x6, .ref x7, .ref x8, .int 0, .int 3000])), (o0, .inl (kA 1, 1, .inr (.inl (vp_updL (fun _ => 0) 0 (n_apply (xs 1) 1 (n_cut (xs 2) ((((xs 4).toInt64) <<< ((32 : Int32).toInt64 &&& 63)) ||| (((xs 5).toInt64) &&& 4294967295))) (n_cut (xs 3) ((((xs 6).toInt64) <<< ((32 : Int32).toInt64 &&& 63)) ||| (((xs 7).toInt64) &&& 4294967295)))))))), (m0, .inr (11, y0.set 9 (.int 0)))] H := hP
    have hD : va_D A [(h0, .inr (10, [.ref x0, .int 0, .ref x1, .ref x2, .ref x3, .ref x4, .ref x5, .ref x6, .ref x7, .ref x8, .int 0, .int 3000])), (o0, .inl (kA 1, 1, .inr (.inl (vp_updL (fun _ => 0) 0 (n_apply (xs 1) 1 (n_cut (xs 2) ((((xs 4).toInt64) <<< ((32 : Int32).toInt64 &&& 63)) ||| (((xs 5).toInt64) &&& 4294967295))) (n_cut (xs 3) ((((xs 6).toInt64) <<< ((32 : Int32).toInt64 &&& 63)) ||| (((xs 7).toInt64) &&& 4294967295)))))))), (m0, .inr (11, y0.set 9 (.int 0)))] := hD
    refine lv_lstore (lv' := [(6, .long (r_two 220 1 (n_cut (xs 2) ((((xs 4).toInt64) <<< ((32 : Int32).toInt64 &&& 63)) ||| (((xs 5).toInt64) &&& 4294967295))) (n_cut (xs 3) ((((xs 6).toInt64) <<< ((32 : Int32).toInt64 &&& 63)) ||| (((xs 7).toInt64) &&& 4294967295))))), (5, .int 0), (0, .ref b), (1, .ref h0), (2, .ref m0), (3, .ref o0), (4, .int 0)]) hx hb dL_law_1772 hl (by decide) rfl (fun ls hl => ?_)
    refine lv_aload_n hx hb dL_law_1774 rfl (lv_at hl 4 rfl) ?_
    have hPc := hP.sub (ws' := [(m0, .inr (11, y0.set 9 (.int 0)))]) [2] rfl
    have hDc := hD.sub (ws' := [(m0, .inr (11, y0.set 9 (.int 0)))]) [2] (by decide) rfl
    have hFc := va_free (wc := [(m0, .inr (11, y0.set 9 (.int 0)))]) hD hS hA [2] rfl
    refine va_calli (va_runV (As := []) (rest := []) ⟨hx, hb, hml, hown, hts⟩ (a94_X12_thrown l  D kA V H.size m0 (y0.set 9 (.int 0)) (fun k hk => (by rw [List.length_set]; exact (hq k hk))) (List.getElem?_set_self (hq 9 (by decide)))) (cwV 0 hts (gw_V gw_1879 gw_1880 gw_1881 gw_16 gw_1882) rfl rfl rfl (by decide +kernel) ⟨(Nat.le_of_ble_eq_true rfl), (Nat.le_of_ble_eq_true rfl)⟩) ⟨aP.blind, va_recv hK hP (ci := 11) (q0 := 2) rfl rfl, aP.pre hE hS hPc hK hDc hFc⟩ rfl rfl hl.1 rfl (lv_room (Nat.le_of_ble_eq_true rfl)) dL_law_1775 ⟨(Nat.le_of_ble_eq_true rfl), (Nat.le_of_ble_eq_true rfl)⟩) hS (fun q _ h => hFc q h) hFc (fun r_100522 u t H1 locs ht hvm hw hB hz1 hk1 hS => ?_)
    obtain ⟨hP1, hD1⟩ := hB
    rw [ht] at hP1
    try dsimp only at hw hP1 hD1
    have w_100523 := hw
    subst w_100523
    obtain ⟨hP, hD⟩ := va_join (wr := [(h0, .inr (10, [.ref x0, .int 0, .ref x1, .ref x2, .ref x3, .ref x4, .ref x5, .ref x6, .ref x7, .ref x8, .int 0, .int 3000])), (o0, .inl (kA 1, 1, .inr (.inl (vp_updL (fun _ => 0) 0 (n_apply (xs 1) 1 (n_cut (xs 2) ((((xs 4).toInt64) <<< ((32 : Int32).toInt64 &&& 63)) ||| (((xs 5).toInt64) &&& 4294967295))) (n_cut (xs 3) ((((xs 6).toInt64) <<< ((32 : Int32).toInt64 &&& 63)) ||| (((xs 7).toInt64) &&& 4294967295))))))))]) (w1 := [(m0, .inr (11, (y0.set 9 (.int 0))))]) hP hD [2] [0, 1] rfl rfl (by decide) (by decide) hk1 hFc hP1 hD1
    generalize H1 = H at hP hS ⊢
    have hP : va_P D vwCl [(h0, .inr (10, [.ref x0, .int 0, .ref x1, .ref x2, .ref x3, .ref x4, .ref x5, .ref x6, .ref x7, .ref x8, .int 0, .int 3000])), (o0, .inl (kA 1, 1, .inr (.inl (vp_updL (fun _ => 0) 0 (n_apply (xs 1) 1 (n_cut (xs 2) ((((xs 4).toInt64) <<< ((32 : Int32).toInt64 &&& 63)) ||| (((xs 5).toInt64) &&& 4294967295))) (n_cut (xs 3) ((((xs 6).toInt64) <<< ((32 : Int32).toInt64 &&& 63)) ||| (((xs 7).toInt64) &&& 4294967295)))))))), (m0, .inr (11, (y0.set 9 (.int 0))))] H := hP
    have hD : va_D A [(h0, .inr (10, [.ref x0, .int 0, .ref x1, .ref x2, .ref x3, .ref x4, .ref x5, .ref x6, .ref x7, .ref x8, .int 0, .int 3000])), (o0, .inl (kA 1, 1, .inr (.inl (vp_updL (fun _ => 0) 0 (n_apply (xs 1) 1 (n_cut (xs 2) ((((xs 4).toInt64) <<< ((32 : Int32).toInt64 &&& 63)) ||| (((xs 5).toInt64) &&& 4294967295))) (n_cut (xs 3) ((((xs 6).toInt64) <<< ((32 : Int32).toInt64 &&& 63)) ||| (((xs 7).toInt64) &&& 4294967295)))))))), (m0, .inr (11, (y0.set 9 (.int 0))))] := hD
    refine lv_iload hx hb dL_law_1778 (lv_at hl 1 rfl) ?_
    refine lv_icmp_eq (tgt := 1785) hx hb dL_law_1780 (by decide) (fun c_100524 => ?_) (fun c_100524 => ?_)
    · skip
      refine lv_iload hx hb dL_law_1785 (lv_at hl 1 rfl) ?_
      refine lv_if_ne (tgt := 1801) hx hb dL_law_1787 (by decide) (fun c_100525 => ?_) (fun c_100525 => ?_)
      · exact absurd (by decide) c_100525
      · skip
        refine lv_aload_n hx hb dL_law_1790 rfl (lv_at hl 5 rfl) ?_
        refine lv_iconst (v := 0) hx hb dL_law_1791 (by decide) ?_
        refine va_lald hx hb hK hP 1 1 rfl rfl (show vp_in 0 1 by unfold vp_in; decide) dL_law_1792 ?_
        refine W.eq (g2 := F0 m 1793 ls [.long (n_apply (xs 1) 1 (n_cut (xs 2) ((((xs 4).toInt64) <<< ((32 : Int32).toInt64 &&& 63)) ||| (((xs 5).toInt64) &&& 4294967295))) (n_cut (xs 3) ((((xs 6).toInt64) <<< ((32 : Int32).toInt64 &&& 63)) ||| (((xs 7).toInt64) &&& 4294967295))))]) rfl ?_
        refine lv_lload hx hb dL_law_1793 (lv_at hl 0 rfl) ?_
        refine W.lcmp hx hb dL_law_1795 ?_
        refine lv_if_eq (tgt := 1801) hx hb dL_law_1796 (by decide) (fun c_100526 => ?_) (fun c_100526 => ?_)
        · skip
          refine lv_goto (tgt := 1804) hx hb dL_law_1801 (by decide) ?_
          exact lk_tail hC hA2 (lv_sub hl [2, 6] rfl) hS (Nat.le_of_ble_eq_true rfl) (Nat.le_of_ble_eq_true rfl)
        · exact absurd ((lg_cmp_eq _ _).mpr (qx_a c_49 c_100409 (by unfold q_cmp; rw [if_neg c_100410, if_neg c_100411, if_neg c_100412, if_neg c_100413, if_neg c_100414]))) c_100526
    · exact absurd (by decide) c_100524
  · obtain ⟨c_100417, c_100418, c_100419, c_100420, c_100421, c_100422, c_100423, c_100424, c_100425, c_100426, c_100427, c_100428, c_100429, w_100430, w_100431⟩ := hz
    subst w_100430
    subst w_100431
    obtain ⟨hP, hD⟩ := va_join (wr := [(h0, .inr (10, [.ref x0, .int 0, .ref x1, .ref x2, .ref x3, .ref x4, .ref x5, .ref x6, .ref x7, .ref x8, .int 0, .int 3000])), (o0, .inl (kA 1, 1, .inr (.inl (vp_updL (fun _ => 0) 0 (n_apply (xs 1) 1 (n_cut (xs 2) ((((xs 4).toInt64) <<< ((32 : Int32).toInt64 &&& 63)) ||| (((xs 5).toInt64) &&& 4294967295))) (n_cut (xs 3) ((((xs 6).toInt64) <<< ((32 : Int32).toInt64 &&& 63)) ||| (((xs 7).toInt64) &&& 4294967295))))))))]) (w1 := [(m0, .inr (11, y0.set 9 (.int 0)))]) hP hD [0] [1, 2] rfl rfl (by decide) (by decide) hk1 hFc hP1 hD1
    generalize H1 = H at hP hS ⊢
    have hP : va_P D vwCl [(h0, .inr (10, [.ref x0, .int 0, .ref x1, .ref x2, .ref x3, .ref x4, .ref x5, .ref x6, .ref x7, .ref x8, .int 0, .int 3000])), (o0, .inl (kA 1, 1, .inr (.inl (vp_updL (fun _ => 0) 0 (n_apply (xs 1) 1 (n_cut (xs 2) ((((xs 4).toInt64) <<< ((32 : Int32).toInt64 &&& 63)) ||| (((xs 5).toInt64) &&& 4294967295))) (n_cut (xs 3) ((((xs 6).toInt64) <<< ((32 : Int32).toInt64 &&& 63)) ||| (((xs 7).toInt64) &&& 4294967295)))))))), (m0, .inr (11, y0.set 9 (.int 0)))] H := hP
    have hD : va_D A [(h0, .inr (10, [.ref x0, .int 0, .ref x1, .ref x2, .ref x3, .ref x4, .ref x5, .ref x6, .ref x7, .ref x8, .int 0, .int 3000])), (o0, .inl (kA 1, 1, .inr (.inl (vp_updL (fun _ => 0) 0 (n_apply (xs 1) 1 (n_cut (xs 2) ((((xs 4).toInt64) <<< ((32 : Int32).toInt64 &&& 63)) ||| (((xs 5).toInt64) &&& 4294967295))) (n_cut (xs 3) ((((xs 6).toInt64) <<< ((32 : Int32).toInt64 &&& 63)) ||| (((xs 7).toInt64) &&& 4294967295)))))))), (m0, .inr (11, y0.set 9 (.int 0)))] := hD
    refine lv_lstore (lv' := [(6, .long (r_two 239 1 (n_cut (xs 2) ((((xs 4).toInt64) <<< ((32 : Int32).toInt64 &&& 63)) ||| (((xs 5).toInt64) &&& 4294967295))) (n_cut (xs 3) ((((xs 6).toInt64) <<< ((32 : Int32).toInt64 &&& 63)) ||| (((xs 7).toInt64) &&& 4294967295))))), (5, .int 0), (0, .ref b), (1, .ref h0), (2, .ref m0), (3, .ref o0), (4, .int 0)]) hx hb dL_law_1772 hl (by decide) rfl (fun ls hl => ?_)
    refine lv_aload_n hx hb dL_law_1774 rfl (lv_at hl 4 rfl) ?_
    have hPc := hP.sub (ws' := [(m0, .inr (11, y0.set 9 (.int 0)))]) [2] rfl
    have hDc := hD.sub (ws' := [(m0, .inr (11, y0.set 9 (.int 0)))]) [2] (by decide) rfl
    have hFc := va_free (wc := [(m0, .inr (11, y0.set 9 (.int 0)))]) hD hS hA [2] rfl
    refine va_calli (va_runV (As := []) (rest := []) ⟨hx, hb, hml, hown, hts⟩ (a94_X12_thrown l  D kA V H.size m0 (y0.set 9 (.int 0)) (fun k hk => (by rw [List.length_set]; exact (hq k hk))) (List.getElem?_set_self (hq 9 (by decide)))) (cwV 0 hts (gw_V gw_1879 gw_1880 gw_1881 gw_16 gw_1882) rfl rfl rfl (by decide +kernel) ⟨(Nat.le_of_ble_eq_true rfl), (Nat.le_of_ble_eq_true rfl)⟩) ⟨aP.blind, va_recv hK hP (ci := 11) (q0 := 2) rfl rfl, aP.pre hE hS hPc hK hDc hFc⟩ rfl rfl hl.1 rfl (lv_room (Nat.le_of_ble_eq_true rfl)) dL_law_1775 ⟨(Nat.le_of_ble_eq_true rfl), (Nat.le_of_ble_eq_true rfl)⟩) hS (fun q _ h => hFc q h) hFc (fun r_100527 u t H1 locs ht hvm hw hB hz1 hk1 hS => ?_)
    obtain ⟨hP1, hD1⟩ := hB
    rw [ht] at hP1
    try dsimp only at hw hP1 hD1
    have w_100528 := hw
    subst w_100528
    obtain ⟨hP, hD⟩ := va_join (wr := [(h0, .inr (10, [.ref x0, .int 0, .ref x1, .ref x2, .ref x3, .ref x4, .ref x5, .ref x6, .ref x7, .ref x8, .int 0, .int 3000])), (o0, .inl (kA 1, 1, .inr (.inl (vp_updL (fun _ => 0) 0 (n_apply (xs 1) 1 (n_cut (xs 2) ((((xs 4).toInt64) <<< ((32 : Int32).toInt64 &&& 63)) ||| (((xs 5).toInt64) &&& 4294967295))) (n_cut (xs 3) ((((xs 6).toInt64) <<< ((32 : Int32).toInt64 &&& 63)) ||| (((xs 7).toInt64) &&& 4294967295))))))))]) (w1 := [(m0, .inr (11, (y0.set 9 (.int 0))))]) hP hD [2] [0, 1] rfl rfl (by decide) (by decide) hk1 hFc hP1 hD1
    generalize H1 = H at hP hS ⊢
    have hP : va_P D vwCl [(h0, .inr (10, [.ref x0, .int 0, .ref x1, .ref x2, .ref x3, .ref x4, .ref x5, .ref x6, .ref x7, .ref x8, .int 0, .int 3000])), (o0, .inl (kA 1, 1, .inr (.inl (vp_updL (fun _ => 0) 0 (n_apply (xs 1) 1 (n_cut (xs 2) ((((xs 4).toInt64) <<< ((32 : Int32).toInt64 &&& 63)) ||| (((xs 5).toInt64) &&& 4294967295))) (n_cut (xs 3) ((((xs 6).toInt64) <<< ((32 : Int32).toInt64 &&& 63)) ||| (((xs 7).toInt64) &&& 4294967295)))))))), (m0, .inr (11, (y0.set 9 (.int 0))))] H := hP
    have hD : va_D A [(h0, .inr (10, [.ref x0, .int 0, .ref x1, .ref x2, .ref x3, .ref x4, .ref x5, .ref x6, .ref x7, .ref x8, .int 0, .int 3000])), (o0, .inl (kA 1, 1, .inr (.inl (vp_updL (fun _ => 0) 0 (n_apply (xs 1) 1 (n_cut (xs 2) ((((xs 4).toInt64) <<< ((32 : Int32).toInt64 &&& 63)) ||| (((xs 5).toInt64) &&& 4294967295))) (n_cut (xs 3) ((((xs 6).toInt64) <<< ((32 : Int32).toInt64 &&& 63)) ||| (((xs 7).toInt64) &&& 4294967295)))))))), (m0, .inr (11, (y0.set 9 (.int 0))))] := hD
    refine lv_iload hx hb dL_law_1778 (lv_at hl 1 rfl) ?_
    refine lv_icmp_eq (tgt := 1785) hx hb dL_law_1780 (by decide) (fun c_100529 => ?_) (fun c_100529 => ?_)
    · skip
      refine lv_iload hx hb dL_law_1785 (lv_at hl 1 rfl) ?_
      refine lv_if_ne (tgt := 1801) hx hb dL_law_1787 (by decide) (fun c_100530 => ?_) (fun c_100530 => ?_)
      · exact absurd (by decide) c_100530
      · skip
        refine lv_aload_n hx hb dL_law_1790 rfl (lv_at hl 5 rfl) ?_
        refine lv_iconst (v := 0) hx hb dL_law_1791 (by decide) ?_
        refine va_lald hx hb hK hP 1 1 rfl rfl (show vp_in 0 1 by unfold vp_in; decide) dL_law_1792 ?_
        refine W.eq (g2 := F0 m 1793 ls [.long (n_apply (xs 1) 1 (n_cut (xs 2) ((((xs 4).toInt64) <<< ((32 : Int32).toInt64 &&& 63)) ||| (((xs 5).toInt64) &&& 4294967295))) (n_cut (xs 3) ((((xs 6).toInt64) <<< ((32 : Int32).toInt64 &&& 63)) ||| (((xs 7).toInt64) &&& 4294967295))))]) rfl ?_
        refine lv_lload hx hb dL_law_1793 (lv_at hl 0 rfl) ?_
        refine W.lcmp hx hb dL_law_1795 ?_
        refine lv_if_eq (tgt := 1801) hx hb dL_law_1796 (by decide) (fun c_100531 => ?_) (fun c_100531 => ?_)
        · skip
          refine lv_goto (tgt := 1804) hx hb dL_law_1801 (by decide) ?_
          exact lk_tail hC hA2 (lv_sub hl [2, 6] rfl) hS (Nat.le_of_ble_eq_true rfl) (Nat.le_of_ble_eq_true rfl)
        · exact absurd ((lg_cmp_eq _ _).mpr (qx_a c_49 c_100424 (by rw [c_100429]; decide))) c_100531
    · exact absurd (by decide) c_100529
  · obtain ⟨c_100432, c_100433, c_100434, c_100435, c_100436, c_100437, c_100438, c_100439, c_100440, c_100441, c_100442, c_100443, w_100444, w_100445⟩ := hz
    subst w_100444
    subst w_100445
    obtain ⟨hP, hD⟩ := va_join (wr := [(h0, .inr (10, [.ref x0, .int 0, .ref x1, .ref x2, .ref x3, .ref x4, .ref x5, .ref x6, .ref x7, .ref x8, .int 0, .int 3000])), (o0, .inl (kA 1, 1, .inr (.inl (vp_updL (fun _ => 0) 0 (n_apply (xs 1) 1 (n_cut (xs 2) ((((xs 4).toInt64) <<< ((32 : Int32).toInt64 &&& 63)) ||| (((xs 5).toInt64) &&& 4294967295))) (n_cut (xs 3) ((((xs 6).toInt64) <<< ((32 : Int32).toInt64 &&& 63)) ||| (((xs 7).toInt64) &&& 4294967295))))))))]) (w1 := [(m0, .inr (11, y0.set 9 (.int 0)))]) hP hD [0] [1, 2] rfl rfl (by decide) (by decide) hk1 hFc hP1 hD1
    generalize H1 = H at hP hS ⊢
    have hP : va_P D vwCl [(h0, .inr (10, [.ref x0, .int 0, .ref x1, .ref x2, .ref x3, .ref x4, .ref x5, .ref x6, .ref x7, .ref x8, .int 0, .int 3000])), (o0, .inl (kA 1, 1, .inr (.inl (vp_updL (fun _ => 0) 0 (n_apply (xs 1) 1 (n_cut (xs 2) ((((xs 4).toInt64) <<< ((32 : Int32).toInt64 &&& 63)) ||| (((xs 5).toInt64) &&& 4294967295))) (n_cut (xs 3) ((((xs 6).toInt64) <<< ((32 : Int32).toInt64 &&& 63)) ||| (((xs 7).toInt64) &&& 4294967295)))))))), (m0, .inr (11, y0.set 9 (.int 0)))] H := hP
    have hD : va_D A [(h0, .inr (10, [.ref x0, .int 0, .ref x1, .ref x2, .ref x3, .ref x4, .ref x5, .ref x6, .ref x7, .ref x8, .int 0, .int 3000])), (o0, .inl (kA 1, 1, .inr (.inl (vp_updL (fun _ => 0) 0 (n_apply (xs 1) 1 (n_cut (xs 2) ((((xs 4).toInt64) <<< ((32 : Int32).toInt64 &&& 63)) ||| (((xs 5).toInt64) &&& 4294967295))) (n_cut (xs 3) ((((xs 6).toInt64) <<< ((32 : Int32).toInt64 &&& 63)) ||| (((xs 7).toInt64) &&& 4294967295)))))))), (m0, .inr (11, y0.set 9 (.int 0)))] := hD
    refine lv_lstore (lv' := [(6, .long (r_two 219 1 (n_cut (xs 2) ((((xs 4).toInt64) <<< ((32 : Int32).toInt64 &&& 63)) ||| (((xs 5).toInt64) &&& 4294967295))) (n_cut (xs 3) ((((xs 6).toInt64) <<< ((32 : Int32).toInt64 &&& 63)) ||| (((xs 7).toInt64) &&& 4294967295))))), (5, .int 0), (0, .ref b), (1, .ref h0), (2, .ref m0), (3, .ref o0), (4, .int 0)]) hx hb dL_law_1772 hl (by decide) rfl (fun ls hl => ?_)
    refine lv_aload_n hx hb dL_law_1774 rfl (lv_at hl 4 rfl) ?_
    have hPc := hP.sub (ws' := [(m0, .inr (11, y0.set 9 (.int 0)))]) [2] rfl
    have hDc := hD.sub (ws' := [(m0, .inr (11, y0.set 9 (.int 0)))]) [2] (by decide) rfl
    have hFc := va_free (wc := [(m0, .inr (11, y0.set 9 (.int 0)))]) hD hS hA [2] rfl
    refine va_calli (va_runV (As := []) (rest := []) ⟨hx, hb, hml, hown, hts⟩ (a94_X12_thrown l  D kA V H.size m0 (y0.set 9 (.int 0)) (fun k hk => (by rw [List.length_set]; exact (hq k hk))) (List.getElem?_set_self (hq 9 (by decide)))) (cwV 0 hts (gw_V gw_1879 gw_1880 gw_1881 gw_16 gw_1882) rfl rfl rfl (by decide +kernel) ⟨(Nat.le_of_ble_eq_true rfl), (Nat.le_of_ble_eq_true rfl)⟩) ⟨aP.blind, va_recv hK hP (ci := 11) (q0 := 2) rfl rfl, aP.pre hE hS hPc hK hDc hFc⟩ rfl rfl hl.1 rfl (lv_room (Nat.le_of_ble_eq_true rfl)) dL_law_1775 ⟨(Nat.le_of_ble_eq_true rfl), (Nat.le_of_ble_eq_true rfl)⟩) hS (fun q _ h => hFc q h) hFc (fun r_100532 u t H1 locs ht hvm hw hB hz1 hk1 hS => ?_)
    obtain ⟨hP1, hD1⟩ := hB
    rw [ht] at hP1
    try dsimp only at hw hP1 hD1
    have w_100533 := hw
    subst w_100533
    obtain ⟨hP, hD⟩ := va_join (wr := [(h0, .inr (10, [.ref x0, .int 0, .ref x1, .ref x2, .ref x3, .ref x4, .ref x5, .ref x6, .ref x7, .ref x8, .int 0, .int 3000])), (o0, .inl (kA 1, 1, .inr (.inl (vp_updL (fun _ => 0) 0 (n_apply (xs 1) 1 (n_cut (xs 2) ((((xs 4).toInt64) <<< ((32 : Int32).toInt64 &&& 63)) ||| (((xs 5).toInt64) &&& 4294967295))) (n_cut (xs 3) ((((xs 6).toInt64) <<< ((32 : Int32).toInt64 &&& 63)) ||| (((xs 7).toInt64) &&& 4294967295))))))))]) (w1 := [(m0, .inr (11, (y0.set 9 (.int 0))))]) hP hD [2] [0, 1] rfl rfl (by decide) (by decide) hk1 hFc hP1 hD1
    generalize H1 = H at hP hS ⊢
    have hP : va_P D vwCl [(h0, .inr (10, [.ref x0, .int 0, .ref x1, .ref x2, .ref x3, .ref x4, .ref x5, .ref x6, .ref x7, .ref x8, .int 0, .int 3000])), (o0, .inl (kA 1, 1, .inr (.inl (vp_updL (fun _ => 0) 0 (n_apply (xs 1) 1 (n_cut (xs 2) ((((xs 4).toInt64) <<< ((32 : Int32).toInt64 &&& 63)) ||| (((xs 5).toInt64) &&& 4294967295))) (n_cut (xs 3) ((((xs 6).toInt64) <<< ((32 : Int32).toInt64 &&& 63)) ||| (((xs 7).toInt64) &&& 4294967295)))))))), (m0, .inr (11, (y0.set 9 (.int 0))))] H := hP
    have hD : va_D A [(h0, .inr (10, [.ref x0, .int 0, .ref x1, .ref x2, .ref x3, .ref x4, .ref x5, .ref x6, .ref x7, .ref x8, .int 0, .int 3000])), (o0, .inl (kA 1, 1, .inr (.inl (vp_updL (fun _ => 0) 0 (n_apply (xs 1) 1 (n_cut (xs 2) ((((xs 4).toInt64) <<< ((32 : Int32).toInt64 &&& 63)) ||| (((xs 5).toInt64) &&& 4294967295))) (n_cut (xs 3) ((((xs 6).toInt64) <<< ((32 : Int32).toInt64 &&& 63)) ||| (((xs 7).toInt64) &&& 4294967295)))))))), (m0, .inr (11, (y0.set 9 (.int 0))))] := hD
    refine lv_iload hx hb dL_law_1778 (lv_at hl 1 rfl) ?_
    refine lv_icmp_eq (tgt := 1785) hx hb dL_law_1780 (by decide) (fun c_100534 => ?_) (fun c_100534 => ?_)
    · skip
      refine lv_iload hx hb dL_law_1785 (lv_at hl 1 rfl) ?_
      refine lv_if_ne (tgt := 1801) hx hb dL_law_1787 (by decide) (fun c_100535 => ?_) (fun c_100535 => ?_)
      · exact absurd (by decide) c_100535
      · skip
        refine lv_aload_n hx hb dL_law_1790 rfl (lv_at hl 5 rfl) ?_
        refine lv_iconst (v := 0) hx hb dL_law_1791 (by decide) ?_
        refine va_lald hx hb hK hP 1 1 rfl rfl (show vp_in 0 1 by unfold vp_in; decide) dL_law_1792 ?_
        refine W.eq (g2 := F0 m 1793 ls [.long (n_apply (xs 1) 1 (n_cut (xs 2) ((((xs 4).toInt64) <<< ((32 : Int32).toInt64 &&& 63)) ||| (((xs 5).toInt64) &&& 4294967295))) (n_cut (xs 3) ((((xs 6).toInt64) <<< ((32 : Int32).toInt64 &&& 63)) ||| (((xs 7).toInt64) &&& 4294967295))))]) rfl ?_
        refine lv_lload hx hb dL_law_1793 (lv_at hl 0 rfl) ?_
        refine W.lcmp hx hb dL_law_1795 ?_
        refine lv_if_eq (tgt := 1801) hx hb dL_law_1796 (by decide) (fun c_100536 => ?_) (fun c_100536 => ?_)
        · skip
          refine lv_goto (tgt := 1804) hx hb dL_law_1801 (by decide) ?_
          exact lk_tail hC hA2 (lv_sub hl [2, 6] rfl) hS (Nat.le_of_ble_eq_true rfl) (Nat.le_of_ble_eq_true rfl)
        · exact absurd ((lg_cmp_eq _ _).mpr (qx_a c_49 c_100439 (by rw [c_100443]; decide))) c_100536
    · exact absurd (by decide) c_100534
  · obtain ⟨c_100446, c_100447, c_100448, c_100449, c_100450, c_100451, c_100452, c_100453, c_100454, c_100455, c_100456, w_100457, w_100458⟩ := hz
    subst w_100457
    subst w_100458
    obtain ⟨hP, hD⟩ := va_join (wr := [(h0, .inr (10, [.ref x0, .int 0, .ref x1, .ref x2, .ref x3, .ref x4, .ref x5, .ref x6, .ref x7, .ref x8, .int 0, .int 3000])), (o0, .inl (kA 1, 1, .inr (.inl (vp_updL (fun _ => 0) 0 (n_apply (xs 1) 1 (n_cut (xs 2) ((((xs 4).toInt64) <<< ((32 : Int32).toInt64 &&& 63)) ||| (((xs 5).toInt64) &&& 4294967295))) (n_cut (xs 3) ((((xs 6).toInt64) <<< ((32 : Int32).toInt64 &&& 63)) ||| (((xs 7).toInt64) &&& 4294967295))))))))]) (w1 := [(m0, .inr (11, y0.set 9 (.int 0)))]) hP hD [0] [1, 2] rfl rfl (by decide) (by decide) hk1 hFc hP1 hD1
    generalize H1 = H at hP hS ⊢
    have hP : va_P D vwCl [(h0, .inr (10, [.ref x0, .int 0, .ref x1, .ref x2, .ref x3, .ref x4, .ref x5, .ref x6, .ref x7, .ref x8, .int 0, .int 3000])), (o0, .inl (kA 1, 1, .inr (.inl (vp_updL (fun _ => 0) 0 (n_apply (xs 1) 1 (n_cut (xs 2) ((((xs 4).toInt64) <<< ((32 : Int32).toInt64 &&& 63)) ||| (((xs 5).toInt64) &&& 4294967295))) (n_cut (xs 3) ((((xs 6).toInt64) <<< ((32 : Int32).toInt64 &&& 63)) ||| (((xs 7).toInt64) &&& 4294967295)))))))), (m0, .inr (11, y0.set 9 (.int 0)))] H := hP
    have hD : va_D A [(h0, .inr (10, [.ref x0, .int 0, .ref x1, .ref x2, .ref x3, .ref x4, .ref x5, .ref x6, .ref x7, .ref x8, .int 0, .int 3000])), (o0, .inl (kA 1, 1, .inr (.inl (vp_updL (fun _ => 0) 0 (n_apply (xs 1) 1 (n_cut (xs 2) ((((xs 4).toInt64) <<< ((32 : Int32).toInt64 &&& 63)) ||| (((xs 5).toInt64) &&& 4294967295))) (n_cut (xs 3) ((((xs 6).toInt64) <<< ((32 : Int32).toInt64 &&& 63)) ||| (((xs 7).toInt64) &&& 4294967295)))))))), (m0, .inr (11, y0.set 9 (.int 0)))] := hD
    refine lv_lstore (lv' := [(6, .long (r_two 238 1 (n_cut (xs 2) ((((xs 4).toInt64) <<< ((32 : Int32).toInt64 &&& 63)) ||| (((xs 5).toInt64) &&& 4294967295))) (n_cut (xs 3) ((((xs 6).toInt64) <<< ((32 : Int32).toInt64 &&& 63)) ||| (((xs 7).toInt64) &&& 4294967295))))), (5, .int 0), (0, .ref b), (1, .ref h0), (2, .ref m0), (3, .ref o0), (4, .int 0)]) hx hb dL_law_1772 hl (by decide) rfl (fun ls hl => ?_)
    refine lv_aload_n hx hb dL_law_1774 rfl (lv_at hl 4 rfl) ?_
    have hPc := hP.sub (ws' := [(m0, .inr (11, y0.set 9 (.int 0)))]) [2] rfl
    have hDc := hD.sub (ws' := [(m0, .inr (11, y0.set 9 (.int 0)))]) [2] (by decide) rfl
    have hFc := va_free (wc := [(m0, .inr (11, y0.set 9 (.int 0)))]) hD hS hA [2] rfl
    refine va_calli (va_runV (As := []) (rest := []) ⟨hx, hb, hml, hown, hts⟩ (a94_X12_thrown l  D kA V H.size m0 (y0.set 9 (.int 0)) (fun k hk => (by rw [List.length_set]; exact (hq k hk))) (List.getElem?_set_self (hq 9 (by decide)))) (cwV 0 hts (gw_V gw_1879 gw_1880 gw_1881 gw_16 gw_1882) rfl rfl rfl (by decide +kernel) ⟨(Nat.le_of_ble_eq_true rfl), (Nat.le_of_ble_eq_true rfl)⟩) ⟨aP.blind, va_recv hK hP (ci := 11) (q0 := 2) rfl rfl, aP.pre hE hS hPc hK hDc hFc⟩ rfl rfl hl.1 rfl (lv_room (Nat.le_of_ble_eq_true rfl)) dL_law_1775 ⟨(Nat.le_of_ble_eq_true rfl), (Nat.le_of_ble_eq_true rfl)⟩) hS (fun q _ h => hFc q h) hFc (fun r_100537 u t H1 locs ht hvm hw hB hz1 hk1 hS => ?_)
    obtain ⟨hP1, hD1⟩ := hB
    rw [ht] at hP1
    try dsimp only at hw hP1 hD1
    have w_100538 := hw
    subst w_100538
    obtain ⟨hP, hD⟩ := va_join (wr := [(h0, .inr (10, [.ref x0, .int 0, .ref x1, .ref x2, .ref x3, .ref x4, .ref x5, .ref x6, .ref x7, .ref x8, .int 0, .int 3000])), (o0, .inl (kA 1, 1, .inr (.inl (vp_updL (fun _ => 0) 0 (n_apply (xs 1) 1 (n_cut (xs 2) ((((xs 4).toInt64) <<< ((32 : Int32).toInt64 &&& 63)) ||| (((xs 5).toInt64) &&& 4294967295))) (n_cut (xs 3) ((((xs 6).toInt64) <<< ((32 : Int32).toInt64 &&& 63)) ||| (((xs 7).toInt64) &&& 4294967295))))))))]) (w1 := [(m0, .inr (11, (y0.set 9 (.int 0))))]) hP hD [2] [0, 1] rfl rfl (by decide) (by decide) hk1 hFc hP1 hD1
    generalize H1 = H at hP hS ⊢
    have hP : va_P D vwCl [(h0, .inr (10, [.ref x0, .int 0, .ref x1, .ref x2, .ref x3, .ref x4, .ref x5, .ref x6, .ref x7, .ref x8, .int 0, .int 3000])), (o0, .inl (kA 1, 1, .inr (.inl (vp_updL (fun _ => 0) 0 (n_apply (xs 1) 1 (n_cut (xs 2) ((((xs 4).toInt64) <<< ((32 : Int32).toInt64 &&& 63)) ||| (((xs 5).toInt64) &&& 4294967295))) (n_cut (xs 3) ((((xs 6).toInt64) <<< ((32 : Int32).toInt64 &&& 63)) ||| (((xs 7).toInt64) &&& 4294967295)))))))), (m0, .inr (11, (y0.set 9 (.int 0))))] H := hP
    have hD : va_D A [(h0, .inr (10, [.ref x0, .int 0, .ref x1, .ref x2, .ref x3, .ref x4, .ref x5, .ref x6, .ref x7, .ref x8, .int 0, .int 3000])), (o0, .inl (kA 1, 1, .inr (.inl (vp_updL (fun _ => 0) 0 (n_apply (xs 1) 1 (n_cut (xs 2) ((((xs 4).toInt64) <<< ((32 : Int32).toInt64 &&& 63)) ||| (((xs 5).toInt64) &&& 4294967295))) (n_cut (xs 3) ((((xs 6).toInt64) <<< ((32 : Int32).toInt64 &&& 63)) ||| (((xs 7).toInt64) &&& 4294967295)))))))), (m0, .inr (11, (y0.set 9 (.int 0))))] := hD
    refine lv_iload hx hb dL_law_1778 (lv_at hl 1 rfl) ?_
    refine lv_icmp_eq (tgt := 1785) hx hb dL_law_1780 (by decide) (fun c_100539 => ?_) (fun c_100539 => ?_)
    · skip
      refine lv_iload hx hb dL_law_1785 (lv_at hl 1 rfl) ?_
      refine lv_if_ne (tgt := 1801) hx hb dL_law_1787 (by decide) (fun c_100540 => ?_) (fun c_100540 => ?_)
      · exact absurd (by decide) c_100540
      · skip
        refine lv_aload_n hx hb dL_law_1790 rfl (lv_at hl 5 rfl) ?_
        refine lv_iconst (v := 0) hx hb dL_law_1791 (by decide) ?_
        refine va_lald hx hb hK hP 1 1 rfl rfl (show vp_in 0 1 by unfold vp_in; decide) dL_law_1792 ?_
        refine W.eq (g2 := F0 m 1793 ls [.long (n_apply (xs 1) 1 (n_cut (xs 2) ((((xs 4).toInt64) <<< ((32 : Int32).toInt64 &&& 63)) ||| (((xs 5).toInt64) &&& 4294967295))) (n_cut (xs 3) ((((xs 6).toInt64) <<< ((32 : Int32).toInt64 &&& 63)) ||| (((xs 7).toInt64) &&& 4294967295))))]) rfl ?_
        refine lv_lload hx hb dL_law_1793 (lv_at hl 0 rfl) ?_
        refine W.lcmp hx hb dL_law_1795 ?_
        refine lv_if_eq (tgt := 1801) hx hb dL_law_1796 (by decide) (fun c_100541 => ?_) (fun c_100541 => ?_)
        · skip
          refine lv_goto (tgt := 1804) hx hb dL_law_1801 (by decide) ?_
          exact lk_tail hC hA2 (lv_sub hl [2, 6] rfl) hS (Nat.le_of_ble_eq_true rfl) (Nat.le_of_ble_eq_true rfl)
        · exact absurd ((lg_cmp_eq _ _).mpr (qx_a c_49 c_100453 (by rw [c_100456]; decide))) c_100541
    · exact absurd (by decide) c_100539
  · obtain ⟨c_100459, c_100460, c_100461, c_100462, c_100463, c_100464, c_100465, c_100466, c_100467, c_100468, w_100469, w_100470⟩ := hz
    subst w_100469
    subst w_100470
    obtain ⟨hP, hD⟩ := va_join (wr := [(h0, .inr (10, [.ref x0, .int 0, .ref x1, .ref x2, .ref x3, .ref x4, .ref x5, .ref x6, .ref x7, .ref x8, .int 0, .int 3000])), (o0, .inl (kA 1, 1, .inr (.inl (vp_updL (fun _ => 0) 0 (n_apply (xs 1) 1 (n_cut (xs 2) ((((xs 4).toInt64) <<< ((32 : Int32).toInt64 &&& 63)) ||| (((xs 5).toInt64) &&& 4294967295))) (n_cut (xs 3) ((((xs 6).toInt64) <<< ((32 : Int32).toInt64 &&& 63)) ||| (((xs 7).toInt64) &&& 4294967295))))))))]) (w1 := [(m0, .inr (11, y0.set 9 (.int 0)))]) hP hD [0] [1, 2] rfl rfl (by decide) (by decide) hk1 hFc hP1 hD1
    generalize H1 = H at hP hS ⊢
    have hP : va_P D vwCl [(h0, .inr (10, [.ref x0, .int 0, .ref x1, .ref x2, .ref x3, .ref x4, .ref x5, .ref x6, .ref x7, .ref x8, .int 0, .int 3000])), (o0, .inl (kA 1, 1, .inr (.inl (vp_updL (fun _ => 0) 0 (n_apply (xs 1) 1 (n_cut (xs 2) ((((xs 4).toInt64) <<< ((32 : Int32).toInt64 &&& 63)) ||| (((xs 5).toInt64) &&& 4294967295))) (n_cut (xs 3) ((((xs 6).toInt64) <<< ((32 : Int32).toInt64 &&& 63)) ||| (((xs 7).toInt64) &&& 4294967295)))))))), (m0, .inr (11, y0.set 9 (.int 0)))] H := hP
    have hD : va_D A [(h0, .inr (10, [.ref x0, .int 0, .ref x1, .ref x2, .ref x3, .ref x4, .ref x5, .ref x6, .ref x7, .ref x8, .int 0, .int 3000])), (o0, .inl (kA 1, 1, .inr (.inl (vp_updL (fun _ => 0) 0 (n_apply (xs 1) 1 (n_cut (xs 2) ((((xs 4).toInt64) <<< ((32 : Int32).toInt64 &&& 63)) ||| (((xs 5).toInt64) &&& 4294967295))) (n_cut (xs 3) ((((xs 6).toInt64) <<< ((32 : Int32).toInt64 &&& 63)) ||| (((xs 7).toInt64) &&& 4294967295)))))))), (m0, .inr (11, y0.set 9 (.int 0)))] := hD
    refine lv_lstore (lv' := [(6, .long (r_two 218 1 (n_cut (xs 2) ((((xs 4).toInt64) <<< ((32 : Int32).toInt64 &&& 63)) ||| (((xs 5).toInt64) &&& 4294967295))) (n_cut (xs 3) ((((xs 6).toInt64) <<< ((32 : Int32).toInt64 &&& 63)) ||| (((xs 7).toInt64) &&& 4294967295))))), (5, .int 0), (0, .ref b), (1, .ref h0), (2, .ref m0), (3, .ref o0), (4, .int 0)]) hx hb dL_law_1772 hl (by decide) rfl (fun ls hl => ?_)
    refine lv_aload_n hx hb dL_law_1774 rfl (lv_at hl 4 rfl) ?_
    have hPc := hP.sub (ws' := [(m0, .inr (11, y0.set 9 (.int 0)))]) [2] rfl
    have hDc := hD.sub (ws' := [(m0, .inr (11, y0.set 9 (.int 0)))]) [2] (by decide) rfl
    have hFc := va_free (wc := [(m0, .inr (11, y0.set 9 (.int 0)))]) hD hS hA [2] rfl
    refine va_calli (va_runV (As := []) (rest := []) ⟨hx, hb, hml, hown, hts⟩ (a94_X12_thrown l  D kA V H.size m0 (y0.set 9 (.int 0)) (fun k hk => (by rw [List.length_set]; exact (hq k hk))) (List.getElem?_set_self (hq 9 (by decide)))) (cwV 0 hts (gw_V gw_1879 gw_1880 gw_1881 gw_16 gw_1882) rfl rfl rfl (by decide +kernel) ⟨(Nat.le_of_ble_eq_true rfl), (Nat.le_of_ble_eq_true rfl)⟩) ⟨aP.blind, va_recv hK hP (ci := 11) (q0 := 2) rfl rfl, aP.pre hE hS hPc hK hDc hFc⟩ rfl rfl hl.1 rfl (lv_room (Nat.le_of_ble_eq_true rfl)) dL_law_1775 ⟨(Nat.le_of_ble_eq_true rfl), (Nat.le_of_ble_eq_true rfl)⟩) hS (fun q _ h => hFc q h) hFc (fun r_100542 u t H1 locs ht hvm hw hB hz1 hk1 hS => ?_)
    obtain ⟨hP1, hD1⟩ := hB
    rw [ht] at hP1
    try dsimp only at hw hP1 hD1
    have w_100543 := hw
    subst w_100543
    obtain ⟨hP, hD⟩ := va_join (wr := [(h0, .inr (10, [.ref x0, .int 0, .ref x1, .ref x2, .ref x3, .ref x4, .ref x5, .ref x6, .ref x7, .ref x8, .int 0, .int 3000])), (o0, .inl (kA 1, 1, .inr (.inl (vp_updL (fun _ => 0) 0 (n_apply (xs 1) 1 (n_cut (xs 2) ((((xs 4).toInt64) <<< ((32 : Int32).toInt64 &&& 63)) ||| (((xs 5).toInt64) &&& 4294967295))) (n_cut (xs 3) ((((xs 6).toInt64) <<< ((32 : Int32).toInt64 &&& 63)) ||| (((xs 7).toInt64) &&& 4294967295))))))))]) (w1 := [(m0, .inr (11, (y0.set 9 (.int 0))))]) hP hD [2] [0, 1] rfl rfl (by decide) (by decide) hk1 hFc hP1 hD1
    generalize H1 = H at hP hS ⊢
    have hP : va_P D vwCl [(h0, .inr (10, [.ref x0, .int 0, .ref x1, .ref x2, .ref x3, .ref x4, .ref x5, .ref x6, .ref x7, .ref x8, .int 0, .int 3000])), (o0, .inl (kA 1, 1, .inr (.inl (vp_updL (fun _ => 0) 0 (n_apply (xs 1) 1 (n_cut (xs 2) ((((xs 4).toInt64) <<< ((32 : Int32).toInt64 &&& 63)) ||| (((xs 5).toInt64) &&& 4294967295))) (n_cut (xs 3) ((((xs 6).toInt64) <<< ((32 : Int32).toInt64 &&& 63)) ||| (((xs 7).toInt64) &&& 4294967295)))))))), (m0, .inr (11, (y0.set 9 (.int 0))))] H := hP
    have hD : va_D A [(h0, .inr (10, [.ref x0, .int 0, .ref x1, .ref x2, .ref x3, .ref x4, .ref x5, .ref x6, .ref x7, .ref x8, .int 0, .int 3000])), (o0, .inl (kA 1, 1, .inr (.inl (vp_updL (fun _ => 0) 0 (n_apply (xs 1) 1 (n_cut (xs 2) ((((xs 4).toInt64) <<< ((32 : Int32).toInt64 &&& 63)) ||| (((xs 5).toInt64) &&& 4294967295))) (n_cut (xs 3) ((((xs 6).toInt64) <<< ((32 : Int32).toInt64 &&& 63)) ||| (((xs 7).toInt64) &&& 4294967295)))))))), (m0, .inr (11, (y0.set 9 (.int 0))))] := hD
    refine lv_iload hx hb dL_law_1778 (lv_at hl 1 rfl) ?_
    refine lv_icmp_eq (tgt := 1785) hx hb dL_law_1780 (by decide) (fun c_100544 => ?_) (fun c_100544 => ?_)
    · skip
      refine lv_iload hx hb dL_law_1785 (lv_at hl 1 rfl) ?_
      refine lv_if_ne (tgt := 1801) hx hb dL_law_1787 (by decide) (fun c_100545 => ?_) (fun c_100545 => ?_)
      · exact absurd (by decide) c_100545
      · skip
        refine lv_aload_n hx hb dL_law_1790 rfl (lv_at hl 5 rfl) ?_
        refine lv_iconst (v := 0) hx hb dL_law_1791 (by decide) ?_
        refine va_lald hx hb hK hP 1 1 rfl rfl (show vp_in 0 1 by unfold vp_in; decide) dL_law_1792 ?_
        refine W.eq (g2 := F0 m 1793 ls [.long (n_apply (xs 1) 1 (n_cut (xs 2) ((((xs 4).toInt64) <<< ((32 : Int32).toInt64 &&& 63)) ||| (((xs 5).toInt64) &&& 4294967295))) (n_cut (xs 3) ((((xs 6).toInt64) <<< ((32 : Int32).toInt64 &&& 63)) ||| (((xs 7).toInt64) &&& 4294967295))))]) rfl ?_
        refine lv_lload hx hb dL_law_1793 (lv_at hl 0 rfl) ?_
        refine W.lcmp hx hb dL_law_1795 ?_
        refine lv_if_eq (tgt := 1801) hx hb dL_law_1796 (by decide) (fun c_100546 => ?_) (fun c_100546 => ?_)
        · skip
          refine lv_goto (tgt := 1804) hx hb dL_law_1801 (by decide) ?_
          exact lk_tail hC hA2 (lv_sub hl [2, 6] rfl) hS (Nat.le_of_ble_eq_true rfl) (Nat.le_of_ble_eq_true rfl)
        · exact absurd ((lg_cmp_eq _ _).mpr (qx_a c_49 c_100466 (by rw [c_100468]; decide))) c_100546
    · exact absurd (by decide) c_100544
  · obtain ⟨c_100471, c_100472, c_100473, c_100474, c_100475, c_100476, c_100477, c_100478, c_100479, w_100480, w_100481⟩ := hz
    subst w_100480
    subst w_100481
    obtain ⟨hP, hD⟩ := va_join (wr := [(h0, .inr (10, [.ref x0, .int 0, .ref x1, .ref x2, .ref x3, .ref x4, .ref x5, .ref x6, .ref x7, .ref x8, .int 0, .int 3000])), (o0, .inl (kA 1, 1, .inr (.inl (vp_updL (fun _ => 0) 0 (n_apply (xs 1) 1 (n_cut (xs 2) ((((xs 4).toInt64) <<< ((32 : Int32).toInt64 &&& 63)) ||| (((xs 5).toInt64) &&& 4294967295))) (n_cut (xs 3) ((((xs 6).toInt64) <<< ((32 : Int32).toInt64 &&& 63)) ||| (((xs 7).toInt64) &&& 4294967295))))))))]) (w1 := [(m0, .inr (11, y0.set 9 (.int 0)))]) hP hD [0] [1, 2] rfl rfl (by decide) (by decide) hk1 hFc hP1 hD1
    generalize H1 = H at hP hS ⊢
    have hP : va_P D vwCl [(h0, .inr (10, [.ref x0, .int 0, .ref x1, .ref x2, .ref x3, .ref x4, .ref x5, .ref x6, .ref x7, .ref x8, .int 0, .int 3000])), (o0, .inl (kA 1, 1, .inr (.inl (vp_updL (fun _ => 0) 0 (n_apply (xs 1) 1 (n_cut (xs 2) ((((xs 4).toInt64) <<< ((32 : Int32).toInt64 &&& 63)) ||| (((xs 5).toInt64) &&& 4294967295))) (n_cut (xs 3) ((((xs 6).toInt64) <<< ((32 : Int32).toInt64 &&& 63)) ||| (((xs 7).toInt64) &&& 4294967295)))))))), (m0, .inr (11, y0.set 9 (.int 0)))] H := hP
    have hD : va_D A [(h0, .inr (10, [.ref x0, .int 0, .ref x1, .ref x2, .ref x3, .ref x4, .ref x5, .ref x6, .ref x7, .ref x8, .int 0, .int 3000])), (o0, .inl (kA 1, 1, .inr (.inl (vp_updL (fun _ => 0) 0 (n_apply (xs 1) 1 (n_cut (xs 2) ((((xs 4).toInt64) <<< ((32 : Int32).toInt64 &&& 63)) ||| (((xs 5).toInt64) &&& 4294967295))) (n_cut (xs 3) ((((xs 6).toInt64) <<< ((32 : Int32).toInt64 &&& 63)) ||| (((xs 7).toInt64) &&& 4294967295)))))))), (m0, .inr (11, y0.set 9 (.int 0)))] := hD
    refine lv_lstore (lv' := [(6, .long (r_two 217 1 (n_cut (xs 2) ((((xs 4).toInt64) <<< ((32 : Int32).toInt64 &&& 63)) ||| (((xs 5).toInt64) &&& 4294967295))) (n_cut (xs 3) ((((xs 6).toInt64) <<< ((32 : Int32).toInt64 &&& 63)) ||| (((xs 7).toInt64) &&& 4294967295))))), (5, .int 0), (0, .ref b), (1, .ref h0), (2, .ref m0), (3, .ref o0), (4, .int 0)]) hx hb dL_law_1772 hl (by decide) rfl (fun ls hl => ?_)
    refine lv_aload_n hx hb dL_law_1774 rfl (lv_at hl 4 rfl) ?_
    have hPc := hP.sub (ws' := [(m0, .inr (11, y0.set 9 (.int 0)))]) [2] rfl
    have hDc := hD.sub (ws' := [(m0, .inr (11, y0.set 9 (.int 0)))]) [2] (by decide) rfl
    have hFc := va_free (wc := [(m0, .inr (11, y0.set 9 (.int 0)))]) hD hS hA [2] rfl
    refine va_calli (va_runV (As := []) (rest := []) ⟨hx, hb, hml, hown, hts⟩ (a94_X12_thrown l  D kA V H.size m0 (y0.set 9 (.int 0)) (fun k hk => (by rw [List.length_set]; exact (hq k hk))) (List.getElem?_set_self (hq 9 (by decide)))) (cwV 0 hts (gw_V gw_1879 gw_1880 gw_1881 gw_16 gw_1882) rfl rfl rfl (by decide +kernel) ⟨(Nat.le_of_ble_eq_true rfl), (Nat.le_of_ble_eq_true rfl)⟩) ⟨aP.blind, va_recv hK hP (ci := 11) (q0 := 2) rfl rfl, aP.pre hE hS hPc hK hDc hFc⟩ rfl rfl hl.1 rfl (lv_room (Nat.le_of_ble_eq_true rfl)) dL_law_1775 ⟨(Nat.le_of_ble_eq_true rfl), (Nat.le_of_ble_eq_true rfl)⟩) hS (fun q _ h => hFc q h) hFc (fun r_100547 u t H1 locs ht hvm hw hB hz1 hk1 hS => ?_)
    obtain ⟨hP1, hD1⟩ := hB
    rw [ht] at hP1
    try dsimp only at hw hP1 hD1
    have w_100548 := hw
    subst w_100548
    obtain ⟨hP, hD⟩ := va_join (wr := [(h0, .inr (10, [.ref x0, .int 0, .ref x1, .ref x2, .ref x3, .ref x4, .ref x5, .ref x6, .ref x7, .ref x8, .int 0, .int 3000])), (o0, .inl (kA 1, 1, .inr (.inl (vp_updL (fun _ => 0) 0 (n_apply (xs 1) 1 (n_cut (xs 2) ((((xs 4).toInt64) <<< ((32 : Int32).toInt64 &&& 63)) ||| (((xs 5).toInt64) &&& 4294967295))) (n_cut (xs 3) ((((xs 6).toInt64) <<< ((32 : Int32).toInt64 &&& 63)) ||| (((xs 7).toInt64) &&& 4294967295))))))))]) (w1 := [(m0, .inr (11, (y0.set 9 (.int 0))))]) hP hD [2] [0, 1] rfl rfl (by decide) (by decide) hk1 hFc hP1 hD1
    generalize H1 = H at hP hS ⊢
    have hP : va_P D vwCl [(h0, .inr (10, [.ref x0, .int 0, .ref x1, .ref x2, .ref x3, .ref x4, .ref x5, .ref x6, .ref x7, .ref x8, .int 0, .int 3000])), (o0, .inl (kA 1, 1, .inr (.inl (vp_updL (fun _ => 0) 0 (n_apply (xs 1) 1 (n_cut (xs 2) ((((xs 4).toInt64) <<< ((32 : Int32).toInt64 &&& 63)) ||| (((xs 5).toInt64) &&& 4294967295))) (n_cut (xs 3) ((((xs 6).toInt64) <<< ((32 : Int32).toInt64 &&& 63)) ||| (((xs 7).toInt64) &&& 4294967295)))))))), (m0, .inr (11, (y0.set 9 (.int 0))))] H := hP
    have hD : va_D A [(h0, .inr (10, [.ref x0, .int 0, .ref x1, .ref x2, .ref x3, .ref x4, .ref x5, .ref x6, .ref x7, .ref x8, .int 0, .int 3000])), (o0, .inl (kA 1, 1, .inr (.inl (vp_updL (fun _ => 0) 0 (n_apply (xs 1) 1 (n_cut (xs 2) ((((xs 4).toInt64) <<< ((32 : Int32).toInt64 &&& 63)) ||| (((xs 5).toInt64) &&& 4294967295))) (n_cut (xs 3) ((((xs 6).toInt64) <<< ((32 : Int32).toInt64 &&& 63)) ||| (((xs 7).toInt64) &&& 4294967295)))))))), (m0, .inr (11, (y0.set 9 (.int 0))))] := hD
    refine lv_iload hx hb dL_law_1778 (lv_at hl 1 rfl) ?_
    refine lv_icmp_eq (tgt := 1785) hx hb dL_law_1780 (by decide) (fun c_100549 => ?_) (fun c_100549 => ?_)
    · skip
      refine lv_iload hx hb dL_law_1785 (lv_at hl 1 rfl) ?_
      refine lv_if_ne (tgt := 1801) hx hb dL_law_1787 (by decide) (fun c_100550 => ?_) (fun c_100550 => ?_)
      · exact absurd (by decide) c_100550
      · skip
        refine lv_aload_n hx hb dL_law_1790 rfl (lv_at hl 5 rfl) ?_
        refine lv_iconst (v := 0) hx hb dL_law_1791 (by decide) ?_
        refine va_lald hx hb hK hP 1 1 rfl rfl (show vp_in 0 1 by unfold vp_in; decide) dL_law_1792 ?_
        refine W.eq (g2 := F0 m 1793 ls [.long (n_apply (xs 1) 1 (n_cut (xs 2) ((((xs 4).toInt64) <<< ((32 : Int32).toInt64 &&& 63)) ||| (((xs 5).toInt64) &&& 4294967295))) (n_cut (xs 3) ((((xs 6).toInt64) <<< ((32 : Int32).toInt64 &&& 63)) ||| (((xs 7).toInt64) &&& 4294967295))))]) rfl ?_
        refine lv_lload hx hb dL_law_1793 (lv_at hl 0 rfl) ?_
        refine W.lcmp hx hb dL_law_1795 ?_
        refine lv_if_eq (tgt := 1801) hx hb dL_law_1796 (by decide) (fun c_100551 => ?_) (fun c_100551 => ?_)
        · skip
          refine lv_goto (tgt := 1804) hx hb dL_law_1801 (by decide) ?_
          exact lk_tail hC hA2 (lv_sub hl [2, 6] rfl) hS (Nat.le_of_ble_eq_true rfl) (Nat.le_of_ble_eq_true rfl)
        · exact absurd ((lg_cmp_eq _ _).mpr (qx_a c_49 c_100478 (by rw [c_100479]; decide))) c_100551
    · exact absurd (by decide) c_100549
set_option maxHeartbeats 4000000 in
set_option maxRecDepth 100000 in
theorem lk_23 {p : Program} {l : Launch} {e : Env} {s : State} {m : MethodId} {below : List Frame} {meth : Method} {c : Code} {D : va_G} {kA : Nat → ClassId} {V : Nat → Nat} {b : Nat} {xs : Nat → Int32} {A : Nat → Prop} (hC : lw_C p l s m meth c b 8 xs D kA V A) (hA2 : ∀ q, A q → s.heap.size ≤ q) (h0 : Nat) (m0 : Nat) (o0 : Nat) (x0 : Nat) (x1 : Nat) (x2 : Nat) (x3 : Nat) (x4 : Nat) (x5 : Nat) (x6 : Nat) (x7 : Nat) (x8 : Nat) (y0 : List Value) (hq : ∀ k, k < 121 → k < y0.length) (hq9 : y0[9]? = some (.int 0))  {H : Heap} {locs : List Loc} {ls : Array Slot} (hl : lv_has ls 8 [(0, .ref b), (1, .ref h0), (2, .ref m0), (3, .ref o0), (4, .int 0)]) (hS : va_S A s.heap H locs) (hP : va_P D vwCl [(h0, .inr (10, [.ref x0, .int 0, .ref x1, .ref x2, .ref x3, .ref x4, .ref x5, .ref x6, .ref x7, .ref x8, .int 0, .int 3000])), (m0, .inr (11, y0)), (o0, .inl (kA 1, 1, .inr (.inl (fun _ => 0))))] H) (hD : va_D A [(h0, .inr (10, [.ref x0, .int 0, .ref x1, .ref x2, .ref x3, .ref x4, .ref x5, .ref x6, .ref x7, .ref x8, .int 0, .int 3000])), (m0, .inr (11, y0)), (o0, .inl (kA 1, 1, .inr (.inl (fun _ => 0))))]) : W p l e room_1 s m #[Value.ref b] below meth c H locs 514 172793 (lw_Z below #[Value.ref b] s) (F0 m 1633 ls []) := by
  have ⟨hst, hx, hb, hr, hml, hown, hts, hG, hX, hbl, hbA, hlocks, hE, hK, hA⟩ := hC
  refine lv_aload_n hx hb dL_law_1633 rfl (lv_at hl 1 rfl) ?_
  refine lv_aload_n hx hb dL_law_1634 rfl (lv_at hl 0 rfl) ?_
  refine lv_iload hx hb dL_law_1635 (lv_at hl 4 rfl) ?_
  refine lv_iconst (v := 1) hx hb dL_law_1637 (by decide) ?_
  refine lv_iadd hx hb dL_law_1638 ?_
  refine W.eq (g2 := F0 m 1639 ls [.int 1, .ref b, .ref h0]) rfl ?_
  refine va_sld hx hb hX hbl hbA hS (show vp_in 1 8 by unfold vp_in; decide) dL_law_1639 ?_
  refine W.eq (g2 := F0 m 1640 ls [.int (xs 1), .ref h0]) rfl ?_
  refine lv_aload_n hx hb dL_law_1640 rfl (lv_at hl 0 rfl) ?_
  refine lv_iload hx hb dL_law_1641 (lv_at hl 4 rfl) ?_
  refine lv_iconst (v := 2) hx hb dL_law_1643 (by decide) ?_
  refine lv_iadd hx hb dL_law_1644 ?_
  refine W.eq (g2 := F0 m 1645 ls [.int 2, .ref b, .int (xs 1), .ref h0]) rfl ?_
  refine va_sld hx hb hX hbl hbA hS (show vp_in 2 8 by unfold vp_in; decide) dL_law_1645 ?_
  refine W.eq (g2 := F0 m 1646 ls [.int (xs 2), .int (xs 1), .ref h0]) rfl ?_
  refine lv_aload_n hx hb dL_law_1646 rfl (lv_at hl 0 rfl) ?_
  refine lv_iload hx hb dL_law_1647 (lv_at hl 4 rfl) ?_
  refine lv_iconst (v := 3) hx hb dL_law_1649 (by decide) ?_
  refine lv_iadd hx hb dL_law_1650 ?_
  refine W.eq (g2 := F0 m 1651 ls [.int 3, .ref b, .int (xs 2), .int (xs 1), .ref h0]) rfl ?_
  refine va_sld hx hb hX hbl hbA hS (show vp_in 3 8 by unfold vp_in; decide) dL_law_1651 ?_
  refine W.eq (g2 := F0 m 1652 ls [.int (xs 3), .int (xs 2), .int (xs 1), .ref h0]) rfl ?_
  refine lv_aload_n hx hb dL_law_1652 rfl (lv_at hl 0 rfl) ?_
  refine lv_iload hx hb dL_law_1653 (lv_at hl 4 rfl) ?_
  refine lv_iconst (v := 4) hx hb dL_law_1655 (by decide) ?_
  refine lv_iadd hx hb dL_law_1656 ?_
  refine W.eq (g2 := F0 m 1657 ls [.int 4, .ref b, .int (xs 3), .int (xs 2), .int (xs 1), .ref h0]) rfl ?_
  refine va_sld hx hb hX hbl hbA hS (show vp_in 4 8 by unfold vp_in; decide) dL_law_1657 ?_
  refine W.eq (g2 := F0 m 1658 ls [.int (xs 4), .int (xs 3), .int (xs 2), .int (xs 1), .ref h0]) rfl ?_
  refine lv_i2l (v := (xs 4).toInt64) hx hb dL_law_1658 rfl ?_
  refine lv_bipush (v := 32) hx hb dL_law_1659 (by decide) ?_
  refine lv_lshl (v := ((xs 4).toInt64) <<< ((32 : Int32).toInt64 &&& 63)) hx hb dL_law_1661 rfl ?_
  refine lv_aload_n hx hb dL_law_1662 rfl (lv_at hl 0 rfl) ?_
  refine lv_iload hx hb dL_law_1663 (lv_at hl 4 rfl) ?_
  refine lv_iconst (v := 5) hx hb dL_law_1665 (by decide) ?_
  refine lv_iadd hx hb dL_law_1666 ?_
  refine W.eq (g2 := F0 m 1667 ls [.int 5, .ref b, .long (((xs 4).toInt64) <<< ((32 : Int32).toInt64 &&& 63)), .int (xs 3), .int (xs 2), .int (xs 1), .ref h0]) rfl ?_
  refine va_sld hx hb hX hbl hbA hS (show vp_in 5 8 by unfold vp_in; decide) dL_law_1667 ?_
  refine W.eq (g2 := F0 m 1668 ls [.int (xs 5), .long (((xs 4).toInt64) <<< ((32 : Int32).toInt64 &&& 63)), .int (xs 3), .int (xs 2), .int (xs 1), .ref h0]) rfl ?_
  refine lv_i2l (v := (xs 5).toInt64) hx hb dL_law_1668 rfl ?_
  refine lv_ldc2 (v := 4294967295) hx hb hown (hG _ gw_2764) dL_law_1669 ?_
  refine lv_land hx hb dL_law_1672 ?_
  refine lv_lor hx hb dL_law_1673 ?_
  refine lv_aload_n hx hb dL_law_1674 rfl (lv_at hl 0 rfl) ?_
  refine lv_iload hx hb dL_law_1675 (lv_at hl 4 rfl) ?_
  refine lv_bipush (v := 6) hx hb dL_law_1677 (by decide) ?_
  refine lv_iadd hx hb dL_law_1679 ?_
  refine W.eq (g2 := F0 m 1680 ls [.int 6, .ref b, .long ((((xs 4).toInt64) <<< ((32 : Int32).toInt64 &&& 63)) ||| (((xs 5).toInt64) &&& 4294967295)), .int (xs 3), .int (xs 2), .int (xs 1), .ref h0]) rfl ?_
  refine va_sld hx hb hX hbl hbA hS (show vp_in 6 8 by unfold vp_in; decide) dL_law_1680 ?_
  refine W.eq (g2 := F0 m 1681 ls [.int (xs 6), .long ((((xs 4).toInt64) <<< ((32 : Int32).toInt64 &&& 63)) ||| (((xs 5).toInt64) &&& 4294967295)), .int (xs 3), .int (xs 2), .int (xs 1), .ref h0]) rfl ?_
  refine lv_i2l (v := (xs 6).toInt64) hx hb dL_law_1681 rfl ?_
  refine lv_bipush (v := 32) hx hb dL_law_1682 (by decide) ?_
  refine lv_lshl (v := ((xs 6).toInt64) <<< ((32 : Int32).toInt64 &&& 63)) hx hb dL_law_1684 rfl ?_
  refine lv_aload_n hx hb dL_law_1685 rfl (lv_at hl 0 rfl) ?_
  refine lv_iload hx hb dL_law_1686 (lv_at hl 4 rfl) ?_
  refine lv_bipush (v := 7) hx hb dL_law_1688 (by decide) ?_
  refine lv_iadd hx hb dL_law_1690 ?_
  refine W.eq (g2 := F0 m 1691 ls [.int 7, .ref b, .long (((xs 6).toInt64) <<< ((32 : Int32).toInt64 &&& 63)), .long ((((xs 4).toInt64) <<< ((32 : Int32).toInt64 &&& 63)) ||| (((xs 5).toInt64) &&& 4294967295)), .int (xs 3), .int (xs 2), .int (xs 1), .ref h0]) rfl ?_
  refine va_sld hx hb hX hbl hbA hS (show vp_in 7 8 by unfold vp_in; decide) dL_law_1691 ?_
  refine W.eq (g2 := F0 m 1692 ls [.int (xs 7), .long (((xs 6).toInt64) <<< ((32 : Int32).toInt64 &&& 63)), .long ((((xs 4).toInt64) <<< ((32 : Int32).toInt64 &&& 63)) ||| (((xs 5).toInt64) &&& 4294967295)), .int (xs 3), .int (xs 2), .int (xs 1), .ref h0]) rfl ?_
  refine lv_i2l (v := (xs 7).toInt64) hx hb dL_law_1692 rfl ?_
  refine lv_ldc2 (v := 4294967295) hx hb hown (hG _ gw_2764) dL_law_1693 ?_
  refine lv_land hx hb dL_law_1696 ?_
  refine lv_lor hx hb dL_law_1697 ?_
  refine lv_aload_n hx hb dL_law_1698 rfl (lv_at hl 3 rfl) ?_
  have hPc := hP.sub (ws' := [(h0, .inr (10, [.ref x0, .int 0, .ref x1, .ref x2, .ref x3, .ref x4, .ref x5, .ref x6, .ref x7, .ref x8, .int 0, .int 3000])), (o0, .inl (kA 1, 1, .inr (.inl (fun _ => 0))))]) [0, 2] rfl
  have hDc := hD.sub (ws' := [(h0, .inr (10, [.ref x0, .int 0, .ref x1, .ref x2, .ref x3, .ref x4, .ref x5, .ref x6, .ref x7, .ref x8, .int 0, .int 3000])), (o0, .inl (kA 1, 1, .inr (.inl (fun _ => 0))))]) [0, 2] (by decide) rfl
  have hFc := va_free (wc := [(h0, .inr (10, [.ref x0, .int 0, .ref x1, .ref x2, .ref x3, .ref x4, .ref x5, .ref x6, .ref x7, .ref x8, .int 0, .int 3000])), (o0, .inl (kA 1, 1, .inr (.inl (fun _ => 0))))]) hD hS hA [0, 2] rfl
  refine va_calli (vx_runSW (As := [.ref h0, .int (xs 1), .int (xs 2), .int (xs 3), .long ((((xs 4).toInt64) <<< ((32 : Int32).toInt64 &&& 63)) ||| (((xs 5).toInt64) &&& 4294967295)), .long ((((xs 6).toInt64) <<< ((32 : Int32).toInt64 &&& 63)) ||| (((xs 7).toInt64) &&& 4294967295)), .ref o0]) (rest := []) ⟨hx, hb, hml, hown, hts⟩ (a173_L_tell l hst D kA V H.size h0 (xs 1) (xs 2) (xs 3) ((((xs 4).toInt64) <<< ((32 : Int32).toInt64 &&& 63)) ||| (((xs 5).toInt64) &&& 4294967295)) ((((xs 6).toInt64) <<< ((32 : Int32).toInt64 &&& 63)) ||| (((xs 7).toInt64) &&& 4294967295)) o0 x0 x1 x2 x3 x4 x5 x6 x7 x8) (vx_cwSW 7 hts (gw_SW gw_1871 gw_1872 gw_0 gw_1873) rfl rfl rfl (by decide +kernel) ⟨(Nat.le_of_ble_eq_true rfl), (Nat.le_of_ble_eq_true rfl)⟩) ⟨aP.blind, aP.pre hE hS hPc hK hDc hFc⟩ rfl rfl hl.1 rfl (lv_room (Nat.le_of_ble_eq_true rfl)) dL_law_1699 ⟨(Nat.le_of_ble_eq_true rfl), (Nat.le_of_ble_eq_true rfl)⟩) hS (fun q _ h => hFc q h) hFc (fun r_1 u t H1 locs ht hvm hw hB hz1 hk1 hS => ?_)
  obtain ⟨u_2, rfl⟩ : ∃ z, z = u := ⟨u, rfl⟩
  obtain ⟨hP1, hD1⟩ := hB
  rw [ht] at hP1
  try dsimp only at hw hP1 hD1
  rcases hw with hz | hz | hz | hz | hz | hz | hz | hz
  · obtain ⟨c_3, w_4, w_5⟩ := hz
    subst w_4
    subst w_5
    obtain ⟨hP, hD⟩ := va_join (wr := [(m0, .inr (11, y0))]) (w1 := [(h0, .inr (10, [.ref x0, .int 0, .ref x1, .ref x2, .ref x3, .ref x4, .ref x5, .ref x6, .ref x7, .ref x8, .int 0, .int 3000])), (o0, .inl (kA 1, 1, .inr (.inl (fun _ => 0))))]) hP hD [0, 2] [1] rfl rfl (by decide) (by decide) hk1 hFc hP1 hD1
    generalize H1 = H at hP hS ⊢
    have hP : va_P D vwCl [(m0, .inr (11, y0)), (h0, .inr (10, [.ref x0, .int 0, .ref x1, .ref x2, .ref x3, .ref x4, .ref x5, .ref x6, .ref x7, .ref x8, .int 0, .int 3000])), (o0, .inl (kA 1, 1, .inr (.inl (fun _ => 0))))] H := hP
    have hD : va_D A [(m0, .inr (11, y0)), (h0, .inr (10, [.ref x0, .int 0, .ref x1, .ref x2, .ref x3, .ref x4, .ref x5, .ref x6, .ref x7, .ref x8, .int 0, .int 3000])), (o0, .inl (kA 1, 1, .inr (.inl (fun _ => 0))))] := hD
    exact lk_23_0 hC hA2 h0 m0 o0 x0 x1 x2 x3 x4 x5 x6 x7 x8 y0 (fun k hk => (hq k hk)) hq9 c_3 hl hS hP hD
  · obtain ⟨c_6, c_7, w_8, w_9⟩ := hz
    subst w_8
    subst w_9
    obtain ⟨hP, hD⟩ := va_join (wr := [(m0, .inr (11, y0))]) (w1 := [(h0, .inr (10, [.ref x0, .int 0, .ref x1, .ref x2, .ref x3, .ref x4, .ref x5, .ref x6, .ref x7, .ref x8, .int 0, .int 3000])), (o0, .inl (kA 1, 1, .inr (.inl (fun _ => 0))))]) hP hD [0, 2] [1] rfl rfl (by decide) (by decide) hk1 hFc hP1 hD1
    generalize H1 = H at hP hS ⊢
    have hP : va_P D vwCl [(m0, .inr (11, y0)), (h0, .inr (10, [.ref x0, .int 0, .ref x1, .ref x2, .ref x3, .ref x4, .ref x5, .ref x6, .ref x7, .ref x8, .int 0, .int 3000])), (o0, .inl (kA 1, 1, .inr (.inl (fun _ => 0))))] H := hP
    have hD : va_D A [(m0, .inr (11, y0)), (h0, .inr (10, [.ref x0, .int 0, .ref x1, .ref x2, .ref x3, .ref x4, .ref x5, .ref x6, .ref x7, .ref x8, .int 0, .int 3000])), (o0, .inl (kA 1, 1, .inr (.inl (fun _ => 0))))] := hD
    exact lk_23_1 hC hA2 h0 m0 o0 x0 x1 x2 x3 x4 x5 x6 x7 x8 y0 (fun k hk => (hq k hk)) hq9 c_6 c_7 hl hS hP hD
  · obtain ⟨c_10, c_11, c_12, w_13, w_14⟩ := hz
    subst w_13
    subst w_14
    obtain ⟨hP, hD⟩ := va_join (wr := [(m0, .inr (11, y0))]) (w1 := [(h0, .inr (10, [.ref x0, .int 0, .ref x1, .ref x2, .ref x3, .ref x4, .ref x5, .ref x6, .ref x7, .ref x8, .int 0, .int 3000])), (o0, .inl (kA 1, 1, .inr (.inl (fun _ => 0))))]) hP hD [0, 2] [1] rfl rfl (by decide) (by decide) hk1 hFc hP1 hD1
    generalize H1 = H at hP hS ⊢
    have hP : va_P D vwCl [(m0, .inr (11, y0)), (h0, .inr (10, [.ref x0, .int 0, .ref x1, .ref x2, .ref x3, .ref x4, .ref x5, .ref x6, .ref x7, .ref x8, .int 0, .int 3000])), (o0, .inl (kA 1, 1, .inr (.inl (fun _ => 0))))] H := hP
    have hD : va_D A [(m0, .inr (11, y0)), (h0, .inr (10, [.ref x0, .int 0, .ref x1, .ref x2, .ref x3, .ref x4, .ref x5, .ref x6, .ref x7, .ref x8, .int 0, .int 3000])), (o0, .inl (kA 1, 1, .inr (.inl (fun _ => 0))))] := hD
    exact lk_23_2 hC hA2 h0 m0 o0 x0 x1 x2 x3 x4 x5 x6 x7 x8 y0 (fun k hk => (hq k hk)) hq9 c_10 c_11 c_12 hl hS hP hD
  · obtain ⟨c_15, c_16, c_17, c_18, w_19, w_20⟩ := hz
    subst w_19
    subst w_20
    obtain ⟨hP, hD⟩ := va_join (wr := [(m0, .inr (11, y0))]) (w1 := [(h0, .inr (10, [.ref x0, .int 0, .ref x1, .ref x2, .ref x3, .ref x4, .ref x5, .ref x6, .ref x7, .ref x8, .int 0, .int 3000])), (o0, .inl (kA 1, 1, .inr (.inl (fun _ => 0))))]) hP hD [0, 2] [1] rfl rfl (by decide) (by decide) hk1 hFc hP1 hD1
    generalize H1 = H at hP hS ⊢
    have hP : va_P D vwCl [(m0, .inr (11, y0)), (h0, .inr (10, [.ref x0, .int 0, .ref x1, .ref x2, .ref x3, .ref x4, .ref x5, .ref x6, .ref x7, .ref x8, .int 0, .int 3000])), (o0, .inl (kA 1, 1, .inr (.inl (fun _ => 0))))] H := hP
    have hD : va_D A [(m0, .inr (11, y0)), (h0, .inr (10, [.ref x0, .int 0, .ref x1, .ref x2, .ref x3, .ref x4, .ref x5, .ref x6, .ref x7, .ref x8, .int 0, .int 3000])), (o0, .inl (kA 1, 1, .inr (.inl (fun _ => 0))))] := hD
    exact lk_23_3 hC hA2 h0 m0 o0 x0 x1 x2 x3 x4 x5 x6 x7 x8 y0 (fun k hk => (hq k hk)) hq9 c_15 c_16 c_17 c_18 hl hS hP hD
  · obtain ⟨c_21, c_22, c_23, c_24, c_25, w_26, w_27⟩ := hz
    subst w_26
    subst w_27
    obtain ⟨hP, hD⟩ := va_join (wr := [(m0, .inr (11, y0))]) (w1 := [(h0, .inr (10, [.ref x0, .int 0, .ref x1, .ref x2, .ref x3, .ref x4, .ref x5, .ref x6, .ref x7, .ref x8, .int 0, .int 3000])), (o0, .inl (kA 1, 1, .inr (.inl (fun _ => 0))))]) hP hD [0, 2] [1] rfl rfl (by decide) (by decide) hk1 hFc hP1 hD1
    generalize H1 = H at hP hS ⊢
    have hP : va_P D vwCl [(m0, .inr (11, y0)), (h0, .inr (10, [.ref x0, .int 0, .ref x1, .ref x2, .ref x3, .ref x4, .ref x5, .ref x6, .ref x7, .ref x8, .int 0, .int 3000])), (o0, .inl (kA 1, 1, .inr (.inl (fun _ => 0))))] H := hP
    have hD : va_D A [(m0, .inr (11, y0)), (h0, .inr (10, [.ref x0, .int 0, .ref x1, .ref x2, .ref x3, .ref x4, .ref x5, .ref x6, .ref x7, .ref x8, .int 0, .int 3000])), (o0, .inl (kA 1, 1, .inr (.inl (fun _ => 0))))] := hD
    exact lk_23_4 hC hA2 h0 m0 o0 x0 x1 x2 x3 x4 x5 x6 x7 x8 y0 (fun k hk => (hq k hk)) hq9 c_21 c_22 c_23 c_24 c_25 hl hS hP hD
  · obtain ⟨c_28, c_29, c_30, c_31, c_32, c_33, w_34, w_35⟩ := hz
    subst w_34
    subst w_35
    obtain ⟨hP, hD⟩ := va_join (wr := [(m0, .inr (11, y0))]) (w1 := [(h0, .inr (10, [.ref x0, .int 0, .ref x1, .ref x2, .ref x3, .ref x4, .ref x5, .ref x6, .ref x7, .ref x8, .int 0, .int 3000])), (o0, .inl (kA 1, 1, .inr (.inl (fun _ => 0))))]) hP hD [0, 2] [1] rfl rfl (by decide) (by decide) hk1 hFc hP1 hD1
    generalize H1 = H at hP hS ⊢
    have hP : va_P D vwCl [(m0, .inr (11, y0)), (h0, .inr (10, [.ref x0, .int 0, .ref x1, .ref x2, .ref x3, .ref x4, .ref x5, .ref x6, .ref x7, .ref x8, .int 0, .int 3000])), (o0, .inl (kA 1, 1, .inr (.inl (fun _ => 0))))] H := hP
    have hD : va_D A [(m0, .inr (11, y0)), (h0, .inr (10, [.ref x0, .int 0, .ref x1, .ref x2, .ref x3, .ref x4, .ref x5, .ref x6, .ref x7, .ref x8, .int 0, .int 3000])), (o0, .inl (kA 1, 1, .inr (.inl (fun _ => 0))))] := hD
    exact lk_23_5 hC hA2 h0 m0 o0 x0 x1 x2 x3 x4 x5 x6 x7 x8 y0 (fun k hk => (hq k hk)) hq9 c_28 c_29 c_30 c_31 c_32 c_33 hl hS hP hD
  · obtain ⟨c_36, c_37, c_38, c_39, c_40, c_41, c_42, w_43, w_44⟩ := hz
    subst w_43
    subst w_44
    obtain ⟨hP, hD⟩ := va_join (wr := [(m0, .inr (11, y0))]) (w1 := [(h0, .inr (10, [.ref x0, .int 0, .ref x1, .ref x2, .ref x3, .ref x4, .ref x5, .ref x6, .ref x7, .ref x8, .int 0, .int 3000])), (o0, .inl (kA 1, 1, .inr (.inl (vp_updL (fun _ => 0) 0 (n_apply (xs 1) 0 (n_cut (xs 2) ((((xs 4).toInt64) <<< ((32 : Int32).toInt64 &&& 63)) ||| (((xs 5).toInt64) &&& 4294967295))) (n_cut (xs 3) ((((xs 6).toInt64) <<< ((32 : Int32).toInt64 &&& 63)) ||| (((xs 7).toInt64) &&& 4294967295))))))))]) hP hD [0, 2] [1] rfl rfl (by decide) (by decide) hk1 hFc hP1 hD1
    generalize H1 = H at hP hS ⊢
    have hP : va_P D vwCl [(m0, .inr (11, y0)), (h0, .inr (10, [.ref x0, .int 0, .ref x1, .ref x2, .ref x3, .ref x4, .ref x5, .ref x6, .ref x7, .ref x8, .int 0, .int 3000])), (o0, .inl (kA 1, 1, .inr (.inl (vp_updL (fun _ => 0) 0 (n_apply (xs 1) 0 (n_cut (xs 2) ((((xs 4).toInt64) <<< ((32 : Int32).toInt64 &&& 63)) ||| (((xs 5).toInt64) &&& 4294967295))) (n_cut (xs 3) ((((xs 6).toInt64) <<< ((32 : Int32).toInt64 &&& 63)) ||| (((xs 7).toInt64) &&& 4294967295))))))))] H := hP
    have hD : va_D A [(m0, .inr (11, y0)), (h0, .inr (10, [.ref x0, .int 0, .ref x1, .ref x2, .ref x3, .ref x4, .ref x5, .ref x6, .ref x7, .ref x8, .int 0, .int 3000])), (o0, .inl (kA 1, 1, .inr (.inl (vp_updL (fun _ => 0) 0 (n_apply (xs 1) 0 (n_cut (xs 2) ((((xs 4).toInt64) <<< ((32 : Int32).toInt64 &&& 63)) ||| (((xs 5).toInt64) &&& 4294967295))) (n_cut (xs 3) ((((xs 6).toInt64) <<< ((32 : Int32).toInt64 &&& 63)) ||| (((xs 7).toInt64) &&& 4294967295))))))))] := hD
    exact lk_23_6 hC hA2 h0 m0 o0 x0 x1 x2 x3 x4 x5 x6 x7 x8 y0 (fun k hk => (hq k hk)) hq9 c_36 c_37 c_38 c_39 c_40 c_41 c_42 hl hS hP hD
  · obtain ⟨c_45, c_46, c_47, c_48, c_49, c_50, c_51, w_52, w_53⟩ := hz
    subst w_52
    subst w_53
    obtain ⟨hP, hD⟩ := va_join (wr := [(m0, .inr (11, y0))]) (w1 := [(h0, .inr (10, [.ref x0, .int 0, .ref x1, .ref x2, .ref x3, .ref x4, .ref x5, .ref x6, .ref x7, .ref x8, .int 0, .int 3000])), (o0, .inl (kA 1, 1, .inr (.inl (vp_updL (fun _ => 0) 0 (n_apply (xs 1) 1 (n_cut (xs 2) ((((xs 4).toInt64) <<< ((32 : Int32).toInt64 &&& 63)) ||| (((xs 5).toInt64) &&& 4294967295))) (n_cut (xs 3) ((((xs 6).toInt64) <<< ((32 : Int32).toInt64 &&& 63)) ||| (((xs 7).toInt64) &&& 4294967295))))))))]) hP hD [0, 2] [1] rfl rfl (by decide) (by decide) hk1 hFc hP1 hD1
    generalize H1 = H at hP hS ⊢
    have hP : va_P D vwCl [(m0, .inr (11, y0)), (h0, .inr (10, [.ref x0, .int 0, .ref x1, .ref x2, .ref x3, .ref x4, .ref x5, .ref x6, .ref x7, .ref x8, .int 0, .int 3000])), (o0, .inl (kA 1, 1, .inr (.inl (vp_updL (fun _ => 0) 0 (n_apply (xs 1) 1 (n_cut (xs 2) ((((xs 4).toInt64) <<< ((32 : Int32).toInt64 &&& 63)) ||| (((xs 5).toInt64) &&& 4294967295))) (n_cut (xs 3) ((((xs 6).toInt64) <<< ((32 : Int32).toInt64 &&& 63)) ||| (((xs 7).toInt64) &&& 4294967295))))))))] H := hP
    have hD : va_D A [(m0, .inr (11, y0)), (h0, .inr (10, [.ref x0, .int 0, .ref x1, .ref x2, .ref x3, .ref x4, .ref x5, .ref x6, .ref x7, .ref x8, .int 0, .int 3000])), (o0, .inl (kA 1, 1, .inr (.inl (vp_updL (fun _ => 0) 0 (n_apply (xs 1) 1 (n_cut (xs 2) ((((xs 4).toInt64) <<< ((32 : Int32).toInt64 &&& 63)) ||| (((xs 5).toInt64) &&& 4294967295))) (n_cut (xs 3) ((((xs 6).toInt64) <<< ((32 : Int32).toInt64 &&& 63)) ||| (((xs 7).toInt64) &&& 4294967295))))))))] := hD
    exact lk_23_7 hC hA2 h0 m0 o0 x0 x1 x2 x3 x4 x5 x6 x7 x8 y0 (fun k hk => (hq k hk)) hq9 c_45 c_46 c_47 c_48 c_49 c_50 c_51 hl hS hP hD
