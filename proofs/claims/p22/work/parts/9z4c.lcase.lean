/-! cases of the law -/
set_option maxHeartbeats 4000000 in
set_option maxRecDepth 100000 in
theorem lk_13 {p : Program} {l : Launch} {e : Env} {s : State} {m : MethodId} {below : List Frame} {meth : Method} {c : Code} {b L : Nat} {xs : Nat → Int32} {D : va_G} {kA : Nat → ClassId} {V Zc Zr : Nat → Nat} {A : Nat → Prop} {o N : Nat} {v : CSt} {u : RSt} {f : Nat → Int64} {H : Heap} {locs : List Loc} {ls : Array Slot} {cs ss : Nat} {n : Nat} (hC : lw_C p l s m meth c b L xs D kA V A) {i : Int32} (hi : ∀ j : Int32, 0 ≤ j → j ≤ 7 → vp_in (i + j) L) (hN : 100000000000000 ≤ N) (hn5 : n < 512) (hU : UC v) (hB : UB u) (hT : J10 N n v u) (hS : LSw D kA Zc Zr o A s v u f H locs) (hl : lv_has ls 8 [(0, .ref b), (1, .ref (Zc 200)), (2, .ref (Zr 200)), (3, .ref o), (4, .int i)]) (hcs : cs + 1 ≤ room_1.cells) (hss : ss + 6 ≤ room_1.slots) (kk : ∀ (v : CSt) (u : RSt) (f : Nat → Int64) (H : Heap) (locs : List Loc) (ls : Array Slot), UC v → UB u → J10 N (n + 1) v u → LSw D kA Zc Zr o A s v u f H locs → lv_has ls 8 [(0, .ref b), (1, .ref (Zc 200)), (2, .ref (Zr 200)), (3, .ref o), (4, .int i)] → W p l e room_1 s m #[Value.ref b] below meth c H locs (cs + 1) (ss + 6) (lw_Z below #[Value.ref b] s) (F0 m 1344 ls [])) : W p l e room_1 s m #[Value.ref b] below meth c H locs cs ss (lw_Z below #[Value.ref b] s) (F0 m 630 ls []) := by
  have ⟨hst, hx, hb, hr, hml, hown, hts, hG, hX, hbl, hbA, hlocks, hE, hK, hA, hA2, hL9⟩ := hC
  refine lv_aload_n hx hb dL_law_630 rfl (lv_at hl 1 rfl) ?_
  refine lv_aload_n hx hb dL_law_631 rfl (lv_at hl 0 rfl) ?_
  refine lv_iload hx hb dL_law_632 (lv_at hl 4 rfl) ?_
  refine lv_iconst (v := 1) hx hb dL_law_634 (by decide) ?_
  refine lv_iadd hx hb dL_law_635 ?_
  refine va_sld hx hb hX hbl hbA hS.2.2 (hi 1 (by decide) (by decide)) dL_law_636 ?_
  refine lv_aload_n hx hb dL_law_637 rfl (lv_at hl 0 rfl) ?_
  refine lv_iload hx hb dL_law_638 (lv_at hl 4 rfl) ?_
  refine lv_iconst (v := 2) hx hb dL_law_640 (by decide) ?_
  refine lv_iadd hx hb dL_law_641 ?_
  refine va_sld hx hb hX hbl hbA hS.2.2 (hi 2 (by decide) (by decide)) dL_law_642 ?_
  refine lv_aload_n hx hb dL_law_643 rfl (lv_at hl 0 rfl) ?_
  refine lv_iload hx hb dL_law_644 (lv_at hl 4 rfl) ?_
  refine lv_iconst (v := 3) hx hb dL_law_646 (by decide) ?_
  refine lv_iadd hx hb dL_law_647 ?_
  refine va_sld hx hb hX hbl hbA hS.2.2 (hi 3 (by decide) (by decide)) dL_law_648 ?_
  refine lv_i2l (v := ((xs (i + 3).toNatClampNeg)).toInt64) hx hb dL_law_649 rfl ?_
  refine lv_bipush (v := 32) hx hb dL_law_650 (by decide) ?_
  refine lv_lshl (v := (((xs (i + 3).toNatClampNeg)).toInt64) <<< ((32 : Int32).toInt64 &&& 63)) hx hb dL_law_652 rfl ?_
  refine lv_aload_n hx hb dL_law_653 rfl (lv_at hl 0 rfl) ?_
  refine lv_iload hx hb dL_law_654 (lv_at hl 4 rfl) ?_
  refine lv_iconst (v := 4) hx hb dL_law_656 (by decide) ?_
  refine lv_iadd hx hb dL_law_657 ?_
  refine va_sld hx hb hX hbl hbA hS.2.2 (hi 4 (by decide) (by decide)) dL_law_658 ?_
  refine lv_i2l (v := ((xs (i + 4).toNatClampNeg)).toInt64) hx hb dL_law_659 rfl ?_
  refine lv_ldc2 (v := 4294967295) hx hb hown (hG _ gw_2760) dL_law_660 ?_
  refine lv_land hx hb dL_law_663 ?_
  refine lv_lor hx hb dL_law_664 ?_
  refine lv_aload_n hx hb dL_law_665 rfl (lv_at hl 3 rfl) ?_
  obtain ⟨y9, w9, hF9, hU9⟩ := v_X11_poke (N := N) (l1 := (xs (i + 1).toNatClampNeg)) (l2 := (xs (i + 2).toNatClampNeg)) (l3 := (((((xs (i + 3).toNatClampNeg)).toInt64) <<< ((32 : Int32).toInt64 &&& 63)) ||| ((((xs (i + 4).toNatClampNeg)).toInt64) &&& 4294967295))) (Nat.le_trans (by decide) hN) hU
  refine lcH (n := 5) (w := w9) hC hS (h_poke l hC.1 D kA V Zc N ((xs (i + 1).toNatClampNeg)) ((xs (i + 2).toNatClampNeg)) ((((((xs (i + 3).toNatClampNeg)).toInt64) <<< ((32 : Int32).toInt64 &&& 63)) ||| ((((xs (i + 4).toNatClampNeg)).toInt64) &&& 4294967295))) o f v H.size hF9 (vs_in hU9)) (gw_SW gw_1720 gw_1721 gw_0 gw_1722) (by decide +kernel) (Nat.le_of_ble_eq_true rfl) (Nat.le_of_ble_eq_true rfl) rfl hl.1 (Nat.le_of_ble_eq_true rfl) rfl dL_law_666 (by omega) (by omega) (fun r9 g9 H locs hQ9 hS => ?_)
  have hU : UC w9 := hU9.1
  refine lv_istore (lv' := [(5, .int r9), (0, .ref b), (1, .ref (Zc 200)), (2, .ref (Zr 200)), (3, .ref o), (4, .int i)]) hx hb dL_law_669 hl (by decide) rfl (fun ls hl => ?_)
  refine lv_aload_n hx hb dL_law_671 rfl (lv_at hl 3 rfl) ?_
  refine lv_aload_n hx hb dL_law_672 rfl (lv_at hl 1 rfl) ?_
  refine lv_iload hx hb dL_law_673 (lv_at hl 5 rfl) ?_
  refine lv_iconst (v := 1) hx hb dL_law_675 (by decide) ?_
  refine lv_iadd hx hb dL_law_676 ?_
  refine va_sld hx hb hX hbl hbA hS.2.2 (hi 1 (by decide) (by decide)) dL_law_677 ?_
  refine lv_aload_n hx hb dL_law_678 rfl (lv_at hl 1 rfl) ?_
  refine lv_iload hx hb dL_law_679 (lv_at hl 5 rfl) ?_
  refine lv_iconst (v := 2) hx hb dL_law_681 (by decide) ?_
  refine lv_iadd hx hb dL_law_682 ?_
  refine va_sld hx hb hX hbl hbA hS.2.2 (hi 2 (by decide) (by decide)) dL_law_683 ?_
  refine lv_aload_n hx hb dL_law_684 rfl (lv_at hl 1 rfl) ?_
  refine lv_iload hx hb dL_law_685 (lv_at hl 5 rfl) ?_
  refine lv_iconst (v := 3) hx hb dL_law_687 (by decide) ?_
  refine lv_iadd hx hb dL_law_688 ?_
  refine va_sld hx hb hX hbl hbA hS.2.2 (hi 3 (by decide) (by decide)) dL_law_689 ?_
  refine lv_i2l (v := ((xs (i + 3).toNatClampNeg)).toInt64) hx hb dL_law_690 rfl ?_
  refine lv_bipush (v := 32) hx hb dL_law_691 (by decide) ?_
  refine lv_lshl (v := (((xs (i + 3).toNatClampNeg)).toInt64) <<< ((32 : Int32).toInt64 &&& 63)) hx hb dL_law_693 rfl ?_
  refine lv_aload_n hx hb dL_law_694 rfl (lv_at hl 1 rfl) ?_
  refine lv_iload hx hb dL_law_695 (lv_at hl 5 rfl) ?_
  refine lv_iconst (v := 4) hx hb dL_law_697 (by decide) ?_
  refine lv_iadd hx hb dL_law_698 ?_
  refine va_sld hx hb hX hbl hbA hS.2.2 (hi 4 (by decide) (by decide)) dL_law_699 ?_
  refine lv_i2l (v := ((xs (i + 4).toNatClampNeg)).toInt64) hx hb dL_law_700 rfl ?_
  refine lv_ldc2 (v := 4294967295) hx hb hown (hG _ gw_2760) dL_law_701 ?_
  refine lv_land hx hb dL_law_704 ?_
  refine lv_lor hx hb dL_law_705 ?_
  obtain ⟨r8, u8, hF8, hB8⟩ : wp (F_poke N ((xs (i + 1).toNatClampNeg)) ((xs (i + 2).toNatClampNeg)) ((((((xs (i + 3).toNatClampNeg)).toInt64) <<< ((32 : Int32).toInt64 &&& 63)) ||| ((((xs (i + 4).toNatClampNeg)).toInt64) &&& 4294967295))) u) (fun _ w => UB w) := x_poke (Nat.le_trans (by decide) hN) hB
  refine lcR_l (n := 3) (x := u8) hC hS (k_poke l D kA V Zr N ((xs (i + 1).toNatClampNeg)) ((xs (i + 2).toNatClampNeg)) ((((((xs (i + 3).toNatClampNeg)).toInt64) <<< ((32 : Int32).toInt64 &&& 63)) ||| ((((xs (i + 4).toNatClampNeg)).toInt64) &&& 4294967295))) u H.size hF8) (gw_V gw_2712 gw_2713 gw_2714 gw_16 gw_2715) (by decide +kernel) (Nat.le_of_ble_eq_true rfl) (Nat.le_of_ble_eq_true rfl) rfl hl.1 (Nat.le_of_ble_eq_true rfl) rfl dL_law_706 (by omega) (by omega) (fun H locs hS => ?_)
  have hB : UB u8 := hB8
  have hT7 := hT.1.1.1.jd (hT.1.1.1.1.jc (kj_F_X11_poke _ _ hF9) (kr_F_poke _ _ hF8)) (kt_F_X11_poke _ _ hF9) (ku_F_poke _ _ hF8)
  have hT8 := hT.1.1.je hT7 (kv_F_X11_poke _ _ hF9) (kx_F_poke _ _ hF8)
  have hT9 := poke_J9 hT.1 hT8 hF9 hF8
  have hT : J10 N (n + 1) _ u8 := J10_of hT9 (by omega) hT.2 (e4_F_poke _ _ hF8)
  refine lv_lstore (lv' := [(6, .long r8), (5, .int r9), (0, .ref b), (1, .ref (Zc 200)), (2, .ref (Zr 200)), (3, .ref o), (4, .int i)]) hx hb dL_law_709 hl (by decide) rfl (fun ls hl => ?_)
  refine lv_goto (tgt := 1344) hx hb dL_law_711 (by decide) ?_
  exact W.widen (by omega) (by omega) (kk _ _ _ _ _ _ hU hB hT hS (lv_sub hl [2, 3, 4, 5, 6] rfl))
set_option maxHeartbeats 4000000 in
set_option maxRecDepth 100000 in
theorem lk_14 {p : Program} {l : Launch} {e : Env} {s : State} {m : MethodId} {below : List Frame} {meth : Method} {c : Code} {b L : Nat} {xs : Nat → Int32} {D : va_G} {kA : Nat → ClassId} {V Zc Zr : Nat → Nat} {A : Nat → Prop} {o N : Nat} {v : CSt} {u : RSt} {f : Nat → Int64} {H : Heap} {locs : List Loc} {ls : Array Slot} {cs ss : Nat} {n : Nat} (hC : lw_C p l s m meth c b L xs D kA V A) {i : Int32} (hi : ∀ j : Int32, 0 ≤ j → j ≤ 7 → vp_in (i + j) L) (hN : 100000000000000 ≤ N) (hn5 : n < 512) (hU : UC v) (hB : UB u) (hT : J10 N n v u) (hS : LSw D kA Zc Zr o A s v u f H locs) (hl : lv_has ls 8 [(0, .ref b), (1, .ref (Zc 200)), (2, .ref (Zr 200)), (3, .ref o), (4, .int i)]) (hcs : cs + 1 ≤ room_1.cells) (hss : ss + 6 ≤ room_1.slots) (kk : ∀ (v : CSt) (u : RSt) (f : Nat → Int64) (H : Heap) (locs : List Loc) (ls : Array Slot), UC v → UB u → J10 N (n + 1) v u → LSw D kA Zc Zr o A s v u f H locs → lv_has ls 8 [(0, .ref b), (1, .ref (Zc 200)), (2, .ref (Zr 200)), (3, .ref o), (4, .int i)] → W p l e room_1 s m #[Value.ref b] below meth c H locs (cs + 1) (ss + 6) (lw_Z below #[Value.ref b] s) (F0 m 1344 ls [])) : W p l e room_1 s m #[Value.ref b] below meth c H locs cs ss (lw_Z below #[Value.ref b] s) (F0 m 714 ls []) := by
  have ⟨hst, hx, hb, hr, hml, hown, hts, hG, hX, hbl, hbA, hlocks, hE, hK, hA, hA2, hL9⟩ := hC
  refine lv_aload_n hx hb dL_law_714 rfl (lv_at hl 1 rfl) ?_
  refine lv_aload_n hx hb dL_law_715 rfl (lv_at hl 0 rfl) ?_
  refine lv_iload hx hb dL_law_716 (lv_at hl 4 rfl) ?_
  refine lv_iconst (v := 1) hx hb dL_law_718 (by decide) ?_
  refine lv_iadd hx hb dL_law_719 ?_
  refine va_sld hx hb hX hbl hbA hS.2.2 (hi 1 (by decide) (by decide)) dL_law_720 ?_
  refine lv_aload_n hx hb dL_law_721 rfl (lv_at hl 0 rfl) ?_
  refine lv_iload hx hb dL_law_722 (lv_at hl 4 rfl) ?_
  refine lv_iconst (v := 2) hx hb dL_law_724 (by decide) ?_
  refine lv_iadd hx hb dL_law_725 ?_
  refine va_sld hx hb hX hbl hbA hS.2.2 (hi 2 (by decide) (by decide)) dL_law_726 ?_
  refine lv_aload_n hx hb dL_law_727 rfl (lv_at hl 3 rfl) ?_
  obtain ⟨y9, w9, hF9, hU9⟩ := v_X11_variable (N := N) (l1 := (xs (i + 1).toNatClampNeg)) (l2 := (xs (i + 2).toNatClampNeg)) (Nat.le_trans (by decide) hN) hU
  refine lcH (n := 4) (w := w9) hC hS (h_variable l hC.1 D kA V Zc N ((xs (i + 1).toNatClampNeg)) ((xs (i + 2).toNatClampNeg)) o f v H.size hF9 (vs_in hU9)) (gw_SW gw_1748 gw_1749 gw_0 gw_1750) (by decide +kernel) (Nat.le_of_ble_eq_true rfl) (Nat.le_of_ble_eq_true rfl) rfl hl.1 (Nat.le_of_ble_eq_true rfl) rfl dL_law_728 (by omega) (by omega) (fun r9 g9 H locs hQ9 hS => ?_)
  have hU : UC w9 := hU9.1
  refine lv_istore (lv' := [(5, .int r9), (0, .ref b), (1, .ref (Zc 200)), (2, .ref (Zr 200)), (3, .ref o), (4, .int i)]) hx hb dL_law_731 hl (by decide) rfl (fun ls hl => ?_)
  refine lv_aload_n hx hb dL_law_733 rfl (lv_at hl 3 rfl) ?_
  refine lv_aload_n hx hb dL_law_734 rfl (lv_at hl 1 rfl) ?_
  refine lv_iload hx hb dL_law_735 (lv_at hl 5 rfl) ?_
  refine lv_iconst (v := 1) hx hb dL_law_737 (by decide) ?_
  refine lv_iadd hx hb dL_law_738 ?_
  refine va_sld hx hb hX hbl hbA hS.2.2 (hi 1 (by decide) (by decide)) dL_law_739 ?_
  refine lv_aload_n hx hb dL_law_740 rfl (lv_at hl 1 rfl) ?_
  refine lv_iload hx hb dL_law_741 (lv_at hl 5 rfl) ?_
  refine lv_iconst (v := 2) hx hb dL_law_743 (by decide) ?_
  refine lv_iadd hx hb dL_law_744 ?_
  refine va_sld hx hb hX hbl hbA hS.2.2 (hi 2 (by decide) (by decide)) dL_law_745 ?_
  obtain ⟨r8, u8, hF8, hB8⟩ : wp (F_variable N ((xs (i + 1).toNatClampNeg)) ((xs (i + 2).toNatClampNeg)) u) (fun _ w => UB w) := x_variable hB
  refine lcR_i (n := 2) (x := u8) hC hS (k_variable l D kA V Zr N ((xs (i + 1).toNatClampNeg)) ((xs (i + 2).toNatClampNeg)) u H.size hF8) (gw_V gw_2716 gw_2717 gw_2718 gw_16 gw_2719) (by decide +kernel) (Nat.le_of_ble_eq_true rfl) (Nat.le_of_ble_eq_true rfl) rfl hl.1 (Nat.le_of_ble_eq_true rfl) rfl dL_law_746 (by omega) (by omega) (fun H locs hS => ?_)
  have hB : UB u8 := hB8
  have hT7 := hT.1.1.1.jd (hT.1.1.1.1.jc (kj_F_X11_variable _ _ hF9) (kr_F_variable _ _ hF8)) (kt_F_X11_variable _ _ hF9) (ku_F_variable _ _ hF8)
  have hT8 := hT.1.1.je hT7 (kv_F_X11_variable _ _ hF9) (kx_F_variable _ _ hF8)
  have hT9 := J9_look hT.1 hT8 (kt_F_X11_variable _ _ hF9) (e2_F_X11_variable _ _ hF9) (e3_F_X11_variable _ _ hF9) (ku_F_variable _ _ hF8) (e4_F_variable _ _ hF8) (e5_F_variable _ _ hF8)
  have hT : J10 N (n + 1) _ u8 := J10_of hT9 (by omega) hT.2 (e4_F_variable _ _ hF8)
  refine lv_istore (lv' := [(6, .int r8), (5, .int r9), (0, .ref b), (1, .ref (Zc 200)), (2, .ref (Zr 200)), (3, .ref o), (4, .int i)]) hx hb dL_law_749 hl (by decide) rfl (fun ls hl => ?_)
  refine lv_goto (tgt := 1344) hx hb dL_law_751 (by decide) ?_
  exact W.widen (by omega) (by omega) (kk _ _ _ _ _ _ hU hB hT hS (lv_sub hl [2, 3, 4, 5, 6] rfl))
set_option maxHeartbeats 4000000 in
set_option maxRecDepth 100000 in
theorem lk_15 {p : Program} {l : Launch} {e : Env} {s : State} {m : MethodId} {below : List Frame} {meth : Method} {c : Code} {b L : Nat} {xs : Nat → Int32} {D : va_G} {kA : Nat → ClassId} {V Zc Zr : Nat → Nat} {A : Nat → Prop} {o N : Nat} {v : CSt} {u : RSt} {f : Nat → Int64} {H : Heap} {locs : List Loc} {ls : Array Slot} {cs ss : Nat} {n : Nat} (hC : lw_C p l s m meth c b L xs D kA V A) {i : Int32} (hi : ∀ j : Int32, 0 ≤ j → j ≤ 7 → vp_in (i + j) L) (hN : 100000000000000 ≤ N) (hn5 : n < 512) (hU : UC v) (hB : UB u) (hT : J10 N n v u) (hS : LSw D kA Zc Zr o A s v u f H locs) (hl : lv_has ls 8 [(0, .ref b), (1, .ref (Zc 200)), (2, .ref (Zr 200)), (3, .ref o), (4, .int i)]) (hcs : cs + 1 ≤ room_1.cells) (hss : ss + 6 ≤ room_1.slots) (kk : ∀ (v : CSt) (u : RSt) (f : Nat → Int64) (H : Heap) (locs : List Loc) (ls : Array Slot), UC v → UB u → J10 N (n + 1) v u → LSw D kA Zc Zr o A s v u f H locs → lv_has ls 8 [(0, .ref b), (1, .ref (Zc 200)), (2, .ref (Zr 200)), (3, .ref o), (4, .int i)] → W p l e room_1 s m #[Value.ref b] below meth c H locs (cs + 1) (ss + 6) (lw_Z below #[Value.ref b] s) (F0 m 1344 ls [])) : W p l e room_1 s m #[Value.ref b] below meth c H locs cs ss (lw_Z below #[Value.ref b] s) (F0 m 754 ls []) := by
  have ⟨hst, hx, hb, hr, hml, hown, hts, hG, hX, hbl, hbA, hlocks, hE, hK, hA, hA2, hL9⟩ := hC
  refine lv_aload_n hx hb dL_law_754 rfl (lv_at hl 1 rfl) ?_
  refine lv_aload_n hx hb dL_law_755 rfl (lv_at hl 0 rfl) ?_
  refine lv_iload hx hb dL_law_756 (lv_at hl 4 rfl) ?_
  refine lv_iconst (v := 1) hx hb dL_law_758 (by decide) ?_
  refine lv_iadd hx hb dL_law_759 ?_
  refine va_sld hx hb hX hbl hbA hS.2.2 (hi 1 (by decide) (by decide)) dL_law_760 ?_
  refine lv_aload_n hx hb dL_law_761 rfl (lv_at hl 0 rfl) ?_
  refine lv_iload hx hb dL_law_762 (lv_at hl 4 rfl) ?_
  refine lv_iconst (v := 2) hx hb dL_law_764 (by decide) ?_
  refine lv_iadd hx hb dL_law_765 ?_
  refine va_sld hx hb hX hbl hbA hS.2.2 (hi 2 (by decide) (by decide)) dL_law_766 ?_
  refine lv_aload_n hx hb dL_law_767 rfl (lv_at hl 0 rfl) ?_
  refine lv_iload hx hb dL_law_768 (lv_at hl 4 rfl) ?_
  refine lv_iconst (v := 3) hx hb dL_law_770 (by decide) ?_
  refine lv_iadd hx hb dL_law_771 ?_
  refine va_sld hx hb hX hbl hbA hS.2.2 (hi 3 (by decide) (by decide)) dL_law_772 ?_
  refine lv_aload_n hx hb dL_law_773 rfl (lv_at hl 3 rfl) ?_
  obtain ⟨y9, w9, hF9, hU9⟩ := v_X11_field (N := N) (l1 := (xs (i + 1).toNatClampNeg)) (l2 := (xs (i + 2).toNatClampNeg)) (l3 := (xs (i + 3).toNatClampNeg)) (Nat.le_trans (by decide) hN) hU
  refine lcH (n := 5) (w := w9) hC hS (h_field l hC.1 D kA V Zc N ((xs (i + 1).toNatClampNeg)) ((xs (i + 2).toNatClampNeg)) ((xs (i + 3).toNatClampNeg)) o f v H.size hF9 (vs_in hU9)) (gw_SW gw_1758 gw_1759 gw_0 gw_1760) (by decide +kernel) (Nat.le_of_ble_eq_true rfl) (Nat.le_of_ble_eq_true rfl) rfl hl.1 (Nat.le_of_ble_eq_true rfl) rfl dL_law_774 (by omega) (by omega) (fun r9 g9 H locs hQ9 hS => ?_)
  have hU : UC w9 := hU9.1
  refine lv_istore (lv' := [(5, .int r9), (0, .ref b), (1, .ref (Zc 200)), (2, .ref (Zr 200)), (3, .ref o), (4, .int i)]) hx hb dL_law_777 hl (by decide) rfl (fun ls hl => ?_)
  refine lv_aload_n hx hb dL_law_779 rfl (lv_at hl 3 rfl) ?_
  refine lv_aload_n hx hb dL_law_780 rfl (lv_at hl 1 rfl) ?_
  refine lv_iload hx hb dL_law_781 (lv_at hl 5 rfl) ?_
  refine lv_iconst (v := 1) hx hb dL_law_783 (by decide) ?_
  refine lv_iadd hx hb dL_law_784 ?_
  refine va_sld hx hb hX hbl hbA hS.2.2 (hi 1 (by decide) (by decide)) dL_law_785 ?_
  refine lv_aload_n hx hb dL_law_786 rfl (lv_at hl 1 rfl) ?_
  refine lv_iload hx hb dL_law_787 (lv_at hl 5 rfl) ?_
  refine lv_iconst (v := 2) hx hb dL_law_789 (by decide) ?_
  refine lv_iadd hx hb dL_law_790 ?_
  refine va_sld hx hb hX hbl hbA hS.2.2 (hi 2 (by decide) (by decide)) dL_law_791 ?_
  refine lv_aload_n hx hb dL_law_792 rfl (lv_at hl 1 rfl) ?_
  refine lv_iload hx hb dL_law_793 (lv_at hl 5 rfl) ?_
  refine lv_iconst (v := 3) hx hb dL_law_795 (by decide) ?_
  refine lv_iadd hx hb dL_law_796 ?_
  refine va_sld hx hb hX hbl hbA hS.2.2 (hi 3 (by decide) (by decide)) dL_law_797 ?_
  obtain ⟨r8, u8, hF8, hB8⟩ : wp (F_field N ((xs (i + 1).toNatClampNeg)) ((xs (i + 2).toNatClampNeg)) ((xs (i + 3).toNatClampNeg)) u) (fun _ w => UB w) := x_field hB
  refine lcR_l (n := 3) (x := u8) hC hS (k_field l D kA V Zr N ((xs (i + 1).toNatClampNeg)) ((xs (i + 2).toNatClampNeg)) ((xs (i + 3).toNatClampNeg)) u H.size hF8) (gw_V gw_2720 gw_2721 gw_2722 gw_16 gw_2723) (by decide +kernel) (Nat.le_of_ble_eq_true rfl) (Nat.le_of_ble_eq_true rfl) rfl hl.1 (Nat.le_of_ble_eq_true rfl) rfl dL_law_798 (by omega) (by omega) (fun H locs hS => ?_)
  have hB : UB u8 := hB8
  have hT7 := hT.1.1.1.jd (hT.1.1.1.1.jc (kj_F_X11_field _ _ hF9) (kr_F_field _ _ hF8)) (kt_F_X11_field _ _ hF9) (ku_F_field _ _ hF8)
  have hT8 := hT.1.1.je hT7 (kv_F_X11_field _ _ hF9) (kx_F_field _ _ hF8)
  have hT9 := J9_look hT.1 hT8 (kt_F_X11_field _ _ hF9) (e2_F_X11_field _ _ hF9) (e3_F_X11_field _ _ hF9) (ku_F_field _ _ hF8) (e4_F_field _ _ hF8) (e5_F_field _ _ hF8)
  have hT : J10 N (n + 1) _ u8 := J10_of hT9 (by omega) hT.2 (e4_F_field _ _ hF8)
  refine lv_lstore (lv' := [(6, .long r8), (5, .int r9), (0, .ref b), (1, .ref (Zc 200)), (2, .ref (Zr 200)), (3, .ref o), (4, .int i)]) hx hb dL_law_801 hl (by decide) rfl (fun ls hl => ?_)
  refine lv_goto (tgt := 1344) hx hb dL_law_803 (by decide) ?_
  exact W.widen (by omega) (by omega) (kk _ _ _ _ _ _ hU hB hT hS (lv_sub hl [2, 3, 4, 5, 6] rfl))
set_option maxHeartbeats 4000000 in
set_option maxRecDepth 100000 in
theorem lk_16 {p : Program} {l : Launch} {e : Env} {s : State} {m : MethodId} {below : List Frame} {meth : Method} {c : Code} {b L : Nat} {xs : Nat → Int32} {D : va_G} {kA : Nat → ClassId} {V Zc Zr : Nat → Nat} {A : Nat → Prop} {o N : Nat} {v : CSt} {u : RSt} {f : Nat → Int64} {H : Heap} {locs : List Loc} {ls : Array Slot} {cs ss : Nat} {n : Nat} (hC : lw_C p l s m meth c b L xs D kA V A) {i : Int32} (hi : ∀ j : Int32, 0 ≤ j → j ≤ 7 → vp_in (i + j) L) (hN : 100000000000000 ≤ N) (hn5 : n < 512) (hU : UC v) (hB : UB u) (hT : J10 N n v u) (hS : LSw D kA Zc Zr o A s v u f H locs) (hl : lv_has ls 8 [(0, .ref b), (1, .ref (Zc 200)), (2, .ref (Zr 200)), (3, .ref o), (4, .int i)]) (hcs : cs + 1 ≤ room_1.cells) (hss : ss + 6 ≤ room_1.slots) (kk : ∀ (v : CSt) (u : RSt) (f : Nat → Int64) (H : Heap) (locs : List Loc) (ls : Array Slot), UC v → UB u → J10 N (n + 1) v u → LSw D kA Zc Zr o A s v u f H locs → lv_has ls 8 [(0, .ref b), (1, .ref (Zc 200)), (2, .ref (Zr 200)), (3, .ref o), (4, .int i)] → W p l e room_1 s m #[Value.ref b] below meth c H locs (cs + 1) (ss + 6) (lw_Z below #[Value.ref b] s) (F0 m 1344 ls [])) : W p l e room_1 s m #[Value.ref b] below meth c H locs cs ss (lw_Z below #[Value.ref b] s) (F0 m 806 ls []) := by
  have ⟨hst, hx, hb, hr, hml, hown, hts, hG, hX, hbl, hbA, hlocks, hE, hK, hA, hA2, hL9⟩ := hC
  refine lv_aload_n hx hb dL_law_806 rfl (lv_at hl 1 rfl) ?_
  refine lv_aload_n hx hb dL_law_807 rfl (lv_at hl 0 rfl) ?_
  refine lv_iload hx hb dL_law_808 (lv_at hl 4 rfl) ?_
  refine lv_iconst (v := 1) hx hb dL_law_810 (by decide) ?_
  refine lv_iadd hx hb dL_law_811 ?_
  refine va_sld hx hb hX hbl hbA hS.2.2 (hi 1 (by decide) (by decide)) dL_law_812 ?_
  refine lv_aload_n hx hb dL_law_813 rfl (lv_at hl 3 rfl) ?_
  obtain ⟨y9, w9, hF9, hU9⟩ := v_X11_find (N := N) (l1 := (xs (i + 1).toNatClampNeg)) (Nat.le_trans (by decide) hN) hU
  refine lcH (n := 3) (w := w9) hC hS (h_find l hC.1 D kA V Zc N ((xs (i + 1).toNatClampNeg)) o f v H.size hF9 (vs_in hU9)) (gw_SW gw_1768 gw_1769 gw_0 gw_1770) (by decide +kernel) (Nat.le_of_ble_eq_true rfl) (Nat.le_of_ble_eq_true rfl) rfl hl.1 (Nat.le_of_ble_eq_true rfl) rfl dL_law_814 (by omega) (by omega) (fun r9 g9 H locs hQ9 hS => ?_)
  have hU : UC w9 := hU9.1
  refine lv_istore (lv' := [(5, .int r9), (0, .ref b), (1, .ref (Zc 200)), (2, .ref (Zr 200)), (3, .ref o), (4, .int i)]) hx hb dL_law_817 hl (by decide) rfl (fun ls hl => ?_)
  refine lv_aload_n hx hb dL_law_819 rfl (lv_at hl 3 rfl) ?_
  refine lv_aload_n hx hb dL_law_820 rfl (lv_at hl 1 rfl) ?_
  refine lv_iload hx hb dL_law_821 (lv_at hl 5 rfl) ?_
  refine lv_iconst (v := 1) hx hb dL_law_823 (by decide) ?_
  refine lv_iadd hx hb dL_law_824 ?_
  refine va_sld hx hb hX hbl hbA hS.2.2 (hi 1 (by decide) (by decide)) dL_law_825 ?_
  obtain ⟨r8, u8, hF8, hB8⟩ : wp (F_find N ((xs (i + 1).toNatClampNeg)) u) (fun _ w => UB w) := x_find (Nat.le_trans (by decide) hN) hB
  refine lcR_i (n := 1) (x := u8) hC hS (k_find l D kA V Zr N ((xs (i + 1).toNatClampNeg)) u H.size hF8) (gw_V gw_2724 gw_2725 gw_2726 gw_16 gw_2727) (by decide +kernel) (Nat.le_of_ble_eq_true rfl) (Nat.le_of_ble_eq_true rfl) rfl hl.1 (Nat.le_of_ble_eq_true rfl) rfl dL_law_826 (by omega) (by omega) (fun H locs hS => ?_)
  have hB : UB u8 := hB8
  have hT7 := hT.1.1.1.jd (hT.1.1.1.1.jc (kj_F_X11_find _ _ hF9) (kr_F_find _ _ hF8)) (kt_F_X11_find _ _ hF9) (ku_F_find _ _ hF8)
  have hT8 := hT.1.1.je hT7 (kv_F_X11_find _ _ hF9) (kx_F_find _ _ hF8)
  have hT9 := J9_look hT.1 hT8 (kt_F_X11_find _ _ hF9) (e2_F_X11_find _ _ hF9) (e3_F_X11_find _ _ hF9) (ku_F_find _ _ hF8) (e4_F_find _ _ hF8) (e5_F_find _ _ hF8)
  have hT : J10 N (n + 1) _ u8 := J10_of hT9 (by omega) hT.2 (e4_F_find _ _ hF8)
  refine lv_istore (lv' := [(6, .int r8), (5, .int r9), (0, .ref b), (1, .ref (Zc 200)), (2, .ref (Zr 200)), (3, .ref o), (4, .int i)]) hx hb dL_law_829 hl (by decide) rfl (fun ls hl => ?_)
  refine lv_goto (tgt := 1344) hx hb dL_law_831 (by decide) ?_
  exact W.widen (by omega) (by omega) (kk _ _ _ _ _ _ hU hB hT hS (lv_sub hl [2, 3, 4, 5, 6] rfl))
set_option maxHeartbeats 4000000 in
set_option maxRecDepth 100000 in
theorem lk_17 {p : Program} {l : Launch} {e : Env} {s : State} {m : MethodId} {below : List Frame} {meth : Method} {c : Code} {b L : Nat} {xs : Nat → Int32} {D : va_G} {kA : Nat → ClassId} {V Zc Zr : Nat → Nat} {A : Nat → Prop} {o N : Nat} {v : CSt} {u : RSt} {f : Nat → Int64} {H : Heap} {locs : List Loc} {ls : Array Slot} {cs ss : Nat} {n : Nat} (hC : lw_C p l s m meth c b L xs D kA V A) {i : Int32} (hi : ∀ j : Int32, 0 ≤ j → j ≤ 7 → vp_in (i + j) L) (hN : 100000000000000 ≤ N) (hn5 : n < 512) (hU : UC v) (hB : UB u) (hT : J10 N n v u) (hS : LSw D kA Zc Zr o A s v u f H locs) (hl : lv_has ls 8 [(0, .ref b), (1, .ref (Zc 200)), (2, .ref (Zr 200)), (3, .ref o), (4, .int i)]) (hcs : cs + 1 ≤ room_1.cells) (hss : ss + 6 ≤ room_1.slots) (kk : ∀ (v : CSt) (u : RSt) (f : Nat → Int64) (H : Heap) (locs : List Loc) (ls : Array Slot), UC v → UB u → J10 N (n + 1) v u → LSw D kA Zc Zr o A s v u f H locs → lv_has ls 8 [(0, .ref b), (1, .ref (Zc 200)), (2, .ref (Zr 200)), (3, .ref o), (4, .int i)] → W p l e room_1 s m #[Value.ref b] below meth c H locs (cs + 1) (ss + 6) (lw_Z below #[Value.ref b] s) (F0 m 1344 ls [])) : W p l e room_1 s m #[Value.ref b] below meth c H locs cs ss (lw_Z below #[Value.ref b] s) (F0 m 834 ls []) := by
  have ⟨hst, hx, hb, hr, hml, hown, hts, hG, hX, hbl, hbA, hlocks, hE, hK, hA, hA2, hL9⟩ := hC
  refine lv_aload_n hx hb dL_law_834 rfl (lv_at hl 1 rfl) ?_
  refine lv_aload_n hx hb dL_law_835 rfl (lv_at hl 0 rfl) ?_
  refine lv_iload hx hb dL_law_836 (lv_at hl 4 rfl) ?_
  refine lv_iconst (v := 1) hx hb dL_law_838 (by decide) ?_
  refine lv_iadd hx hb dL_law_839 ?_
  refine va_sld hx hb hX hbl hbA hS.2.2 (hi 1 (by decide) (by decide)) dL_law_840 ?_
  refine lv_aload_n hx hb dL_law_841 rfl (lv_at hl 0 rfl) ?_
  refine lv_iload hx hb dL_law_842 (lv_at hl 4 rfl) ?_
  refine lv_iconst (v := 2) hx hb dL_law_844 (by decide) ?_
  refine lv_iadd hx hb dL_law_845 ?_
  refine va_sld hx hb hX hbl hbA hS.2.2 (hi 2 (by decide) (by decide)) dL_law_846 ?_
  refine lv_aload_n hx hb dL_law_847 rfl (lv_at hl 0 rfl) ?_
  refine lv_iload hx hb dL_law_848 (lv_at hl 4 rfl) ?_
  refine lv_iconst (v := 3) hx hb dL_law_850 (by decide) ?_
  refine lv_iadd hx hb dL_law_851 ?_
  refine va_sld hx hb hX hbl hbA hS.2.2 (hi 3 (by decide) (by decide)) dL_law_852 ?_
  refine lw_bool hx hb dL_law_853 dL_law_856 dL_law_857 dL_law_860 ?_
  refine lv_aload_n hx hb dL_law_861 rfl (lv_at hl 3 rfl) ?_
  obtain ⟨y9, w9, hF9, hU9⟩ := v_X11_trace (N := N) (l1 := (xs (i + 1).toNatClampNeg)) (l2 := (xs (i + 2).toNatClampNeg)) (l3 := (bzw (xs (i + 3).toNatClampNeg))) (Nat.le_trans (by decide) hN) hU
  refine lcH (n := 5) (w := w9) hC hS (h_trace l hC.1 D kA V Zc N ((xs (i + 1).toNatClampNeg)) ((xs (i + 2).toNatClampNeg)) ((bzw (xs (i + 3).toNatClampNeg))) o f v H.size hF9 (vs_in hU9)) (gw_SW gw_1783 gw_1784 gw_0 gw_1785) (by decide +kernel) (Nat.le_of_ble_eq_true rfl) (Nat.le_of_ble_eq_true rfl) rfl hl.1 (Nat.le_of_ble_eq_true rfl) rfl dL_law_862 (by omega) (by omega) (fun r9 g9 H locs hQ9 hS => ?_)
  have hU : UC w9 := hU9.1
  refine lv_istore (lv' := [(5, .int r9), (0, .ref b), (1, .ref (Zc 200)), (2, .ref (Zr 200)), (3, .ref o), (4, .int i)]) hx hb dL_law_865 hl (by decide) rfl (fun ls hl => ?_)
  refine lv_aload_n hx hb dL_law_867 rfl (lv_at hl 3 rfl) ?_
  refine lv_aload_n hx hb dL_law_868 rfl (lv_at hl 1 rfl) ?_
  refine lv_iload hx hb dL_law_869 (lv_at hl 5 rfl) ?_
  refine lv_iconst (v := 1) hx hb dL_law_871 (by decide) ?_
  refine lv_iadd hx hb dL_law_872 ?_
  refine va_sld hx hb hX hbl hbA hS.2.2 (hi 1 (by decide) (by decide)) dL_law_873 ?_
  refine lv_aload_n hx hb dL_law_874 rfl (lv_at hl 1 rfl) ?_
  refine lv_iload hx hb dL_law_875 (lv_at hl 5 rfl) ?_
  refine lv_iconst (v := 2) hx hb dL_law_877 (by decide) ?_
  refine lv_iadd hx hb dL_law_878 ?_
  refine va_sld hx hb hX hbl hbA hS.2.2 (hi 2 (by decide) (by decide)) dL_law_879 ?_
  refine lv_aload_n hx hb dL_law_880 rfl (lv_at hl 1 rfl) ?_
  refine lv_iload hx hb dL_law_881 (lv_at hl 5 rfl) ?_
  refine lv_iconst (v := 3) hx hb dL_law_883 (by decide) ?_
  refine lv_iadd hx hb dL_law_884 ?_
  refine va_sld hx hb hX hbl hbA hS.2.2 (hi 3 (by decide) (by decide)) dL_law_885 ?_
  refine lw_bool hx hb dL_law_886 dL_law_889 dL_law_890 dL_law_893 ?_
  obtain ⟨r8, u8, hF8, hB8⟩ : wp (F_trace N ((xs (i + 1).toNatClampNeg)) ((xs (i + 2).toNatClampNeg)) ((bzw (xs (i + 3).toNatClampNeg))) u) (fun _ w => UB w) := x_trace (Nat.le_trans (by decide) hN) hB (bzw_01 _)
  refine lcR_i (n := 3) (x := u8) hC hS (k_trace l D kA V Zr N ((xs (i + 1).toNatClampNeg)) ((xs (i + 2).toNatClampNeg)) ((bzw (xs (i + 3).toNatClampNeg))) u H.size hF8) (gw_V gw_2728 gw_2729 gw_2730 gw_16 gw_2731) (by decide +kernel) (Nat.le_of_ble_eq_true rfl) (Nat.le_of_ble_eq_true rfl) rfl hl.1 (Nat.le_of_ble_eq_true rfl) rfl dL_law_894 (by omega) (by omega) (fun H locs hS => ?_)
  have hB : UB u8 := hB8
  have hE8 := trace_J hT.1.1 (bzw_01 _) hF8 hF9
  have hT7 := hT.1.1.1.jd (hT.1.1.1.1.jc (kj_F_X11_trace _ _ hF9) (kr_F_trace _ _ hF8)) (kt_F_X11_trace _ _ hF9) (ku_F_trace _ _ hF8)
  have hT8 : J8 _ u8 := ⟨hT7, hE8.2⟩
  have hT9 := trace_J9 hT.1 (bzw_01 _) hT8 hF9 hF8
  have hT : J10 N (n + 1) _ u8 := J10_of hT9 (by omega) hT.2 (e4_F_trace _ _ hF8)
  refine lv_istore (lv' := [(6, .int r8), (5, .int r9), (0, .ref b), (1, .ref (Zc 200)), (2, .ref (Zr 200)), (3, .ref o), (4, .int i)]) hx hb dL_law_897 hl (by decide) rfl (fun ls hl => ?_)
  refine lv_goto (tgt := 1344) hx hb dL_law_899 (by decide) ?_
  exact W.widen (by omega) (by omega) (kk _ _ _ _ _ _ hU hB hT hS (lv_sub hl [2, 3, 4, 5, 6] rfl))
