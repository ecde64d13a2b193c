/-! cases of the law -/
set_option maxHeartbeats 4000000 in
set_option maxRecDepth 100000 in
theorem lk_18 {p : Program} {l : Launch} {e : Env} {s : State} {m : MethodId} {below : List Frame} {meth : Method} {c : Code} {b L : Nat} {xs : Nat → Int32} {D : va_G} {kA : Nat → ClassId} {V Zc Zr : Nat → Nat} {A : Nat → Prop} {o N : Nat} {v : CSt} {u : RSt} {f : Nat → Int64} {H : Heap} {locs : List Loc} {ls : Array Slot} {cs ss : Nat} (hC : lw_C p l s m meth c b L xs D kA V A) {i : Int32} (hi : ∀ j : Int32, 0 ≤ j → j ≤ 7 → vp_in (i + j) L) (hN : 100000000000000 ≤ N) (hU : UC v) (hB : UB u) (hS : LSw D kA Zc Zr o A s v u f H locs) (hl : lv_has ls 8 [(0, .ref b), (1, .ref (Zc 200)), (2, .ref (Zr 200)), (3, .ref o), (4, .int i)]) (hcs : cs + 1 ≤ room_1.cells) (hss : ss + 6 ≤ room_1.slots) (kk : ∀ (v : CSt) (u : RSt) (f : Nat → Int64) (H : Heap) (locs : List Loc) (ls : Array Slot), UC v → UB u → LSw D kA Zc Zr o A s v u f H locs → lv_has ls 8 [(0, .ref b), (1, .ref (Zc 200)), (2, .ref (Zr 200)), (3, .ref o), (4, .int i)] → W p l e room_1 s m #[Value.ref b] below meth c H locs (cs + 1) (ss + 6) (lw_Z below #[Value.ref b] s) (F0 m 1370 ls [])) : W p l e room_1 s m #[Value.ref b] below meth c H locs cs ss (lw_Z below #[Value.ref b] s) (F0 m 902 ls []) := by
  have ⟨hst, hx, hb, hr, hml, hown, hts, hG, hX, hbl, hbA, hlocks, hE, hK, hA, hA2, hL9⟩ := hC
  refine lv_aload_n hx hb dL_law_902 rfl (lv_at hl 1 rfl) ?_
  refine lv_aload_n hx hb dL_law_903 rfl (lv_at hl 0 rfl) ?_
  refine lv_iload hx hb dL_law_904 (lv_at hl 4 rfl) ?_
  refine lv_iconst (v := 1) hx hb dL_law_906 (by decide) ?_
  refine lv_iadd hx hb dL_law_907 ?_
  refine va_sld hx hb hX hbl hbA hS.2.2 (hi 1 (by decide) (by decide)) dL_law_908 ?_
  refine lv_aload_n hx hb dL_law_909 rfl (lv_at hl 0 rfl) ?_
  refine lv_iload hx hb dL_law_910 (lv_at hl 4 rfl) ?_
  refine lv_iconst (v := 2) hx hb dL_law_912 (by decide) ?_
  refine lv_iadd hx hb dL_law_913 ?_
  refine va_sld hx hb hX hbl hbA hS.2.2 (hi 2 (by decide) (by decide)) dL_law_914 ?_
  refine lv_aload_n hx hb dL_law_915 rfl (lv_at hl 3 rfl) ?_
  obtain ⟨y9, w9, hF9, hU9⟩ := v_X11_event (N := N) (l1 := (xs (i + 1).toNatClampNeg)) (l2 := (xs (i + 2).toNatClampNeg)) (Nat.le_trans (by decide) hN) hU
  refine lcH (n := 4) (w := w9) hC hS (h_event l hC.1 D kA V Zc N ((xs (i + 1).toNatClampNeg)) ((xs (i + 2).toNatClampNeg)) o f v H.size hF9 (vs_in hU9)) (gw_SW gw_1805 gw_1806 gw_0 gw_1807) (by decide +kernel) (Nat.le_of_ble_eq_true rfl) (Nat.le_of_ble_eq_true rfl) rfl hl.1 (Nat.le_of_ble_eq_true rfl) rfl dL_law_916 (by omega) (by omega) (fun r9 g9 H locs hQ9 hS => ?_)
  have hU : UC w9 := hU9.1
  refine lv_istore (lv' := [(5, .int r9), (0, .ref b), (1, .ref (Zc 200)), (2, .ref (Zr 200)), (3, .ref o), (4, .int i)]) hx hb dL_law_919 hl (by decide) rfl (fun ls hl => ?_)
  refine lv_aload_n hx hb dL_law_921 rfl (lv_at hl 3 rfl) ?_
  refine lv_aload_n hx hb dL_law_922 rfl (lv_at hl 1 rfl) ?_
  refine lv_iload hx hb dL_law_923 (lv_at hl 5 rfl) ?_
  refine lv_iconst (v := 1) hx hb dL_law_925 (by decide) ?_
  refine lv_iadd hx hb dL_law_926 ?_
  refine va_sld hx hb hX hbl hbA hS.2.2 (hi 1 (by decide) (by decide)) dL_law_927 ?_
  refine lv_aload_n hx hb dL_law_928 rfl (lv_at hl 1 rfl) ?_
  refine lv_iload hx hb dL_law_929 (lv_at hl 5 rfl) ?_
  refine lv_iconst (v := 2) hx hb dL_law_931 (by decide) ?_
  refine lv_iadd hx hb dL_law_932 ?_
  refine va_sld hx hb hX hbl hbA hS.2.2 (hi 2 (by decide) (by decide)) dL_law_933 ?_
  obtain ⟨r8, u8, hF8, hB8⟩ : wp (F_event N ((xs (i + 1).toNatClampNeg)) ((xs (i + 2).toNatClampNeg)) u) (fun _ w => UB w) := x_event hB
  refine lcR_l (n := 2) (x := u8) hC hS (k_event l D kA V Zr N ((xs (i + 1).toNatClampNeg)) ((xs (i + 2).toNatClampNeg)) u H.size hF8) (gw_V gw_2736 gw_2737 gw_2738 gw_16 gw_2739) (by decide +kernel) (Nat.le_of_ble_eq_true rfl) (Nat.le_of_ble_eq_true rfl) rfl hl.1 (Nat.le_of_ble_eq_true rfl) rfl dL_law_934 (by omega) (by omega) (fun H locs hS => ?_)
  have hB : UB u8 := hB8
  refine lv_lstore (lv' := [(6, .long r8), (5, .int r9), (0, .ref b), (1, .ref (Zc 200)), (2, .ref (Zr 200)), (3, .ref o), (4, .int i)]) hx hb dL_law_937 hl (by decide) rfl (fun ls hl => ?_)
  refine lv_goto (tgt := 1370) hx hb dL_law_939 (by decide) ?_
  exact W.widen (by omega) (by omega) (kk _ _ _ _ _ _ hU hB hS (lv_sub hl [2, 3, 4, 5, 6] rfl))
set_option maxHeartbeats 4000000 in
set_option maxRecDepth 100000 in
theorem lk_19 {p : Program} {l : Launch} {e : Env} {s : State} {m : MethodId} {below : List Frame} {meth : Method} {c : Code} {b L : Nat} {xs : Nat → Int32} {D : va_G} {kA : Nat → ClassId} {V Zc Zr : Nat → Nat} {A : Nat → Prop} {o N : Nat} {v : CSt} {u : RSt} {f : Nat → Int64} {H : Heap} {locs : List Loc} {ls : Array Slot} {cs ss : Nat} (hC : lw_C p l s m meth c b L xs D kA V A) {i : Int32} (hi : ∀ j : Int32, 0 ≤ j → j ≤ 7 → vp_in (i + j) L) (hN : 100000000000000 ≤ N) (hU : UC v) (hB : UB u) (hS : LSw D kA Zc Zr o A s v u f H locs) (hl : lv_has ls 8 [(0, .ref b), (1, .ref (Zc 200)), (2, .ref (Zr 200)), (3, .ref o), (4, .int i)]) (hcs : cs + 1 ≤ room_1.cells) (hss : ss + 6 ≤ room_1.slots) (kk : ∀ (v : CSt) (u : RSt) (f : Nat → Int64) (H : Heap) (locs : List Loc) (ls : Array Slot), UC v → UB u → LSw D kA Zc Zr o A s v u f H locs → lv_has ls 8 [(0, .ref b), (1, .ref (Zc 200)), (2, .ref (Zr 200)), (3, .ref o), (4, .int i)] → W p l e room_1 s m #[Value.ref b] below meth c H locs (cs + 1) (ss + 6) (lw_Z below #[Value.ref b] s) (F0 m 1370 ls [])) : W p l e room_1 s m #[Value.ref b] below meth c H locs cs ss (lw_Z below #[Value.ref b] s) (F0 m 942 ls []) := by
  have ⟨hst, hx, hb, hr, hml, hown, hts, hG, hX, hbl, hbA, hlocks, hE, hK, hA, hA2, hL9⟩ := hC
  refine lv_aload_n hx hb dL_law_942 rfl (lv_at hl 1 rfl) ?_
  refine lv_aload_n hx hb dL_law_943 rfl (lv_at hl 0 rfl) ?_
  refine lv_iload hx hb dL_law_944 (lv_at hl 4 rfl) ?_
  refine lv_iconst (v := 1) hx hb dL_law_946 (by decide) ?_
  refine lv_iadd hx hb dL_law_947 ?_
  refine va_sld hx hb hX hbl hbA hS.2.2 (hi 1 (by decide) (by decide)) dL_law_948 ?_
  refine lv_aload_n hx hb dL_law_949 rfl (lv_at hl 3 rfl) ?_
  obtain ⟨y9, w9, hF9, hU9⟩ := v_X11_count (N := N) (l1 := (xs (i + 1).toNatClampNeg)) (Nat.le_trans (by decide) hN) hU
  refine lcH (n := 3) (w := w9) hC hS (h_count l hC.1 D kA V Zc N ((xs (i + 1).toNatClampNeg)) o f v H.size hF9 (vs_in hU9)) (gw_SW gw_1819 gw_1820 gw_0 gw_1821) (by decide +kernel) (Nat.le_of_ble_eq_true rfl) (Nat.le_of_ble_eq_true rfl) rfl hl.1 (Nat.le_of_ble_eq_true rfl) rfl dL_law_950 (by omega) (by omega) (fun r9 g9 H locs hQ9 hS => ?_)
  have hU : UC w9 := hU9.1
  refine lv_istore (lv' := [(5, .int r9), (0, .ref b), (1, .ref (Zc 200)), (2, .ref (Zr 200)), (3, .ref o), (4, .int i)]) hx hb dL_law_953 hl (by decide) rfl (fun ls hl => ?_)
  refine lv_aload_n hx hb dL_law_955 rfl (lv_at hl 3 rfl) ?_
  refine lv_aload_n hx hb dL_law_956 rfl (lv_at hl 1 rfl) ?_
  refine lv_iload hx hb dL_law_957 (lv_at hl 5 rfl) ?_
  refine lv_iconst (v := 1) hx hb dL_law_959 (by decide) ?_
  refine lv_iadd hx hb dL_law_960 ?_
  refine va_sld hx hb hX hbl hbA hS.2.2 (hi 1 (by decide) (by decide)) dL_law_961 ?_
  obtain ⟨r8, u8, hF8, hB8⟩ : wp (F_count N ((xs (i + 1).toNatClampNeg)) u) (fun _ w => UB w) := x_count (Nat.le_trans (by decide) hN) hB
  refine lcR_i (n := 1) (x := u8) hC hS (k_count l D kA V Zr N ((xs (i + 1).toNatClampNeg)) u H.size hF8) (gw_V gw_2740 gw_2741 gw_2742 gw_16 gw_2743) (by decide +kernel) (Nat.le_of_ble_eq_true rfl) (Nat.le_of_ble_eq_true rfl) rfl hl.1 (Nat.le_of_ble_eq_true rfl) rfl dL_law_962 (by omega) (by omega) (fun H locs hS => ?_)
  have hB : UB u8 := hB8
  refine lv_istore (lv' := [(6, .int r8), (5, .int r9), (0, .ref b), (1, .ref (Zc 200)), (2, .ref (Zr 200)), (3, .ref o), (4, .int i)]) hx hb dL_law_965 hl (by decide) rfl (fun ls hl => ?_)
  refine lv_goto (tgt := 1370) hx hb dL_law_967 (by decide) ?_
  exact W.widen (by omega) (by omega) (kk _ _ _ _ _ _ hU hB hS (lv_sub hl [2, 3, 4, 5, 6] rfl))
set_option maxHeartbeats 4000000 in
set_option maxRecDepth 100000 in
theorem lk_20 {p : Program} {l : Launch} {e : Env} {s : State} {m : MethodId} {below : List Frame} {meth : Method} {c : Code} {b L : Nat} {xs : Nat → Int32} {D : va_G} {kA : Nat → ClassId} {V Zc Zr : Nat → Nat} {A : Nat → Prop} {o N : Nat} {v : CSt} {u : RSt} {f : Nat → Int64} {H : Heap} {locs : List Loc} {ls : Array Slot} {cs ss : Nat} (hC : lw_C p l s m meth c b L xs D kA V A) {i : Int32} (hi : ∀ j : Int32, 0 ≤ j → j ≤ 7 → vp_in (i + j) L) (hN : 100000000000000 ≤ N) (hU : UC v) (hB : UB u) (hS : LSw D kA Zc Zr o A s v u f H locs) (hl : lv_has ls 8 [(0, .ref b), (1, .ref (Zc 200)), (2, .ref (Zr 200)), (3, .ref o), (4, .int i)]) (hcs : cs + 1 ≤ room_1.cells) (hss : ss + 6 ≤ room_1.slots) (kk : ∀ (v : CSt) (u : RSt) (f : Nat → Int64) (H : Heap) (locs : List Loc) (ls : Array Slot), UC v → UB u → LSw D kA Zc Zr o A s v u f H locs → lv_has ls 8 [(0, .ref b), (1, .ref (Zc 200)), (2, .ref (Zr 200)), (3, .ref o), (4, .int i)] → W p l e room_1 s m #[Value.ref b] below meth c H locs (cs + 1) (ss + 6) (lw_Z below #[Value.ref b] s) (F0 m 1370 ls [])) : W p l e room_1 s m #[Value.ref b] below meth c H locs cs ss (lw_Z below #[Value.ref b] s) (F0 m 970 ls []) := by
  have ⟨hst, hx, hb, hr, hml, hown, hts, hG, hX, hbl, hbA, hlocks, hE, hK, hA, hA2, hL9⟩ := hC
  refine lv_aload_n hx hb dL_law_970 rfl (lv_at hl 1 rfl) ?_
  obtain ⟨r9, w9, hF9, hU9⟩ := v_X11_sum (N := N)  (Nat.le_trans (by decide) hN) hU
  refine lcC_l (n := 0) (w := w9) hC hS (k_X11_sum l D kA V Zc N  v H.size hF9) (gw_V gw_1437 gw_1438 gw_1439 gw_1 gw_1440) (by decide +kernel) (Nat.le_of_ble_eq_true rfl) (Nat.le_of_ble_eq_true rfl) rfl hl.1 (Nat.le_of_ble_eq_true rfl) rfl dL_law_971 (by omega) (by omega) (fun H locs hS => ?_)
  have hU : UC w9 := by rw [hU9.1]; exact hU
  refine lv_pop2_2 hx hb dL_law_974 rfl ?_
  refine lv_aload_n hx hb dL_law_975 rfl (lv_at hl 2 rfl) ?_
  obtain ⟨r8, u8, hF8, hB8⟩ : wp (F_sum N  u) (fun _ w => UB w) := x_sum (Nat.le_trans (by decide) hN) hB
  refine lcR_l (n := 0) (x := u8) hC hS (k_sum l D kA V Zr N  u H.size hF8) (gw_V gw_2744 gw_2745 gw_2746 gw_16 gw_2747) (by decide +kernel) (Nat.le_of_ble_eq_true rfl) (Nat.le_of_ble_eq_true rfl) rfl hl.1 (Nat.le_of_ble_eq_true rfl) rfl dL_law_976 (by omega) (by omega) (fun H locs hS => ?_)
  have hB : UB u8 := hB8
  refine lv_pop2_2 hx hb dL_law_979 rfl ?_
  refine lv_goto (tgt := 1370) hx hb dL_law_980 (by decide) ?_
  exact W.widen (by omega) (by omega) (kk _ _ _ _ _ _ hU hB hS (lv_sub hl [0, 1, 2, 3, 4] rfl))
set_option maxHeartbeats 4000000 in
set_option maxRecDepth 100000 in
theorem lk_21 {p : Program} {l : Launch} {e : Env} {s : State} {m : MethodId} {below : List Frame} {meth : Method} {c : Code} {b L : Nat} {xs : Nat → Int32} {D : va_G} {kA : Nat → ClassId} {V Zc Zr : Nat → Nat} {A : Nat → Prop} {o N : Nat} {v : CSt} {u : RSt} {f : Nat → Int64} {H : Heap} {locs : List Loc} {ls : Array Slot} {cs ss : Nat} (hC : lw_C p l s m meth c b L xs D kA V A) {i : Int32} (hi : ∀ j : Int32, 0 ≤ j → j ≤ 7 → vp_in (i + j) L) (hN : 100000000000000 ≤ N) (hU : UC v) (hB : UB u) (hS : LSw D kA Zc Zr o A s v u f H locs) (hl : lv_has ls 8 [(0, .ref b), (1, .ref (Zc 200)), (2, .ref (Zr 200)), (3, .ref o), (4, .int i)]) (hcs : cs + 1 ≤ room_1.cells) (hss : ss + 6 ≤ room_1.slots) (kk : ∀ (v : CSt) (u : RSt) (f : Nat → Int64) (H : Heap) (locs : List Loc) (ls : Array Slot), UC v → UB u → LSw D kA Zc Zr o A s v u f H locs → lv_has ls 8 [(0, .ref b), (1, .ref (Zc 200)), (2, .ref (Zr 200)), (3, .ref o), (4, .int i)] → W p l e room_1 s m #[Value.ref b] below meth c H locs (cs + 1) (ss + 6) (lw_Z below #[Value.ref b] s) (F0 m 1370 ls [])) : W p l e room_1 s m #[Value.ref b] below meth c H locs cs ss (lw_Z below #[Value.ref b] s) (F0 m 983 ls []) := by
  have ⟨hst, hx, hb, hr, hml, hown, hts, hG, hX, hbl, hbA, hlocks, hE, hK, hA, hA2, hL9⟩ := hC
  refine lv_aload_n hx hb dL_law_983 rfl (lv_at hl 1 rfl) ?_
  refine lv_aload_n hx hb dL_law_984 rfl (lv_at hl 0 rfl) ?_
  refine lv_iload hx hb dL_law_985 (lv_at hl 4 rfl) ?_
  refine lv_iconst (v := 1) hx hb dL_law_987 (by decide) ?_
  refine lv_iadd hx hb dL_law_988 ?_
  refine va_sld hx hb hX hbl hbA hS.2.2 (hi 1 (by decide) (by decide)) dL_law_989 ?_
  refine lv_aload_n hx hb dL_law_990 rfl (lv_at hl 0 rfl) ?_
  refine lv_iload hx hb dL_law_991 (lv_at hl 4 rfl) ?_
  refine lv_iconst (v := 2) hx hb dL_law_993 (by decide) ?_
  refine lv_iadd hx hb dL_law_994 ?_
  refine va_sld hx hb hX hbl hbA hS.2.2 (hi 2 (by decide) (by decide)) dL_law_995 ?_
  refine lv_i2l (v := ((xs (i + 2).toNatClampNeg)).toInt64) hx hb dL_law_996 rfl ?_
  refine lv_bipush (v := 32) hx hb dL_law_997 (by decide) ?_
  refine lv_lshl (v := (((xs (i + 2).toNatClampNeg)).toInt64) <<< ((32 : Int32).toInt64 &&& 63)) hx hb dL_law_999 rfl ?_
  refine lv_aload_n hx hb dL_law_1000 rfl (lv_at hl 0 rfl) ?_
  refine lv_iload hx hb dL_law_1001 (lv_at hl 4 rfl) ?_
  refine lv_iconst (v := 3) hx hb dL_law_1003 (by decide) ?_
  refine lv_iadd hx hb dL_law_1004 ?_
  refine va_sld hx hb hX hbl hbA hS.2.2 (hi 3 (by decide) (by decide)) dL_law_1005 ?_
  refine lv_i2l (v := ((xs (i + 3).toNatClampNeg)).toInt64) hx hb dL_law_1006 rfl ?_
  refine lv_ldc2 (v := 4294967295) hx hb hown (hG _ gw_2764) dL_law_1007 ?_
  refine lv_land hx hb dL_law_1010 ?_
  refine lv_lor hx hb dL_law_1011 ?_
  refine lv_aload_n hx hb dL_law_1012 rfl (lv_at hl 3 rfl) ?_
  obtain ⟨y9, w9, hF9, hU9⟩ := v_X11_cut (N := N) (l1 := (xs (i + 1).toNatClampNeg)) (l2 := (((((xs (i + 2).toNatClampNeg)).toInt64) <<< ((32 : Int32).toInt64 &&& 63)) ||| ((((xs (i + 3).toNatClampNeg)).toInt64) &&& 4294967295))) (Nat.le_trans (by decide) hN) hU
  refine lcH (n := 4) (w := w9) hC hS (h_cut l hC.1 D kA V Zc N ((xs (i + 1).toNatClampNeg)) ((((((xs (i + 2).toNatClampNeg)).toInt64) <<< ((32 : Int32).toInt64 &&& 63)) ||| ((((xs (i + 3).toNatClampNeg)).toInt64) &&& 4294967295))) o f v H.size hF9 (vs_in hU9)) (gw_SW gw_1831 gw_1832 gw_0 gw_1833) (by decide +kernel) (Nat.le_of_ble_eq_true rfl) (Nat.le_of_ble_eq_true rfl) rfl hl.1 (Nat.le_of_ble_eq_true rfl) rfl dL_law_1013 (by omega) (by omega) (fun r9 g9 H locs hQ9 hS => ?_)
  have hU : UC w9 := hU9.1
  refine lv_istore (lv' := [(5, .int r9), (0, .ref b), (1, .ref (Zc 200)), (2, .ref (Zr 200)), (3, .ref o), (4, .int i)]) hx hb dL_law_1016 hl (by decide) rfl (fun ls hl => ?_)
  refine lv_aload_n hx hb dL_law_1018 rfl (lv_at hl 3 rfl) ?_
  refine lv_aload_n hx hb dL_law_1019 rfl (lv_at hl 1 rfl) ?_
  refine lv_iload hx hb dL_law_1020 (lv_at hl 5 rfl) ?_
  refine lv_iconst (v := 1) hx hb dL_law_1022 (by decide) ?_
  refine lv_iadd hx hb dL_law_1023 ?_
  refine va_sld hx hb hX hbl hbA hS.2.2 (hi 1 (by decide) (by decide)) dL_law_1024 ?_
  refine lv_aload_n hx hb dL_law_1025 rfl (lv_at hl 1 rfl) ?_
  refine lv_iload hx hb dL_law_1026 (lv_at hl 5 rfl) ?_
  refine lv_iconst (v := 2) hx hb dL_law_1028 (by decide) ?_
  refine lv_iadd hx hb dL_law_1029 ?_
  refine va_sld hx hb hX hbl hbA hS.2.2 (hi 2 (by decide) (by decide)) dL_law_1030 ?_
  refine lv_i2l (v := ((xs (i + 2).toNatClampNeg)).toInt64) hx hb dL_law_1031 rfl ?_
  refine lv_bipush (v := 32) hx hb dL_law_1032 (by decide) ?_
  refine lv_lshl (v := (((xs (i + 2).toNatClampNeg)).toInt64) <<< ((32 : Int32).toInt64 &&& 63)) hx hb dL_law_1034 rfl ?_
  refine lv_aload_n hx hb dL_law_1035 rfl (lv_at hl 1 rfl) ?_
  refine lv_iload hx hb dL_law_1036 (lv_at hl 5 rfl) ?_
  refine lv_iconst (v := 3) hx hb dL_law_1038 (by decide) ?_
  refine lv_iadd hx hb dL_law_1039 ?_
  refine va_sld hx hb hX hbl hbA hS.2.2 (hi 3 (by decide) (by decide)) dL_law_1040 ?_
  refine lv_i2l (v := ((xs (i + 3).toNatClampNeg)).toInt64) hx hb dL_law_1041 rfl ?_
  refine lv_ldc2 (v := 4294967295) hx hb hown (hG _ gw_2764) dL_law_1042 ?_
  refine lv_land hx hb dL_law_1045 ?_
  refine lv_lor hx hb dL_law_1046 ?_
  obtain ⟨r8, u8, hF8, hB8⟩ : wp (F_cut N ((xs (i + 1).toNatClampNeg)) ((((((xs (i + 2).toNatClampNeg)).toInt64) <<< ((32 : Int32).toInt64 &&& 63)) ||| ((((xs (i + 3).toNatClampNeg)).toInt64) &&& 4294967295))) u) (fun _ w => UB w) := x_cut hB
  refine lcR_l (n := 2) (x := u8) hC hS (k_cut l D kA V Zr N ((xs (i + 1).toNatClampNeg)) ((((((xs (i + 2).toNatClampNeg)).toInt64) <<< ((32 : Int32).toInt64 &&& 63)) ||| ((((xs (i + 3).toNatClampNeg)).toInt64) &&& 4294967295))) u H.size hF8) (gw_V gw_2748 gw_2749 gw_2750 gw_16 gw_2751) (by decide +kernel) (Nat.le_of_ble_eq_true rfl) (Nat.le_of_ble_eq_true rfl) rfl hl.1 (Nat.le_of_ble_eq_true rfl) rfl dL_law_1047 (by omega) (by omega) (fun H locs hS => ?_)
  have hB : UB u8 := hB8
  refine lv_lstore (lv' := [(6, .long r8), (5, .int r9), (0, .ref b), (1, .ref (Zc 200)), (2, .ref (Zr 200)), (3, .ref o), (4, .int i)]) hx hb dL_law_1050 hl (by decide) rfl (fun ls hl => ?_)
  refine lv_goto (tgt := 1370) hx hb dL_law_1052 (by decide) ?_
  exact W.widen (by omega) (by omega) (kk _ _ _ _ _ _ hU hB hS (lv_sub hl [2, 3, 4, 5, 6] rfl))
set_option maxHeartbeats 4000000 in
set_option maxRecDepth 100000 in
theorem lk_22 {p : Program} {l : Launch} {e : Env} {s : State} {m : MethodId} {below : List Frame} {meth : Method} {c : Code} {b L : Nat} {xs : Nat → Int32} {D : va_G} {kA : Nat → ClassId} {V Zc Zr : Nat → Nat} {A : Nat → Prop} {o N : Nat} {v : CSt} {u : RSt} {f : Nat → Int64} {H : Heap} {locs : List Loc} {ls : Array Slot} {cs ss : Nat} (hC : lw_C p l s m meth c b L xs D kA V A) {i : Int32} (hi : ∀ j : Int32, 0 ≤ j → j ≤ 7 → vp_in (i + j) L) (hN : 100000000000000 ≤ N) (hU : UC v) (hB : UB u) (hS : LSw D kA Zc Zr o A s v u f H locs) (hl : lv_has ls 8 [(0, .ref b), (1, .ref (Zc 200)), (2, .ref (Zr 200)), (3, .ref o), (4, .int i)]) (hcs : cs + 1 ≤ room_1.cells) (hss : ss + 6 ≤ room_1.slots) (kk : ∀ (v : CSt) (u : RSt) (f : Nat → Int64) (H : Heap) (locs : List Loc) (ls : Array Slot), UC v → UB u → LSw D kA Zc Zr o A s v u f H locs → lv_has ls 8 [(0, .ref b), (1, .ref (Zc 200)), (2, .ref (Zr 200)), (3, .ref o), (4, .int i)] → W p l e room_1 s m #[Value.ref b] below meth c H locs (cs + 1) (ss + 6) (lw_Z below #[Value.ref b] s) (F0 m 1370 ls [])) : W p l e room_1 s m #[Value.ref b] below meth c H locs cs ss (lw_Z below #[Value.ref b] s) (F0 m 1055 ls []) := by
  have ⟨hst, hx, hb, hr, hml, hown, hts, hG, hX, hbl, hbA, hlocks, hE, hK, hA, hA2, hL9⟩ := hC
  refine lv_aload_n hx hb dL_law_1055 rfl (lv_at hl 1 rfl) ?_
  refine lv_aload_n hx hb dL_law_1056 rfl (lv_at hl 0 rfl) ?_
  refine lv_iload hx hb dL_law_1057 (lv_at hl 4 rfl) ?_
  refine lv_iconst (v := 1) hx hb dL_law_1059 (by decide) ?_
  refine lv_iadd hx hb dL_law_1060 ?_
  refine va_sld hx hb hX hbl hbA hS.2.2 (hi 1 (by decide) (by decide)) dL_law_1061 ?_
  refine lv_aload_n hx hb dL_law_1062 rfl (lv_at hl 0 rfl) ?_
  refine lv_iload hx hb dL_law_1063 (lv_at hl 4 rfl) ?_
  refine lv_iconst (v := 2) hx hb dL_law_1065 (by decide) ?_
  refine lv_iadd hx hb dL_law_1066 ?_
  refine va_sld hx hb hX hbl hbA hS.2.2 (hi 2 (by decide) (by decide)) dL_law_1067 ?_
  refine lv_aload_n hx hb dL_law_1068 rfl (lv_at hl 0 rfl) ?_
  refine lv_iload hx hb dL_law_1069 (lv_at hl 4 rfl) ?_
  refine lv_iconst (v := 3) hx hb dL_law_1071 (by decide) ?_
  refine lv_iadd hx hb dL_law_1072 ?_
  refine va_sld hx hb hX hbl hbA hS.2.2 (hi 3 (by decide) (by decide)) dL_law_1073 ?_
  refine lv_aload_n hx hb dL_law_1074 rfl (lv_at hl 0 rfl) ?_
  refine lv_iload hx hb dL_law_1075 (lv_at hl 4 rfl) ?_
  refine lv_iconst (v := 4) hx hb dL_law_1077 (by decide) ?_
  refine lv_iadd hx hb dL_law_1078 ?_
  refine va_sld hx hb hX hbl hbA hS.2.2 (hi 4 (by decide) (by decide)) dL_law_1079 ?_
  refine lv_i2l (v := ((xs (i + 4).toNatClampNeg)).toInt64) hx hb dL_law_1080 rfl ?_
  refine lv_bipush (v := 32) hx hb dL_law_1081 (by decide) ?_
  refine lv_lshl (v := (((xs (i + 4).toNatClampNeg)).toInt64) <<< ((32 : Int32).toInt64 &&& 63)) hx hb dL_law_1083 rfl ?_
  refine lv_aload_n hx hb dL_law_1084 rfl (lv_at hl 0 rfl) ?_
  refine lv_iload hx hb dL_law_1085 (lv_at hl 4 rfl) ?_
  refine lv_iconst (v := 5) hx hb dL_law_1087 (by decide) ?_
  refine lv_iadd hx hb dL_law_1088 ?_
  refine va_sld hx hb hX hbl hbA hS.2.2 (hi 5 (by decide) (by decide)) dL_law_1089 ?_
  refine lv_i2l (v := ((xs (i + 5).toNatClampNeg)).toInt64) hx hb dL_law_1090 rfl ?_
  refine lv_ldc2 (v := 4294967295) hx hb hown (hG _ gw_2764) dL_law_1091 ?_
  refine lv_land hx hb dL_law_1094 ?_
  refine lv_lor hx hb dL_law_1095 ?_
  refine lv_aload_n hx hb dL_law_1096 rfl (lv_at hl 0 rfl) ?_
  refine lv_iload hx hb dL_law_1097 (lv_at hl 4 rfl) ?_
  refine lv_bipush (v := 6) hx hb dL_law_1099 (by decide) ?_
  refine lv_iadd hx hb dL_law_1101 ?_
  refine va_sld hx hb hX hbl hbA hS.2.2 (hi 6 (by decide) (by decide)) dL_law_1102 ?_
  refine lv_i2l (v := ((xs (i + 6).toNatClampNeg)).toInt64) hx hb dL_law_1103 rfl ?_
  refine lv_bipush (v := 32) hx hb dL_law_1104 (by decide) ?_
  refine lv_lshl (v := (((xs (i + 6).toNatClampNeg)).toInt64) <<< ((32 : Int32).toInt64 &&& 63)) hx hb dL_law_1106 rfl ?_
  refine lv_aload_n hx hb dL_law_1107 rfl (lv_at hl 0 rfl) ?_
  refine lv_iload hx hb dL_law_1108 (lv_at hl 4 rfl) ?_
  refine lv_bipush (v := 7) hx hb dL_law_1110 (by decide) ?_
  refine lv_iadd hx hb dL_law_1112 ?_
  refine va_sld hx hb hX hbl hbA hS.2.2 (hi 7 (by decide) (by decide)) dL_law_1113 ?_
  refine lv_i2l (v := ((xs (i + 7).toNatClampNeg)).toInt64) hx hb dL_law_1114 rfl ?_
  refine lv_ldc2 (v := 4294967295) hx hb hown (hG _ gw_2764) dL_law_1115 ?_
  refine lv_land hx hb dL_law_1118 ?_
  refine lv_lor hx hb dL_law_1119 ?_
  refine lv_aload_n hx hb dL_law_1120 rfl (lv_at hl 3 rfl) ?_
  obtain ⟨y9, w9, hF9, hU9⟩ := v_X11_work (N := N) (l1 := (xs (i + 1).toNatClampNeg)) (l2 := (xs (i + 2).toNatClampNeg)) (l3 := (xs (i + 3).toNatClampNeg)) (l4 := (((((xs (i + 4).toNatClampNeg)).toInt64) <<< ((32 : Int32).toInt64 &&& 63)) ||| ((((xs (i + 5).toNatClampNeg)).toInt64) &&& 4294967295))) (l6 := (((((xs (i + 6).toNatClampNeg)).toInt64) <<< ((32 : Int32).toInt64 &&& 63)) ||| ((((xs (i + 7).toNatClampNeg)).toInt64) &&& 4294967295))) (Nat.le_trans (by decide) hN) hU
  refine lcH (n := 7) (w := w9) hC hS (h_work l hC.1 D kA V Zc N ((xs (i + 1).toNatClampNeg)) ((xs (i + 2).toNatClampNeg)) ((xs (i + 3).toNatClampNeg)) ((((((xs (i + 4).toNatClampNeg)).toInt64) <<< ((32 : Int32).toInt64 &&& 63)) ||| ((((xs (i + 5).toNatClampNeg)).toInt64) &&& 4294967295))) ((((((xs (i + 6).toNatClampNeg)).toInt64) <<< ((32 : Int32).toInt64 &&& 63)) ||| ((((xs (i + 7).toNatClampNeg)).toInt64) &&& 4294967295))) o f v H.size hF9 (vs_in hU9)) (gw_SW gw_1843 gw_1844 gw_0 gw_1845) (by decide +kernel) (Nat.le_of_ble_eq_true rfl) (Nat.le_of_ble_eq_true rfl) rfl hl.1 (Nat.le_of_ble_eq_true rfl) rfl dL_law_1121 (by omega) (by omega) (fun r9 g9 H locs hQ9 hS => ?_)
  have hU : UC w9 := hU9.1
  refine lv_istore (lv' := [(5, .int r9), (0, .ref b), (1, .ref (Zc 200)), (2, .ref (Zr 200)), (3, .ref o), (4, .int i)]) hx hb dL_law_1124 hl (by decide) rfl (fun ls hl => ?_)
  refine lv_aload_n hx hb dL_law_1126 rfl (lv_at hl 3 rfl) ?_
  refine lv_aload_n hx hb dL_law_1127 rfl (lv_at hl 1 rfl) ?_
  refine lv_iload hx hb dL_law_1128 (lv_at hl 5 rfl) ?_
  refine lv_iconst (v := 1) hx hb dL_law_1130 (by decide) ?_
  refine lv_iadd hx hb dL_law_1131 ?_
  refine va_sld hx hb hX hbl hbA hS.2.2 (hi 1 (by decide) (by decide)) dL_law_1132 ?_
  refine lv_aload_n hx hb dL_law_1133 rfl (lv_at hl 1 rfl) ?_
  refine lv_iload hx hb dL_law_1134 (lv_at hl 5 rfl) ?_
  refine lv_iconst (v := 2) hx hb dL_law_1136 (by decide) ?_
  refine lv_iadd hx hb dL_law_1137 ?_
  refine va_sld hx hb hX hbl hbA hS.2.2 (hi 2 (by decide) (by decide)) dL_law_1138 ?_
  refine lv_aload_n hx hb dL_law_1139 rfl (lv_at hl 1 rfl) ?_
  refine lv_iload hx hb dL_law_1140 (lv_at hl 5 rfl) ?_
  refine lv_iconst (v := 3) hx hb dL_law_1142 (by decide) ?_
  refine lv_iadd hx hb dL_law_1143 ?_
  refine va_sld hx hb hX hbl hbA hS.2.2 (hi 3 (by decide) (by decide)) dL_law_1144 ?_
  refine lv_aload_n hx hb dL_law_1145 rfl (lv_at hl 1 rfl) ?_
  refine lv_iload hx hb dL_law_1146 (lv_at hl 5 rfl) ?_
  refine lv_iconst (v := 4) hx hb dL_law_1148 (by decide) ?_
  refine lv_iadd hx hb dL_law_1149 ?_
  refine va_sld hx hb hX hbl hbA hS.2.2 (hi 4 (by decide) (by decide)) dL_law_1150 ?_
  refine lv_i2l (v := ((xs (i + 4).toNatClampNeg)).toInt64) hx hb dL_law_1151 rfl ?_
  refine lv_bipush (v := 32) hx hb dL_law_1152 (by decide) ?_
  refine lv_lshl (v := (((xs (i + 4).toNatClampNeg)).toInt64) <<< ((32 : Int32).toInt64 &&& 63)) hx hb dL_law_1154 rfl ?_
  refine lv_aload_n hx hb dL_law_1155 rfl (lv_at hl 1 rfl) ?_
  refine lv_iload hx hb dL_law_1156 (lv_at hl 5 rfl) ?_
  refine lv_iconst (v := 5) hx hb dL_law_1158 (by decide) ?_
  refine lv_iadd hx hb dL_law_1159 ?_
  refine va_sld hx hb hX hbl hbA hS.2.2 (hi 5 (by decide) (by decide)) dL_law_1160 ?_
  refine lv_i2l (v := ((xs (i + 5).toNatClampNeg)).toInt64) hx hb dL_law_1161 rfl ?_
  refine lv_ldc2 (v := 4294967295) hx hb hown (hG _ gw_2764) dL_law_1162 ?_
  refine lv_land hx hb dL_law_1165 ?_
  refine lv_lor hx hb dL_law_1166 ?_
  refine lv_aload_n hx hb dL_law_1167 rfl (lv_at hl 1 rfl) ?_
  refine lv_iload hx hb dL_law_1168 (lv_at hl 5 rfl) ?_
  refine lv_bipush (v := 6) hx hb dL_law_1170 (by decide) ?_
  refine lv_iadd hx hb dL_law_1172 ?_
  refine va_sld hx hb hX hbl hbA hS.2.2 (hi 6 (by decide) (by decide)) dL_law_1173 ?_
  refine lv_i2l (v := ((xs (i + 6).toNatClampNeg)).toInt64) hx hb dL_law_1174 rfl ?_
  refine lv_bipush (v := 32) hx hb dL_law_1175 (by decide) ?_
  refine lv_lshl (v := (((xs (i + 6).toNatClampNeg)).toInt64) <<< ((32 : Int32).toInt64 &&& 63)) hx hb dL_law_1177 rfl ?_
  refine lv_aload_n hx hb dL_law_1178 rfl (lv_at hl 1 rfl) ?_
  refine lv_iload hx hb dL_law_1179 (lv_at hl 5 rfl) ?_
  refine lv_bipush (v := 7) hx hb dL_law_1181 (by decide) ?_
  refine lv_iadd hx hb dL_law_1183 ?_
  refine va_sld hx hb hX hbl hbA hS.2.2 (hi 7 (by decide) (by decide)) dL_law_1184 ?_
  refine lv_i2l (v := ((xs (i + 7).toNatClampNeg)).toInt64) hx hb dL_law_1185 rfl ?_
  refine lv_ldc2 (v := 4294967295) hx hb hown (hG _ gw_2764) dL_law_1186 ?_
  refine lv_land hx hb dL_law_1189 ?_
  refine lv_lor hx hb dL_law_1190 ?_
  obtain ⟨r8, u8, hF8, hB8⟩ : wp (F_work N ((xs (i + 1).toNatClampNeg)) ((xs (i + 2).toNatClampNeg)) ((xs (i + 3).toNatClampNeg)) ((((((xs (i + 4).toNatClampNeg)).toInt64) <<< ((32 : Int32).toInt64 &&& 63)) ||| ((((xs (i + 5).toNatClampNeg)).toInt64) &&& 4294967295))) ((((((xs (i + 6).toNatClampNeg)).toInt64) <<< ((32 : Int32).toInt64 &&& 63)) ||| ((((xs (i + 7).toNatClampNeg)).toInt64) &&& 4294967295))) u) (fun _ w => UB w) := x_work hB
  refine lcR_l (n := 5) (x := u8) hC hS (k_work l D kA V Zr N ((xs (i + 1).toNatClampNeg)) ((xs (i + 2).toNatClampNeg)) ((xs (i + 3).toNatClampNeg)) ((((((xs (i + 4).toNatClampNeg)).toInt64) <<< ((32 : Int32).toInt64 &&& 63)) ||| ((((xs (i + 5).toNatClampNeg)).toInt64) &&& 4294967295))) ((((((xs (i + 6).toNatClampNeg)).toInt64) <<< ((32 : Int32).toInt64 &&& 63)) ||| ((((xs (i + 7).toNatClampNeg)).toInt64) &&& 4294967295))) u H.size hF8) (gw_V gw_2756 gw_2757 gw_2758 gw_16 gw_2759) (by decide +kernel) (Nat.le_of_ble_eq_true rfl) (Nat.le_of_ble_eq_true rfl) rfl hl.1 (Nat.le_of_ble_eq_true rfl) rfl dL_law_1191 (by omega) (by omega) (fun H locs hS => ?_)
  have hB : UB u8 := hB8
  refine lv_lstore (lv' := [(6, .long r8), (5, .int r9), (0, .ref b), (1, .ref (Zc 200)), (2, .ref (Zr 200)), (3, .ref o), (4, .int i)]) hx hb dL_law_1194 hl (by decide) rfl (fun ls hl => ?_)
  refine lv_goto (tgt := 1370) hx hb dL_law_1196 (by decide) ?_
  exact W.widen (by omega) (by omega) (kk _ _ _ _ _ _ hU hB hS (lv_sub hl [2, 3, 4, 5, 6] rfl))
set_option maxHeartbeats 4000000 in
set_option maxRecDepth 100000 in
theorem lk_23 {p : Program} {l : Launch} {e : Env} {s : State} {m : MethodId} {below : List Frame} {meth : Method} {c : Code} {b L : Nat} {xs : Nat → Int32} {D : va_G} {kA : Nat → ClassId} {V Zc Zr : Nat → Nat} {A : Nat → Prop} {o N : Nat} {v : CSt} {u : RSt} {f : Nat → Int64} {H : Heap} {locs : List Loc} {ls : Array Slot} {cs ss : Nat} (hC : lw_C p l s m meth c b L xs D kA V A) {i : Int32} (hi : ∀ j : Int32, 0 ≤ j → j ≤ 7 → vp_in (i + j) L) (hN : 100000000000000 ≤ N) (hU : UC v) (hB : UB u) (hS : LSw D kA Zc Zr o A s v u f H locs) (hl : lv_has ls 8 [(0, .ref b), (1, .ref (Zc 200)), (2, .ref (Zr 200)), (3, .ref o), (4, .int i)]) (hcs : cs + 1 ≤ room_1.cells) (hss : ss + 6 ≤ room_1.slots) (kk : ∀ (v : CSt) (u : RSt) (f : Nat → Int64) (H : Heap) (locs : List Loc) (ls : Array Slot), UC v → UB u → LSw D kA Zc Zr o A s v u f H locs → lv_has ls 8 [(0, .ref b), (1, .ref (Zc 200)), (2, .ref (Zr 200)), (3, .ref o), (4, .int i)] → W p l e room_1 s m #[Value.ref b] below meth c H locs (cs + 1) (ss + 6) (lw_Z below #[Value.ref b] s) (F0 m 1370 ls [])) : W p l e room_1 s m #[Value.ref b] below meth c H locs cs ss (lw_Z below #[Value.ref b] s) (F0 m 1199 ls []) := by
  have ⟨hst, hx, hb, hr, hml, hown, hts, hG, hX, hbl, hbA, hlocks, hE, hK, hA, hA2, hL9⟩ := hC
  refine lv_aload_n hx hb dL_law_1199 rfl (lv_at hl 1 rfl) ?_
  refine lv_aload_n hx hb dL_law_1200 rfl (lv_at hl 0 rfl) ?_
  refine lv_iload hx hb dL_law_1201 (lv_at hl 4 rfl) ?_
  refine lv_iconst (v := 1) hx hb dL_law_1203 (by decide) ?_
  refine lv_iadd hx hb dL_law_1204 ?_
  refine va_sld hx hb hX hbl hbA hS.2.2 (hi 1 (by decide) (by decide)) dL_law_1205 ?_
  refine lv_aload_n hx hb dL_law_1206 rfl (lv_at hl 0 rfl) ?_
  refine lv_iload hx hb dL_law_1207 (lv_at hl 4 rfl) ?_
  refine lv_iconst (v := 2) hx hb dL_law_1209 (by decide) ?_
  refine lv_iadd hx hb dL_law_1210 ?_
  refine va_sld hx hb hX hbl hbA hS.2.2 (hi 2 (by decide) (by decide)) dL_law_1211 ?_
  refine lv_aload_n hx hb dL_law_1212 rfl (lv_at hl 0 rfl) ?_
  refine lv_iload hx hb dL_law_1213 (lv_at hl 4 rfl) ?_
  refine lv_iconst (v := 3) hx hb dL_law_1215 (by decide) ?_
  refine lv_iadd hx hb dL_law_1216 ?_
  refine va_sld hx hb hX hbl hbA hS.2.2 (hi 3 (by decide) (by decide)) dL_law_1217 ?_
  refine lv_aload_n hx hb dL_law_1218 rfl (lv_at hl 0 rfl) ?_
  refine lv_iload hx hb dL_law_1219 (lv_at hl 4 rfl) ?_
  refine lv_iconst (v := 4) hx hb dL_law_1221 (by decide) ?_
  refine lv_iadd hx hb dL_law_1222 ?_
  refine va_sld hx hb hX hbl hbA hS.2.2 (hi 4 (by decide) (by decide)) dL_law_1223 ?_
  refine lv_i2l (v := ((xs (i + 4).toNatClampNeg)).toInt64) hx hb dL_law_1224 rfl ?_
  refine lv_bipush (v := 32) hx hb dL_law_1225 (by decide) ?_
  refine lv_lshl (v := (((xs (i + 4).toNatClampNeg)).toInt64) <<< ((32 : Int32).toInt64 &&& 63)) hx hb dL_law_1227 rfl ?_
  refine lv_aload_n hx hb dL_law_1228 rfl (lv_at hl 0 rfl) ?_
  refine lv_iload hx hb dL_law_1229 (lv_at hl 4 rfl) ?_
  refine lv_iconst (v := 5) hx hb dL_law_1231 (by decide) ?_
  refine lv_iadd hx hb dL_law_1232 ?_
  refine va_sld hx hb hX hbl hbA hS.2.2 (hi 5 (by decide) (by decide)) dL_law_1233 ?_
  refine lv_i2l (v := ((xs (i + 5).toNatClampNeg)).toInt64) hx hb dL_law_1234 rfl ?_
  refine lv_ldc2 (v := 4294967295) hx hb hown (hG _ gw_2764) dL_law_1235 ?_
  refine lv_land hx hb dL_law_1238 ?_
  refine lv_lor hx hb dL_law_1239 ?_
  refine lv_aload_n hx hb dL_law_1240 rfl (lv_at hl 0 rfl) ?_
  refine lv_iload hx hb dL_law_1241 (lv_at hl 4 rfl) ?_
  refine lv_bipush (v := 6) hx hb dL_law_1243 (by decide) ?_
  refine lv_iadd hx hb dL_law_1245 ?_
  refine va_sld hx hb hX hbl hbA hS.2.2 (hi 6 (by decide) (by decide)) dL_law_1246 ?_
  refine lv_i2l (v := ((xs (i + 6).toNatClampNeg)).toInt64) hx hb dL_law_1247 rfl ?_
  refine lv_bipush (v := 32) hx hb dL_law_1248 (by decide) ?_
  refine lv_lshl (v := (((xs (i + 6).toNatClampNeg)).toInt64) <<< ((32 : Int32).toInt64 &&& 63)) hx hb dL_law_1250 rfl ?_
  refine lv_aload_n hx hb dL_law_1251 rfl (lv_at hl 0 rfl) ?_
  refine lv_iload hx hb dL_law_1252 (lv_at hl 4 rfl) ?_
  refine lv_bipush (v := 7) hx hb dL_law_1254 (by decide) ?_
  refine lv_iadd hx hb dL_law_1256 ?_
  refine va_sld hx hb hX hbl hbA hS.2.2 (hi 7 (by decide) (by decide)) dL_law_1257 ?_
  refine lv_i2l (v := ((xs (i + 7).toNatClampNeg)).toInt64) hx hb dL_law_1258 rfl ?_
  refine lv_ldc2 (v := 4294967295) hx hb hown (hG _ gw_2764) dL_law_1259 ?_
  refine lv_land hx hb dL_law_1262 ?_
  refine lv_lor hx hb dL_law_1263 ?_
  refine lv_aload_n hx hb dL_law_1264 rfl (lv_at hl 3 rfl) ?_
  obtain ⟨y9, w9, hF9, hU9⟩ := v_X11_tell (N := N) (l1 := (xs (i + 1).toNatClampNeg)) (l2 := (xs (i + 2).toNatClampNeg)) (l3 := (xs (i + 3).toNatClampNeg)) (l4 := (((((xs (i + 4).toNatClampNeg)).toInt64) <<< ((32 : Int32).toInt64 &&& 63)) ||| ((((xs (i + 5).toNatClampNeg)).toInt64) &&& 4294967295))) (l6 := (((((xs (i + 6).toNatClampNeg)).toInt64) <<< ((32 : Int32).toInt64 &&& 63)) ||| ((((xs (i + 7).toNatClampNeg)).toInt64) &&& 4294967295))) (Nat.le_trans (by decide) hN) hU
  refine lcH (n := 7) (w := w9) hC hS (h_tell l hC.1 D kA V Zc N ((xs (i + 1).toNatClampNeg)) ((xs (i + 2).toNatClampNeg)) ((xs (i + 3).toNatClampNeg)) ((((((xs (i + 4).toNatClampNeg)).toInt64) <<< ((32 : Int32).toInt64 &&& 63)) ||| ((((xs (i + 5).toNatClampNeg)).toInt64) &&& 4294967295))) ((((((xs (i + 6).toNatClampNeg)).toInt64) <<< ((32 : Int32).toInt64 &&& 63)) ||| ((((xs (i + 7).toNatClampNeg)).toInt64) &&& 4294967295))) o f v H.size hF9 (vs_in hU9)) (gw_SW gw_1871 gw_1872 gw_0 gw_1873) (by decide +kernel) (Nat.le_of_ble_eq_true rfl) (Nat.le_of_ble_eq_true rfl) rfl hl.1 (Nat.le_of_ble_eq_true rfl) rfl dL_law_1265 (by omega) (by omega) (fun r9 g9 H locs hQ9 hS => ?_)
  have hU : UC w9 := hU9.1
  refine lv_istore (lv' := [(5, .int r9), (0, .ref b), (1, .ref (Zc 200)), (2, .ref (Zr 200)), (3, .ref o), (4, .int i)]) hx hb dL_law_1268 hl (by decide) rfl (fun ls hl => ?_)
  refine lv_aload_n hx hb dL_law_1270 rfl (lv_at hl 3 rfl) ?_
  refine lv_aload_n hx hb dL_law_1271 rfl (lv_at hl 1 rfl) ?_
  refine lv_iload hx hb dL_law_1272 (lv_at hl 5 rfl) ?_
  refine lv_iconst (v := 1) hx hb dL_law_1274 (by decide) ?_
  refine lv_iadd hx hb dL_law_1275 ?_
  refine va_sld hx hb hX hbl hbA hS.2.2 (hi 1 (by decide) (by decide)) dL_law_1276 ?_
  refine lv_aload_n hx hb dL_law_1277 rfl (lv_at hl 1 rfl) ?_
  refine lv_iload hx hb dL_law_1278 (lv_at hl 5 rfl) ?_
  refine lv_iconst (v := 2) hx hb dL_law_1280 (by decide) ?_
  refine lv_iadd hx hb dL_law_1281 ?_
  refine va_sld hx hb hX hbl hbA hS.2.2 (hi 2 (by decide) (by decide)) dL_law_1282 ?_
  refine lv_aload_n hx hb dL_law_1283 rfl (lv_at hl 1 rfl) ?_
  refine lv_iload hx hb dL_law_1284 (lv_at hl 5 rfl) ?_
  refine lv_iconst (v := 3) hx hb dL_law_1286 (by decide) ?_
  refine lv_iadd hx hb dL_law_1287 ?_
  refine va_sld hx hb hX hbl hbA hS.2.2 (hi 3 (by decide) (by decide)) dL_law_1288 ?_
  refine lv_aload_n hx hb dL_law_1289 rfl (lv_at hl 1 rfl) ?_
  refine lv_iload hx hb dL_law_1290 (lv_at hl 5 rfl) ?_
  refine lv_iconst (v := 4) hx hb dL_law_1292 (by decide) ?_
  refine lv_iadd hx hb dL_law_1293 ?_
  refine va_sld hx hb hX hbl hbA hS.2.2 (hi 4 (by decide) (by decide)) dL_law_1294 ?_
  refine lv_i2l (v := ((xs (i + 4).toNatClampNeg)).toInt64) hx hb dL_law_1295 rfl ?_
  refine lv_bipush (v := 32) hx hb dL_law_1296 (by decide) ?_
  refine lv_lshl (v := (((xs (i + 4).toNatClampNeg)).toInt64) <<< ((32 : Int32).toInt64 &&& 63)) hx hb dL_law_1298 rfl ?_
  refine lv_aload_n hx hb dL_law_1299 rfl (lv_at hl 1 rfl) ?_
  refine lv_iload hx hb dL_law_1300 (lv_at hl 5 rfl) ?_
  refine lv_iconst (v := 5) hx hb dL_law_1302 (by decide) ?_
  refine lv_iadd hx hb dL_law_1303 ?_
  refine va_sld hx hb hX hbl hbA hS.2.2 (hi 5 (by decide) (by decide)) dL_law_1304 ?_
  refine lv_i2l (v := ((xs (i + 5).toNatClampNeg)).toInt64) hx hb dL_law_1305 rfl ?_
  refine lv_ldc2 (v := 4294967295) hx hb hown (hG _ gw_2764) dL_law_1306 ?_
  refine lv_land hx hb dL_law_1309 ?_
  refine lv_lor hx hb dL_law_1310 ?_
  refine lv_aload_n hx hb dL_law_1311 rfl (lv_at hl 1 rfl) ?_
  refine lv_iload hx hb dL_law_1312 (lv_at hl 5 rfl) ?_
  refine lv_bipush (v := 6) hx hb dL_law_1314 (by decide) ?_
  refine lv_iadd hx hb dL_law_1316 ?_
  refine va_sld hx hb hX hbl hbA hS.2.2 (hi 6 (by decide) (by decide)) dL_law_1317 ?_
  refine lv_i2l (v := ((xs (i + 6).toNatClampNeg)).toInt64) hx hb dL_law_1318 rfl ?_
  refine lv_bipush (v := 32) hx hb dL_law_1319 (by decide) ?_
  refine lv_lshl (v := (((xs (i + 6).toNatClampNeg)).toInt64) <<< ((32 : Int32).toInt64 &&& 63)) hx hb dL_law_1321 rfl ?_
  refine lv_aload_n hx hb dL_law_1322 rfl (lv_at hl 1 rfl) ?_
  refine lv_iload hx hb dL_law_1323 (lv_at hl 5 rfl) ?_
  refine lv_bipush (v := 7) hx hb dL_law_1325 (by decide) ?_
  refine lv_iadd hx hb dL_law_1327 ?_
  refine va_sld hx hb hX hbl hbA hS.2.2 (hi 7 (by decide) (by decide)) dL_law_1328 ?_
  refine lv_i2l (v := ((xs (i + 7).toNatClampNeg)).toInt64) hx hb dL_law_1329 rfl ?_
  refine lv_ldc2 (v := 4294967295) hx hb hown (hG _ gw_2764) dL_law_1330 ?_
  refine lv_land hx hb dL_law_1333 ?_
  refine lv_lor hx hb dL_law_1334 ?_
  obtain ⟨r8, u8, hF8, hB8⟩ : wp (F_tell N ((xs (i + 1).toNatClampNeg)) ((xs (i + 2).toNatClampNeg)) ((xs (i + 3).toNatClampNeg)) ((((((xs (i + 4).toNatClampNeg)).toInt64) <<< ((32 : Int32).toInt64 &&& 63)) ||| ((((xs (i + 5).toNatClampNeg)).toInt64) &&& 4294967295))) ((((((xs (i + 6).toNatClampNeg)).toInt64) <<< ((32 : Int32).toInt64 &&& 63)) ||| ((((xs (i + 7).toNatClampNeg)).toInt64) &&& 4294967295))) u) (fun _ w => UB w) := x_tell hB
  refine lcR_l (n := 5) (x := u8) hC hS (k_tell l D kA V Zr N ((xs (i + 1).toNatClampNeg)) ((xs (i + 2).toNatClampNeg)) ((xs (i + 3).toNatClampNeg)) ((((((xs (i + 4).toNatClampNeg)).toInt64) <<< ((32 : Int32).toInt64 &&& 63)) ||| ((((xs (i + 5).toNatClampNeg)).toInt64) &&& 4294967295))) ((((((xs (i + 6).toNatClampNeg)).toInt64) <<< ((32 : Int32).toInt64 &&& 63)) ||| ((((xs (i + 7).toNatClampNeg)).toInt64) &&& 4294967295))) u H.size hF8) (gw_V gw_2760 gw_2761 gw_2762 gw_16 gw_2763) (by decide +kernel) (Nat.le_of_ble_eq_true rfl) (Nat.le_of_ble_eq_true rfl) rfl hl.1 (Nat.le_of_ble_eq_true rfl) rfl dL_law_1335 (by omega) (by omega) (fun H locs hS => ?_)
  have hB : UB u8 := hB8
  refine lv_lstore (lv' := [(6, .long r8), (5, .int r9), (0, .ref b), (1, .ref (Zc 200)), (2, .ref (Zr 200)), (3, .ref o), (4, .int i)]) hx hb dL_law_1338 hl (by decide) rfl (fun ls hl => ?_)
  refine lv_aload_n hx hb dL_law_1340 rfl (lv_at hl 4 rfl) ?_
  have e9 : u8.1 9 = r9 ∧ (r9 = 0 → g9 (0 : Int32).toNatClampNeg = r8) := by
    rcases tell_same hF8 hF9 with ⟨rfl, h9⟩ | ⟨rfl, h9⟩
    · have q9 : r9 = 1 ∧ g9 = f := hQ9
      exact ⟨h9.trans q9.1.symm, fun h => absurd (q9.1.symm.trans h) (by decide)⟩
    · have q9 : r9 = 0 ∧ g9 = vp_updL f 0 r8 := hQ9
      exact ⟨h9.trans q9.1.symm, fun _ => by rw [q9.2]; rfl⟩
  refine lcR_i (n := 0) (x := u8) (r := u8.1 9) hC hS (k_thrown l D kA V Zr N u8 H.size rfl) (gw_V gw_1879 gw_1880 gw_1881 gw_16 gw_1882) (by decide +kernel) (Nat.le_of_ble_eq_true rfl) (Nat.le_of_ble_eq_true rfl) rfl hl.1 (Nat.le_of_ble_eq_true rfl) rfl dL_law_1341 (by omega) (by omega) (fun H locs hS => ?_)
  refine lv_iload hx hb dL_law_1344 (lv_at hl 1 rfl) ?_
  refine lv_icmp_eq (tgt := 1351) hx hb dL_law_1346 (by decide) (fun _ => ?_) (fun c9 => absurd e9.1 c9)
  refine lv_iload hx hb dL_law_1351 (lv_at hl 1 rfl) ?_
  refine lv_if_ne (tgt := 1367) hx hb dL_law_1353 (by decide) (fun c9 => ?_) (fun c9 => ?_)
  · skip
    refine lv_goto (tgt := 1370) hx hb dL_law_1367 (by decide) ?_
    exact W.widen (by omega) (by omega) (kk _ _ _ _ _ _ hU hB hS (lv_sub hl [2, 3, 4, 5, 6] rfl))
  · skip
    refine lv_aload_n hx hb dL_law_1356 rfl (lv_at hl 5 rfl) ?_
    refine lv_iconst (v := 0) hx hb dL_law_1357 (by decide) ?_
    refine va_lald hx hb hK hS.1 0 1 rfl rfl (show vp_in 0 1 by unfold vp_in; decide) dL_law_1358 ?_
    refine lv_lload hx hb dL_law_1359 (lv_at hl 0 rfl) ?_
    refine W.lcmp hx hb dL_law_1361 ?_
    refine lv_if_eq (tgt := 1367) hx hb dL_law_1362 (by decide) (fun _ => ?_) (fun c8 => absurd ((lg_cmp_eq _ _).mpr (e9.2 c9)) c8)
    refine lv_goto (tgt := 1370) hx hb dL_law_1367 (by decide) ?_
    exact W.widen (by omega) (by omega) (kk _ _ _ _ _ _ hU hB hS (lv_sub hl [2, 3, 4, 5, 6] rfl))
