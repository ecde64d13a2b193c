/-! cases of the law -/
set_option maxHeartbeats 4000000 in
set_option maxRecDepth 100000 in
theorem lk_18 {p : Program} {l : Launch} {e : Env} {s : State} {m : MethodId} {below : List Frame} {meth : Method} {c : Code} {b L : Nat} {xs : Nat → Int32} {D : va_G} {kA : Nat → ClassId} {V Zc Zr : Nat → Nat} {A : Nat → Prop} {o N : Nat} {v : CSt} {u : RSt} {f : Nat → Int64} {H : Heap} {locs : List Loc} {ls : Array Slot} {cs ss : Nat} {n : Nat} (hC : lw_C p l s m meth c b L xs D kA V A) {i : Int32} (hi : ∀ j : Int32, 0 ≤ j → j ≤ 7 → vp_in (i + j) L) (hN : 100000000000000 ≤ N) (hn5 : n < 512) (hU : UC v) (hB : UB u) (hT : J10 N n v u) (hS : LSw D kA Zc Zr o A s v u f H locs) (hl : lv_has ls 8 [(0, .ref b), (1, .ref (Zc 200)), (2, .ref (Zr 200)), (3, .ref o), (4, .int i)]) (hcs : cs + 1 ≤ room_1.cells) (hss : ss + 6 ≤ room_1.slots) (kk : ∀ (v : CSt) (u : RSt) (f : Nat → Int64) (H : Heap) (locs : List Loc) (ls : Array Slot), UC v → UB u → J10 N (n + 1) v u → LSw D kA Zc Zr o A s v u f H locs → lv_has ls 8 [(0, .ref b), (1, .ref (Zc 200)), (2, .ref (Zr 200)), (3, .ref o), (4, .int i)] → W p l e room_1 s m #[Value.ref b] below meth c H locs (cs + 1) (ss + 6) (lw_Z below #[Value.ref b] s) (F0 m 1370 ls [])) : W p l e room_1 s m #[Value.ref b] below meth c H locs cs ss (lw_Z below #[Value.ref b] s) (F0 m 929 ls []) := by
  have ⟨hst, hx, hb, hr, hml, hown, hts, hG, hX, hbl, hbA, hlocks, hE, hK, hA, hA2, hL9⟩ := hC
  refine lv_aload_n hx hb dL_law_929 rfl (lv_at hl 1 rfl) ?_
  refine lv_aload_n hx hb dL_law_930 rfl (lv_at hl 0 rfl) ?_
  refine lv_iload hx hb dL_law_931 (lv_at hl 4 rfl) ?_
  refine lv_iconst (v := 1) hx hb dL_law_933 (by decide) ?_
  refine lv_iadd hx hb dL_law_934 ?_
  refine va_sld hx hb hX hbl hbA hS.2.2 (hi 1 (by decide) (by decide)) dL_law_935 ?_
  refine lv_aload_n hx hb dL_law_936 rfl (lv_at hl 0 rfl) ?_
  refine lv_iload hx hb dL_law_937 (lv_at hl 4 rfl) ?_
  refine lv_iconst (v := 2) hx hb dL_law_939 (by decide) ?_
  refine lv_iadd hx hb dL_law_940 ?_
  refine va_sld hx hb hX hbl hbA hS.2.2 (hi 2 (by decide) (by decide)) dL_law_941 ?_
  refine lv_aload_n hx hb dL_law_942 rfl (lv_at hl 3 rfl) ?_
  obtain ⟨y9, w9, hF9, hU9⟩ := v_X11_event (N := N) (l1 := (xs (i + 1).toNatClampNeg)) (l2 := (xs (i + 2).toNatClampNeg)) (Nat.le_trans (by decide) hN) hU
  refine lcH (n := 4) (w := w9) hC hS (h_event l hC.1 D kA V Zc N ((xs (i + 1).toNatClampNeg)) ((xs (i + 2).toNatClampNeg)) o f v H.size hF9 (vs_in hU9)) (gw_SW gw_1805 gw_1806 gw_0 gw_1807) (by decide +kernel) (Nat.le_of_ble_eq_true rfl) (Nat.le_of_ble_eq_true rfl) rfl hl.1 (Nat.le_of_ble_eq_true rfl) rfl dL_law_943 (by omega) (by omega) (fun r9 g9 H locs hQ9 hS => ?_)
  have hU : UC w9 := hU9.1
  refine lv_istore (lv' := [(5, .int r9), (0, .ref b), (1, .ref (Zc 200)), (2, .ref (Zr 200)), (3, .ref o), (4, .int i)]) hx hb dL_law_946 hl (by decide) rfl (fun ls hl => ?_)
  refine lv_aload_n hx hb dL_law_948 rfl (lv_at hl 3 rfl) ?_
  refine lv_aload_n hx hb dL_law_949 rfl (lv_at hl 1 rfl) ?_
  refine lv_iload hx hb dL_law_950 (lv_at hl 5 rfl) ?_
  refine lv_iconst (v := 1) hx hb dL_law_952 (by decide) ?_
  refine lv_iadd hx hb dL_law_953 ?_
  refine va_sld hx hb hX hbl hbA hS.2.2 (hi 1 (by decide) (by decide)) dL_law_954 ?_
  refine lv_aload_n hx hb dL_law_955 rfl (lv_at hl 1 rfl) ?_
  refine lv_iload hx hb dL_law_956 (lv_at hl 5 rfl) ?_
  refine lv_iconst (v := 2) hx hb dL_law_958 (by decide) ?_
  refine lv_iadd hx hb dL_law_959 ?_
  refine va_sld hx hb hX hbl hbA hS.2.2 (hi 2 (by decide) (by decide)) dL_law_960 ?_
  obtain ⟨r8, u8, hF8, hB8⟩ : wp (F_event N ((xs (i + 1).toNatClampNeg)) ((xs (i + 2).toNatClampNeg)) u) (fun _ w => UB w) := x_event hB
  refine lcR_l (n := 2) (x := u8) hC hS (k_event l D kA V Zr N ((xs (i + 1).toNatClampNeg)) ((xs (i + 2).toNatClampNeg)) u H.size hF8) (gw_V gw_2736 gw_2737 gw_2738 gw_16 gw_2739) (by decide +kernel) (Nat.le_of_ble_eq_true rfl) (Nat.le_of_ble_eq_true rfl) rfl hl.1 (Nat.le_of_ble_eq_true rfl) rfl dL_law_961 (by omega) (by omega) (fun H locs hS => ?_)
  have hB : UB u8 := hB8
  have hT7 := hT.1.1.1.jd (hT.1.1.1.1.jc (kj_F_X11_event _ _ hF9) (kr_F_event _ _ hF8)) (kt_F_X11_event _ _ hF9) (ku_F_event _ _ hF8)
  have hT8 := hT.1.1.je hT7 (kv_F_X11_event _ _ hF9) (kx_F_event _ _ hF8)
  have hT9 := J9_look hT.1 hT8 (kt_F_X11_event _ _ hF9) (e2_F_X11_event _ _ hF9) (e3_F_X11_event _ _ hF9) (ku_F_event _ _ hF8) (e4_F_event _ _ hF8) (e5_F_event _ _ hF8)
  have hT : J10 N (n + 1) _ u8 := J10_of hT9 (by omega) hT.2 (e4_F_event _ _ hF8)
  refine lv_lstore (lv' := [(6, .long r8), (5, .int r9), (0, .ref b), (1, .ref (Zc 200)), (2, .ref (Zr 200)), (3, .ref o), (4, .int i)]) hx hb dL_law_964 hl (by decide) rfl (fun ls hl => ?_)
  refine lv_goto (tgt := 1370) hx hb dL_law_966 (by decide) ?_
  exact W.widen (by omega) (by omega) (kk _ _ _ _ _ _ hU hB hT hS (lv_sub hl [2, 3, 4, 5, 6] rfl))
set_option maxHeartbeats 4000000 in
set_option maxRecDepth 100000 in
theorem lk_19 {p : Program} {l : Launch} {e : Env} {s : State} {m : MethodId} {below : List Frame} {meth : Method} {c : Code} {b L : Nat} {xs : Nat → Int32} {D : va_G} {kA : Nat → ClassId} {V Zc Zr : Nat → Nat} {A : Nat → Prop} {o N : Nat} {v : CSt} {u : RSt} {f : Nat → Int64} {H : Heap} {locs : List Loc} {ls : Array Slot} {cs ss : Nat} {n : Nat} (hC : lw_C p l s m meth c b L xs D kA V A) {i : Int32} (hi : ∀ j : Int32, 0 ≤ j → j ≤ 7 → vp_in (i + j) L) (hN : 100000000000000 ≤ N) (hn5 : n < 512) (hU : UC v) (hB : UB u) (hT : J10 N n v u) (hS : LSw D kA Zc Zr o A s v u f H locs) (hl : lv_has ls 8 [(0, .ref b), (1, .ref (Zc 200)), (2, .ref (Zr 200)), (3, .ref o), (4, .int i)]) (hcs : cs + 1 ≤ room_1.cells) (hss : ss + 6 ≤ room_1.slots) (kk : ∀ (v : CSt) (u : RSt) (f : Nat → Int64) (H : Heap) (locs : List Loc) (ls : Array Slot), UC v → UB u → J10 N (n + 1) v u → LSw D kA Zc Zr o A s v u f H locs → lv_has ls 8 [(0, .ref b), (1, .ref (Zc 200)), (2, .ref (Zr 200)), (3, .ref o), (4, .int i)] → W p l e room_1 s m #[Value.ref b] below meth c H locs (cs + 1) (ss + 6) (lw_Z below #[Value.ref b] s) (F0 m 1370 ls [])) : W p l e room_1 s m #[Value.ref b] below meth c H locs cs ss (lw_Z below #[Value.ref b] s) (F0 m 969 ls []) := by
  have ⟨hst, hx, hb, hr, hml, hown, hts, hG, hX, hbl, hbA, hlocks, hE, hK, hA, hA2, hL9⟩ := hC
  refine lv_aload_n hx hb dL_law_969 rfl (lv_at hl 1 rfl) ?_
  refine lv_aload_n hx hb dL_law_970 rfl (lv_at hl 0 rfl) ?_
  refine lv_iload hx hb dL_law_971 (lv_at hl 4 rfl) ?_
  refine lv_iconst (v := 1) hx hb dL_law_973 (by decide) ?_
  refine lv_iadd hx hb dL_law_974 ?_
  refine va_sld hx hb hX hbl hbA hS.2.2 (hi 1 (by decide) (by decide)) dL_law_975 ?_
  refine lv_aload_n hx hb dL_law_976 rfl (lv_at hl 3 rfl) ?_
  obtain ⟨y9, w9, hF9, hU9⟩ := v_X11_count (N := N) (l1 := (xs (i + 1).toNatClampNeg)) (Nat.le_trans (by decide) hN) hU
  refine lcH (n := 3) (w := w9) hC hS (h_count l hC.1 D kA V Zc N ((xs (i + 1).toNatClampNeg)) o f v H.size hF9 (vs_in hU9)) (gw_SW gw_1819 gw_1820 gw_0 gw_1821) (by decide +kernel) (Nat.le_of_ble_eq_true rfl) (Nat.le_of_ble_eq_true rfl) rfl hl.1 (Nat.le_of_ble_eq_true rfl) rfl dL_law_977 (by omega) (by omega) (fun r9 g9 H locs hQ9 hS => ?_)
  have hU : UC w9 := hU9.1
  refine lv_istore (lv' := [(5, .int r9), (0, .ref b), (1, .ref (Zc 200)), (2, .ref (Zr 200)), (3, .ref o), (4, .int i)]) hx hb dL_law_980 hl (by decide) rfl (fun ls hl => ?_)
  refine lv_aload_n hx hb dL_law_982 rfl (lv_at hl 3 rfl) ?_
  refine lv_aload_n hx hb dL_law_983 rfl (lv_at hl 1 rfl) ?_
  refine lv_iload hx hb dL_law_984 (lv_at hl 5 rfl) ?_
  refine lv_iconst (v := 1) hx hb dL_law_986 (by decide) ?_
  refine lv_iadd hx hb dL_law_987 ?_
  refine va_sld hx hb hX hbl hbA hS.2.2 (hi 1 (by decide) (by decide)) dL_law_988 ?_
  obtain ⟨r8, u8, hF8, hB8⟩ : wp (F_count N ((xs (i + 1).toNatClampNeg)) u) (fun _ w => UB w) := x_count (Nat.le_trans (by decide) hN) hB
  refine lcR_i (n := 1) (x := u8) hC hS (k_count l D kA V Zr N ((xs (i + 1).toNatClampNeg)) u H.size hF8) (gw_V gw_2740 gw_2741 gw_2742 gw_16 gw_2743) (by decide +kernel) (Nat.le_of_ble_eq_true rfl) (Nat.le_of_ble_eq_true rfl) rfl hl.1 (Nat.le_of_ble_eq_true rfl) rfl dL_law_989 (by omega) (by omega) (fun H locs hS => ?_)
  have hB : UB u8 := hB8
  have hT7 := hT.1.1.1.jd (hT.1.1.1.1.jc (kj_F_X11_count _ _ hF9) (kr_F_count _ _ hF8)) (kt_F_X11_count _ _ hF9) (ku_F_count _ _ hF8)
  have hT8 := hT.1.1.je hT7 (kv_F_X11_count _ _ hF9) (kx_F_count _ _ hF8)
  have hT9 := J9_look hT.1 hT8 (kt_F_X11_count _ _ hF9) (e2_F_X11_count _ _ hF9) (e3_F_X11_count _ _ hF9) (ku_F_count _ _ hF8) (e4_F_count _ _ hF8) (e5_F_count _ _ hF8)
  have hT : J10 N (n + 1) _ u8 := J10_of hT9 (by omega) hT.2 (e4_F_count _ _ hF8)
  refine lv_istore (lv' := [(6, .int r8), (5, .int r9), (0, .ref b), (1, .ref (Zc 200)), (2, .ref (Zr 200)), (3, .ref o), (4, .int i)]) hx hb dL_law_992 hl (by decide) rfl (fun ls hl => ?_)
  refine lv_goto (tgt := 1370) hx hb dL_law_994 (by decide) ?_
  exact W.widen (by omega) (by omega) (kk _ _ _ _ _ _ hU hB hT hS (lv_sub hl [2, 3, 4, 5, 6] rfl))
set_option maxHeartbeats 4000000 in
set_option maxRecDepth 100000 in
theorem lk_20 {p : Program} {l : Launch} {e : Env} {s : State} {m : MethodId} {below : List Frame} {meth : Method} {c : Code} {b L : Nat} {xs : Nat → Int32} {D : va_G} {kA : Nat → ClassId} {V Zc Zr : Nat → Nat} {A : Nat → Prop} {o N : Nat} {v : CSt} {u : RSt} {f : Nat → Int64} {H : Heap} {locs : List Loc} {ls : Array Slot} {cs ss : Nat} {n : Nat} (hC : lw_C p l s m meth c b L xs D kA V A) {i : Int32} (hi : ∀ j : Int32, 0 ≤ j → j ≤ 7 → vp_in (i + j) L) (hN : 100000000000000 ≤ N) (hn5 : n < 512) (hU : UC v) (hB : UB u) (hT : J10 N n v u) (hS : LSw D kA Zc Zr o A s v u f H locs) (hl : lv_has ls 8 [(0, .ref b), (1, .ref (Zc 200)), (2, .ref (Zr 200)), (3, .ref o), (4, .int i)]) (hcs : cs + 1 ≤ room_1.cells) (hss : ss + 6 ≤ room_1.slots) (kk : ∀ (v : CSt) (u : RSt) (f : Nat → Int64) (H : Heap) (locs : List Loc) (ls : Array Slot), UC v → UB u → J10 N (n + 1) v u → LSw D kA Zc Zr o A s v u f H locs → lv_has ls 8 [(0, .ref b), (1, .ref (Zc 200)), (2, .ref (Zr 200)), (3, .ref o), (4, .int i)] → W p l e room_1 s m #[Value.ref b] below meth c H locs (cs + 1) (ss + 6) (lw_Z below #[Value.ref b] s) (F0 m 1370 ls [])) : W p l e room_1 s m #[Value.ref b] below meth c H locs cs ss (lw_Z below #[Value.ref b] s) (F0 m 997 ls []) := by
  have ⟨hst, hx, hb, hr, hml, hown, hts, hG, hX, hbl, hbA, hlocks, hE, hK, hA, hA2, hL9⟩ := hC
  refine lv_aload_n hx hb dL_law_997 rfl (lv_at hl 1 rfl) ?_
  obtain ⟨r9, w9, hF9, hU9⟩ := v_X11_sum (N := N)  (Nat.le_trans (by decide) hN) hU
  refine lcC_l (n := 0) (w := w9) hC hS (k_X11_sum l D kA V Zc N  v H.size hF9) (gw_V gw_1437 gw_1438 gw_1439 gw_1 gw_1440) (by decide +kernel) (Nat.le_of_ble_eq_true rfl) (Nat.le_of_ble_eq_true rfl) rfl hl.1 (Nat.le_of_ble_eq_true rfl) rfl dL_law_998 (by omega) (by omega) (fun H locs hS => ?_)
  have hU : UC w9 := by rw [hU9.1]; exact hU
  refine lv_pop2_2 hx hb dL_law_1001 rfl ?_
  refine lv_aload_n hx hb dL_law_1002 rfl (lv_at hl 2 rfl) ?_
  obtain ⟨r8, u8, hF8, hB8⟩ : wp (F_sum N  u) (fun _ w => UB w) := x_sum (Nat.le_trans (by decide) hN) hB
  refine lcR_l (n := 0) (x := u8) hC hS (k_sum l D kA V Zr N  u H.size hF8) (gw_V gw_2744 gw_2745 gw_2746 gw_16 gw_2747) (by decide +kernel) (Nat.le_of_ble_eq_true rfl) (Nat.le_of_ble_eq_true rfl) rfl hl.1 (Nat.le_of_ble_eq_true rfl) rfl dL_law_1003 (by omega) (by omega) (fun H locs hS => ?_)
  have hB : UB u8 := hB8
  have hT7 := hT.1.1.1.jd (hT.1.1.1.1.jc (kj_F_X11_sum _ _ hF9) (kr_F_sum _ _ hF8)) (kt_F_X11_sum _ _ hF9) (ku_F_sum _ _ hF8)
  have hT8 := hT.1.1.je hT7 (kv_F_X11_sum _ _ hF9) (kx_F_sum _ _ hF8)
  have hT9 := J9_look hT.1 hT8 (kt_F_X11_sum _ _ hF9) (e2_F_X11_sum _ _ hF9) (e3_F_X11_sum _ _ hF9) (ku_F_sum _ _ hF8) (e4_F_sum _ _ hF8) (e5_F_sum _ _ hF8)
  have hT : J10 N (n + 1) _ u8 := J10_of hT9 (by omega) hT.2 (e4_F_sum _ _ hF8)
  refine lv_pop2_2 hx hb dL_law_1006 rfl ?_
  refine lv_goto (tgt := 1370) hx hb dL_law_1007 (by decide) ?_
  exact W.widen (by omega) (by omega) (kk _ _ _ _ _ _ hU hB hT hS (lv_sub hl [0, 1, 2, 3, 4] rfl))
set_option maxHeartbeats 4000000 in
set_option maxRecDepth 100000 in
theorem lk_21 {p : Program} {l : Launch} {e : Env} {s : State} {m : MethodId} {below : List Frame} {meth : Method} {c : Code} {b L : Nat} {xs : Nat → Int32} {D : va_G} {kA : Nat → ClassId} {V Zc Zr : Nat → Nat} {A : Nat → Prop} {o N : Nat} {v : CSt} {u : RSt} {f : Nat → Int64} {H : Heap} {locs : List Loc} {ls : Array Slot} {cs ss : Nat} {n : Nat} (hC : lw_C p l s m meth c b L xs D kA V A) {i : Int32} (hi : ∀ j : Int32, 0 ≤ j → j ≤ 7 → vp_in (i + j) L) (hN : 100000000000000 ≤ N) (hn5 : n < 512) (hU : UC v) (hB : UB u) (hT : J10 N n v u) (hS : LSw D kA Zc Zr o A s v u f H locs) (hl : lv_has ls 8 [(0, .ref b), (1, .ref (Zc 200)), (2, .ref (Zr 200)), (3, .ref o), (4, .int i)]) (hcs : cs + 1 ≤ room_1.cells) (hss : ss + 6 ≤ room_1.slots) (kk : ∀ (v : CSt) (u : RSt) (f : Nat → Int64) (H : Heap) (locs : List Loc) (ls : Array Slot), UC v → UB u → J10 N (n + 1) v u → LSw D kA Zc Zr o A s v u f H locs → lv_has ls 8 [(0, .ref b), (1, .ref (Zc 200)), (2, .ref (Zr 200)), (3, .ref o), (4, .int i)] → W p l e room_1 s m #[Value.ref b] below meth c H locs (cs + 1) (ss + 6) (lw_Z below #[Value.ref b] s) (F0 m 1370 ls [])) : W p l e room_1 s m #[Value.ref b] below meth c H locs cs ss (lw_Z below #[Value.ref b] s) (F0 m 1010 ls []) := by
  have ⟨hst, hx, hb, hr, hml, hown, hts, hG, hX, hbl, hbA, hlocks, hE, hK, hA, hA2, hL9⟩ := hC
  refine lv_aload_n hx hb dL_law_1010 rfl (lv_at hl 1 rfl) ?_
  refine lv_aload_n hx hb dL_law_1011 rfl (lv_at hl 0 rfl) ?_
  refine lv_iload hx hb dL_law_1012 (lv_at hl 4 rfl) ?_
  refine lv_iconst (v := 1) hx hb dL_law_1014 (by decide) ?_
  refine lv_iadd hx hb dL_law_1015 ?_
  refine va_sld hx hb hX hbl hbA hS.2.2 (hi 1 (by decide) (by decide)) dL_law_1016 ?_
  refine lv_aload_n hx hb dL_law_1017 rfl (lv_at hl 0 rfl) ?_
  refine lv_iload hx hb dL_law_1018 (lv_at hl 4 rfl) ?_
  refine lv_iconst (v := 2) hx hb dL_law_1020 (by decide) ?_
  refine lv_iadd hx hb dL_law_1021 ?_
  refine va_sld hx hb hX hbl hbA hS.2.2 (hi 2 (by decide) (by decide)) dL_law_1022 ?_
  refine lv_i2l (v := ((xs (i + 2).toNatClampNeg)).toInt64) hx hb dL_law_1023 rfl ?_
  refine lv_bipush (v := 32) hx hb dL_law_1024 (by decide) ?_
  refine lv_lshl (v := (((xs (i + 2).toNatClampNeg)).toInt64) <<< ((32 : Int32).toInt64 &&& 63)) hx hb dL_law_1026 rfl ?_
  refine lv_aload_n hx hb dL_law_1027 rfl (lv_at hl 0 rfl) ?_
  refine lv_iload hx hb dL_law_1028 (lv_at hl 4 rfl) ?_
  refine lv_iconst (v := 3) hx hb dL_law_1030 (by decide) ?_
  refine lv_iadd hx hb dL_law_1031 ?_
  refine va_sld hx hb hX hbl hbA hS.2.2 (hi 3 (by decide) (by decide)) dL_law_1032 ?_
  refine lv_i2l (v := ((xs (i + 3).toNatClampNeg)).toInt64) hx hb dL_law_1033 rfl ?_
  refine lv_ldc2 (v := 4294967295) hx hb hown (hG _ gw_2764) dL_law_1034 ?_
  refine lv_land hx hb dL_law_1037 ?_
  refine lv_lor hx hb dL_law_1038 ?_
  refine lv_aload_n hx hb dL_law_1039 rfl (lv_at hl 3 rfl) ?_
  obtain ⟨y9, w9, hF9, hU9⟩ := v_X11_cut (N := N) (l1 := (xs (i + 1).toNatClampNeg)) (l2 := (((((xs (i + 2).toNatClampNeg)).toInt64) <<< ((32 : Int32).toInt64 &&& 63)) ||| ((((xs (i + 3).toNatClampNeg)).toInt64) &&& 4294967295))) (Nat.le_trans (by decide) hN) hU
  refine lcH (n := 4) (w := w9) hC hS (h_cut l hC.1 D kA V Zc N ((xs (i + 1).toNatClampNeg)) ((((((xs (i + 2).toNatClampNeg)).toInt64) <<< ((32 : Int32).toInt64 &&& 63)) ||| ((((xs (i + 3).toNatClampNeg)).toInt64) &&& 4294967295))) o f v H.size hF9 (vs_in hU9)) (gw_SW gw_1831 gw_1832 gw_0 gw_1833) (by decide +kernel) (Nat.le_of_ble_eq_true rfl) (Nat.le_of_ble_eq_true rfl) rfl hl.1 (Nat.le_of_ble_eq_true rfl) rfl dL_law_1040 (by omega) (by omega) (fun r9 g9 H locs hQ9 hS => ?_)
  have hU : UC w9 := hU9.1
  refine lv_istore (lv' := [(5, .int r9), (0, .ref b), (1, .ref (Zc 200)), (2, .ref (Zr 200)), (3, .ref o), (4, .int i)]) hx hb dL_law_1043 hl (by decide) rfl (fun ls hl => ?_)
  refine lv_aload_n hx hb dL_law_1045 rfl (lv_at hl 3 rfl) ?_
  refine lv_aload_n hx hb dL_law_1046 rfl (lv_at hl 1 rfl) ?_
  refine lv_iload hx hb dL_law_1047 (lv_at hl 5 rfl) ?_
  refine lv_iconst (v := 1) hx hb dL_law_1049 (by decide) ?_
  refine lv_iadd hx hb dL_law_1050 ?_
  refine va_sld hx hb hX hbl hbA hS.2.2 (hi 1 (by decide) (by decide)) dL_law_1051 ?_
  refine lv_aload_n hx hb dL_law_1052 rfl (lv_at hl 1 rfl) ?_
  refine lv_iload hx hb dL_law_1053 (lv_at hl 5 rfl) ?_
  refine lv_iconst (v := 2) hx hb dL_law_1055 (by decide) ?_
  refine lv_iadd hx hb dL_law_1056 ?_
  refine va_sld hx hb hX hbl hbA hS.2.2 (hi 2 (by decide) (by decide)) dL_law_1057 ?_
  refine lv_i2l (v := ((xs (i + 2).toNatClampNeg)).toInt64) hx hb dL_law_1058 rfl ?_
  refine lv_bipush (v := 32) hx hb dL_law_1059 (by decide) ?_
  refine lv_lshl (v := (((xs (i + 2).toNatClampNeg)).toInt64) <<< ((32 : Int32).toInt64 &&& 63)) hx hb dL_law_1061 rfl ?_
  refine lv_aload_n hx hb dL_law_1062 rfl (lv_at hl 1 rfl) ?_
  refine lv_iload hx hb dL_law_1063 (lv_at hl 5 rfl) ?_
  refine lv_iconst (v := 3) hx hb dL_law_1065 (by decide) ?_
  refine lv_iadd hx hb dL_law_1066 ?_
  refine va_sld hx hb hX hbl hbA hS.2.2 (hi 3 (by decide) (by decide)) dL_law_1067 ?_
  refine lv_i2l (v := ((xs (i + 3).toNatClampNeg)).toInt64) hx hb dL_law_1068 rfl ?_
  refine lv_ldc2 (v := 4294967295) hx hb hown (hG _ gw_2764) dL_law_1069 ?_
  refine lv_land hx hb dL_law_1072 ?_
  refine lv_lor hx hb dL_law_1073 ?_
  obtain ⟨r8, u8, hF8, hB8⟩ : wp (F_cut N ((xs (i + 1).toNatClampNeg)) ((((((xs (i + 2).toNatClampNeg)).toInt64) <<< ((32 : Int32).toInt64 &&& 63)) ||| ((((xs (i + 3).toNatClampNeg)).toInt64) &&& 4294967295))) u) (fun _ w => UB w) := x_cut hB
  refine lcR_l (n := 2) (x := u8) hC hS (k_cut l D kA V Zr N ((xs (i + 1).toNatClampNeg)) ((((((xs (i + 2).toNatClampNeg)).toInt64) <<< ((32 : Int32).toInt64 &&& 63)) ||| ((((xs (i + 3).toNatClampNeg)).toInt64) &&& 4294967295))) u H.size hF8) (gw_V gw_2748 gw_2749 gw_2750 gw_16 gw_2751) (by decide +kernel) (Nat.le_of_ble_eq_true rfl) (Nat.le_of_ble_eq_true rfl) rfl hl.1 (Nat.le_of_ble_eq_true rfl) rfl dL_law_1074 (by omega) (by omega) (fun H locs hS => ?_)
  have hB : UB u8 := hB8
  have hT7 := hT.1.1.1.jd (hT.1.1.1.1.jc (kj_F_X11_cut _ _ hF9) (kr_F_cut _ _ hF8)) (kt_F_X11_cut _ _ hF9) (ku_F_cut _ _ hF8)
  have hT8 := hT.1.1.je hT7 (kv_F_X11_cut _ _ hF9) (kx_F_cut _ _ hF8)
  have hT9 := J9_look hT.1 hT8 (kt_F_X11_cut _ _ hF9) (e2_F_X11_cut _ _ hF9) (e3_F_X11_cut _ _ hF9) (ku_F_cut _ _ hF8) (e4_F_cut _ _ hF8) (e5_F_cut _ _ hF8)
  have hT : J10 N (n + 1) _ u8 := J10_of hT9 (by omega) hT.2 (e4_F_cut _ _ hF8)
  refine lv_lstore (lv' := [(6, .long r8), (5, .int r9), (0, .ref b), (1, .ref (Zc 200)), (2, .ref (Zr 200)), (3, .ref o), (4, .int i)]) hx hb dL_law_1077 hl (by decide) rfl (fun ls hl => ?_)
  refine lv_goto (tgt := 1370) hx hb dL_law_1079 (by decide) ?_
  exact W.widen (by omega) (by omega) (kk _ _ _ _ _ _ hU hB hT hS (lv_sub hl [2, 3, 4, 5, 6] rfl))
set_option maxHeartbeats 4000000 in
set_option maxRecDepth 100000 in
theorem lk_22 {p : Program} {l : Launch} {e : Env} {s : State} {m : MethodId} {below : List Frame} {meth : Method} {c : Code} {b L : Nat} {xs : Nat → Int32} {D : va_G} {kA : Nat → ClassId} {V Zc Zr : Nat → Nat} {A : Nat → Prop} {o N : Nat} {v : CSt} {u : RSt} {f : Nat → Int64} {H : Heap} {locs : List Loc} {ls : Array Slot} {cs ss : Nat} {n : Nat} (hC : lw_C p l s m meth c b L xs D kA V A) {i : Int32} (hi : ∀ j : Int32, 0 ≤ j → j ≤ 7 → vp_in (i + j) L) (hN : 100000000000000 ≤ N) (hn5 : n < 512) (hU : UC v) (hB : UB u) (hT : J10 N n v u) (hS : LSw D kA Zc Zr o A s v u f H locs) (hl : lv_has ls 8 [(0, .ref b), (1, .ref (Zc 200)), (2, .ref (Zr 200)), (3, .ref o), (4, .int i)]) (hcs : cs + 1 ≤ room_1.cells) (hss : ss + 6 ≤ room_1.slots) (kk : ∀ (v : CSt) (u : RSt) (f : Nat → Int64) (H : Heap) (locs : List Loc) (ls : Array Slot), UC v → UB u → J10 N (n + 1) v u → LSw D kA Zc Zr o A s v u f H locs → lv_has ls 8 [(0, .ref b), (1, .ref (Zc 200)), (2, .ref (Zr 200)), (3, .ref o), (4, .int i)] → W p l e room_1 s m #[Value.ref b] below meth c H locs (cs + 1) (ss + 6) (lw_Z below #[Value.ref b] s) (F0 m 1370 ls [])) : W p l e room_1 s m #[Value.ref b] below meth c H locs cs ss (lw_Z below #[Value.ref b] s) (F0 m 1082 ls []) := by
  have ⟨hst, hx, hb, hr, hml, hown, hts, hG, hX, hbl, hbA, hlocks, hE, hK, hA, hA2, hL9⟩ := hC
  refine lv_aload_n hx hb dL_law_1082 rfl (lv_at hl 1 rfl) ?_
  refine lv_aload_n hx hb dL_law_1083 rfl (lv_at hl 0 rfl) ?_
  refine lv_iload hx hb dL_law_1084 (lv_at hl 4 rfl) ?_
  refine lv_iconst (v := 1) hx hb dL_law_1086 (by decide) ?_
  refine lv_iadd hx hb dL_law_1087 ?_
  refine va_sld hx hb hX hbl hbA hS.2.2 (hi 1 (by decide) (by decide)) dL_law_1088 ?_
  refine lv_aload_n hx hb dL_law_1089 rfl (lv_at hl 0 rfl) ?_
  refine lv_iload hx hb dL_law_1090 (lv_at hl 4 rfl) ?_
  refine lv_iconst (v := 2) hx hb dL_law_1092 (by decide) ?_
  refine lv_iadd hx hb dL_law_1093 ?_
  refine va_sld hx hb hX hbl hbA hS.2.2 (hi 2 (by decide) (by decide)) dL_law_1094 ?_
  refine lv_aload_n hx hb dL_law_1095 rfl (lv_at hl 0 rfl) ?_
  refine lv_iload hx hb dL_law_1096 (lv_at hl 4 rfl) ?_
  refine lv_iconst (v := 3) hx hb dL_law_1098 (by decide) ?_
  refine lv_iadd hx hb dL_law_1099 ?_
  refine va_sld hx hb hX hbl hbA hS.2.2 (hi 3 (by decide) (by decide)) dL_law_1100 ?_
  refine lv_aload_n hx hb dL_law_1101 rfl (lv_at hl 0 rfl) ?_
  refine lv_iload hx hb dL_law_1102 (lv_at hl 4 rfl) ?_
  refine lv_iconst (v := 4) hx hb dL_law_1104 (by decide) ?_
  refine lv_iadd hx hb dL_law_1105 ?_
  refine va_sld hx hb hX hbl hbA hS.2.2 (hi 4 (by decide) (by decide)) dL_law_1106 ?_
  refine lv_i2l (v := ((xs (i + 4).toNatClampNeg)).toInt64) hx hb dL_law_1107 rfl ?_
  refine lv_bipush (v := 32) hx hb dL_law_1108 (by decide) ?_
  refine lv_lshl (v := (((xs (i + 4).toNatClampNeg)).toInt64) <<< ((32 : Int32).toInt64 &&& 63)) hx hb dL_law_1110 rfl ?_
  refine lv_aload_n hx hb dL_law_1111 rfl (lv_at hl 0 rfl) ?_
  refine lv_iload hx hb dL_law_1112 (lv_at hl 4 rfl) ?_
  refine lv_iconst (v := 5) hx hb dL_law_1114 (by decide) ?_
  refine lv_iadd hx hb dL_law_1115 ?_
  refine va_sld hx hb hX hbl hbA hS.2.2 (hi 5 (by decide) (by decide)) dL_law_1116 ?_
  refine lv_i2l (v := ((xs (i + 5).toNatClampNeg)).toInt64) hx hb dL_law_1117 rfl ?_
  refine lv_ldc2 (v := 4294967295) hx hb hown (hG _ gw_2764) dL_law_1118 ?_
  refine lv_land hx hb dL_law_1121 ?_
  refine lv_lor hx hb dL_law_1122 ?_
  refine lv_aload_n hx hb dL_law_1123 rfl (lv_at hl 0 rfl) ?_
  refine lv_iload hx hb dL_law_1124 (lv_at hl 4 rfl) ?_
  refine lv_bipush (v := 6) hx hb dL_law_1126 (by decide) ?_
  refine lv_iadd hx hb dL_law_1128 ?_
  refine va_sld hx hb hX hbl hbA hS.2.2 (hi 6 (by decide) (by decide)) dL_law_1129 ?_
  refine lv_i2l (v := ((xs (i + 6).toNatClampNeg)).toInt64) hx hb dL_law_1130 rfl ?_
  refine lv_bipush (v := 32) hx hb dL_law_1131 (by decide) ?_
  refine lv_lshl (v := (((xs (i + 6).toNatClampNeg)).toInt64) <<< ((32 : Int32).toInt64 &&& 63)) hx hb dL_law_1133 rfl ?_
  refine lv_aload_n hx hb dL_law_1134 rfl (lv_at hl 0 rfl) ?_
  refine lv_iload hx hb dL_law_1135 (lv_at hl 4 rfl) ?_
  refine lv_bipush (v := 7) hx hb dL_law_1137 (by decide) ?_
  refine lv_iadd hx hb dL_law_1139 ?_
  refine va_sld hx hb hX hbl hbA hS.2.2 (hi 7 (by decide) (by decide)) dL_law_1140 ?_
  refine lv_i2l (v := ((xs (i + 7).toNatClampNeg)).toInt64) hx hb dL_law_1141 rfl ?_
  refine lv_ldc2 (v := 4294967295) hx hb hown (hG _ gw_2764) dL_law_1142 ?_
  refine lv_land hx hb dL_law_1145 ?_
  refine lv_lor hx hb dL_law_1146 ?_
  refine lv_aload_n hx hb dL_law_1147 rfl (lv_at hl 3 rfl) ?_
  obtain ⟨y9, w9, hF9, hU9⟩ := v_X11_work (N := N) (l1 := (xs (i + 1).toNatClampNeg)) (l2 := (xs (i + 2).toNatClampNeg)) (l3 := (xs (i + 3).toNatClampNeg)) (l4 := (((((xs (i + 4).toNatClampNeg)).toInt64) <<< ((32 : Int32).toInt64 &&& 63)) ||| ((((xs (i + 5).toNatClampNeg)).toInt64) &&& 4294967295))) (l6 := (((((xs (i + 6).toNatClampNeg)).toInt64) <<< ((32 : Int32).toInt64 &&& 63)) ||| ((((xs (i + 7).toNatClampNeg)).toInt64) &&& 4294967295))) (Nat.le_trans (by decide) hN) hU
  refine lcH (n := 7) (w := w9) hC hS (h_work l hC.1 D kA V Zc N ((xs (i + 1).toNatClampNeg)) ((xs (i + 2).toNatClampNeg)) ((xs (i + 3).toNatClampNeg)) ((((((xs (i + 4).toNatClampNeg)).toInt64) <<< ((32 : Int32).toInt64 &&& 63)) ||| ((((xs (i + 5).toNatClampNeg)).toInt64) &&& 4294967295))) ((((((xs (i + 6).toNatClampNeg)).toInt64) <<< ((32 : Int32).toInt64 &&& 63)) ||| ((((xs (i + 7).toNatClampNeg)).toInt64) &&& 4294967295))) o f v H.size hF9 (vs_in hU9)) (gw_SW gw_1843 gw_1844 gw_0 gw_1845) (by decide +kernel) (Nat.le_of_ble_eq_true rfl) (Nat.le_of_ble_eq_true rfl) rfl hl.1 (Nat.le_of_ble_eq_true rfl) rfl dL_law_1148 (by omega) (by omega) (fun r9 g9 H locs hQ9 hS => ?_)
  have hU : UC w9 := hU9.1
  refine lv_istore (lv' := [(5, .int r9), (0, .ref b), (1, .ref (Zc 200)), (2, .ref (Zr 200)), (3, .ref o), (4, .int i)]) hx hb dL_law_1151 hl (by decide) rfl (fun ls hl => ?_)
  refine lv_aload_n hx hb dL_law_1153 rfl (lv_at hl 3 rfl) ?_
  refine lv_aload_n hx hb dL_law_1154 rfl (lv_at hl 1 rfl) ?_
  refine lv_iload hx hb dL_law_1155 (lv_at hl 5 rfl) ?_
  refine lv_iconst (v := 1) hx hb dL_law_1157 (by decide) ?_
  refine lv_iadd hx hb dL_law_1158 ?_
  refine va_sld hx hb hX hbl hbA hS.2.2 (hi 1 (by decide) (by decide)) dL_law_1159 ?_
  refine lv_aload_n hx hb dL_law_1160 rfl (lv_at hl 1 rfl) ?_
  refine lv_iload hx hb dL_law_1161 (lv_at hl 5 rfl) ?_
  refine lv_iconst (v := 2) hx hb dL_law_1163 (by decide) ?_
  refine lv_iadd hx hb dL_law_1164 ?_
  refine va_sld hx hb hX hbl hbA hS.2.2 (hi 2 (by decide) (by decide)) dL_law_1165 ?_
  refine lv_aload_n hx hb dL_law_1166 rfl (lv_at hl 1 rfl) ?_
  refine lv_iload hx hb dL_law_1167 (lv_at hl 5 rfl) ?_
  refine lv_iconst (v := 3) hx hb dL_law_1169 (by decide) ?_
  refine lv_iadd hx hb dL_law_1170 ?_
  refine va_sld hx hb hX hbl hbA hS.2.2 (hi 3 (by decide) (by decide)) dL_law_1171 ?_
  refine lv_aload_n hx hb dL_law_1172 rfl (lv_at hl 1 rfl) ?_
  refine lv_iload hx hb dL_law_1173 (lv_at hl 5 rfl) ?_
  refine lv_iconst (v := 4) hx hb dL_law_1175 (by decide) ?_
  refine lv_iadd hx hb dL_law_1176 ?_
  refine va_sld hx hb hX hbl hbA hS.2.2 (hi 4 (by decide) (by decide)) dL_law_1177 ?_
  refine lv_i2l (v := ((xs (i + 4).toNatClampNeg)).toInt64) hx hb dL_law_1178 rfl ?_
  refine lv_bipush (v := 32) hx hb dL_law_1179 (by decide) ?_
  refine lv_lshl (v := (((xs (i + 4).toNatClampNeg)).toInt64) <<< ((32 : Int32).toInt64 &&& 63)) hx hb dL_law_1181 rfl ?_
  refine lv_aload_n hx hb dL_law_1182 rfl (lv_at hl 1 rfl) ?_
  refine lv_iload hx hb dL_law_1183 (lv_at hl 5 rfl) ?_
  refine lv_iconst (v := 5) hx hb dL_law_1185 (by decide) ?_
  refine lv_iadd hx hb dL_law_1186 ?_
  refine va_sld hx hb hX hbl hbA hS.2.2 (hi 5 (by decide) (by decide)) dL_law_1187 ?_
  refine lv_i2l (v := ((xs (i + 5).toNatClampNeg)).toInt64) hx hb dL_law_1188 rfl ?_
  refine lv_ldc2 (v := 4294967295) hx hb hown (hG _ gw_2764) dL_law_1189 ?_
  refine lv_land hx hb dL_law_1192 ?_
  refine lv_lor hx hb dL_law_1193 ?_
  refine lv_aload_n hx hb dL_law_1194 rfl (lv_at hl 1 rfl) ?_
  refine lv_iload hx hb dL_law_1195 (lv_at hl 5 rfl) ?_
  refine lv_bipush (v := 6) hx hb dL_law_1197 (by decide) ?_
  refine lv_iadd hx hb dL_law_1199 ?_
  refine va_sld hx hb hX hbl hbA hS.2.2 (hi 6 (by decide) (by decide)) dL_law_1200 ?_
  refine lv_i2l (v := ((xs (i + 6).toNatClampNeg)).toInt64) hx hb dL_law_1201 rfl ?_
  refine lv_bipush (v := 32) hx hb dL_law_1202 (by decide) ?_
  refine lv_lshl (v := (((xs (i + 6).toNatClampNeg)).toInt64) <<< ((32 : Int32).toInt64 &&& 63)) hx hb dL_law_1204 rfl ?_
  refine lv_aload_n hx hb dL_law_1205 rfl (lv_at hl 1 rfl) ?_
  refine lv_iload hx hb dL_law_1206 (lv_at hl 5 rfl) ?_
  refine lv_bipush (v := 7) hx hb dL_law_1208 (by decide) ?_
  refine lv_iadd hx hb dL_law_1210 ?_
  refine va_sld hx hb hX hbl hbA hS.2.2 (hi 7 (by decide) (by decide)) dL_law_1211 ?_
  refine lv_i2l (v := ((xs (i + 7).toNatClampNeg)).toInt64) hx hb dL_law_1212 rfl ?_
  refine lv_ldc2 (v := 4294967295) hx hb hown (hG _ gw_2764) dL_law_1213 ?_
  refine lv_land hx hb dL_law_1216 ?_
  refine lv_lor hx hb dL_law_1217 ?_
  obtain ⟨r8, u8, hF8, hB8⟩ : wp (F_work N ((xs (i + 1).toNatClampNeg)) ((xs (i + 2).toNatClampNeg)) ((xs (i + 3).toNatClampNeg)) ((((((xs (i + 4).toNatClampNeg)).toInt64) <<< ((32 : Int32).toInt64 &&& 63)) ||| ((((xs (i + 5).toNatClampNeg)).toInt64) &&& 4294967295))) ((((((xs (i + 6).toNatClampNeg)).toInt64) <<< ((32 : Int32).toInt64 &&& 63)) ||| ((((xs (i + 7).toNatClampNeg)).toInt64) &&& 4294967295))) u) (fun _ w => UB w) := x_work hB
  refine lcR_l (n := 5) (x := u8) hC hS (k_work l D kA V Zr N ((xs (i + 1).toNatClampNeg)) ((xs (i + 2).toNatClampNeg)) ((xs (i + 3).toNatClampNeg)) ((((((xs (i + 4).toNatClampNeg)).toInt64) <<< ((32 : Int32).toInt64 &&& 63)) ||| ((((xs (i + 5).toNatClampNeg)).toInt64) &&& 4294967295))) ((((((xs (i + 6).toNatClampNeg)).toInt64) <<< ((32 : Int32).toInt64 &&& 63)) ||| ((((xs (i + 7).toNatClampNeg)).toInt64) &&& 4294967295))) u H.size hF8) (gw_V gw_2756 gw_2757 gw_2758 gw_16 gw_2759) (by decide +kernel) (Nat.le_of_ble_eq_true rfl) (Nat.le_of_ble_eq_true rfl) rfl hl.1 (Nat.le_of_ble_eq_true rfl) rfl dL_law_1218 (by omega) (by omega) (fun H locs hS => ?_)
  have hB : UB u8 := hB8
  have hT7 := hT.1.1.1.jd (hT.1.1.1.1.jc (kj_F_X11_work _ _ hF9) (kr_F_work _ _ hF8)) (kt_F_X11_work _ _ hF9) (ku_F_work _ _ hF8)
  have hT8 := hT.1.1.je hT7 (kv_F_X11_work _ _ hF9) (kx_F_work _ _ hF8)
  have hT9 := J9_look hT.1 hT8 (kt_F_X11_work _ _ hF9) (e2_F_X11_work _ _ hF9) (e3_F_X11_work _ _ hF9) (ku_F_work _ _ hF8) (e4_F_work _ _ hF8) (e5_F_work _ _ hF8)
  have hT : J10 N (n + 1) _ u8 := J10_of hT9 (by omega) hT.2 (e4_F_work _ _ hF8)
  refine lv_lstore (lv' := [(6, .long r8), (5, .int r9), (0, .ref b), (1, .ref (Zc 200)), (2, .ref (Zr 200)), (3, .ref o), (4, .int i)]) hx hb dL_law_1221 hl (by decide) rfl (fun ls hl => ?_)
  refine lv_goto (tgt := 1370) hx hb dL_law_1223 (by decide) ?_
  exact W.widen (by omega) (by omega) (kk _ _ _ _ _ _ hU hB hT hS (lv_sub hl [2, 3, 4, 5, 6] rfl))
set_option maxHeartbeats 4000000 in
set_option maxRecDepth 100000 in
theorem lk_23 {p : Program} {l : Launch} {e : Env} {s : State} {m : MethodId} {below : List Frame} {meth : Method} {c : Code} {b L : Nat} {xs : Nat → Int32} {D : va_G} {kA : Nat → ClassId} {V Zc Zr : Nat → Nat} {A : Nat → Prop} {o N : Nat} {v : CSt} {u : RSt} {f : Nat → Int64} {H : Heap} {locs : List Loc} {ls : Array Slot} {cs ss : Nat} {n : Nat} (hC : lw_C p l s m meth c b L xs D kA V A) {i : Int32} (hi : ∀ j : Int32, 0 ≤ j → j ≤ 7 → vp_in (i + j) L) (hN : 100000000000000 ≤ N) (hn5 : n < 512) (hU : UC v) (hB : UB u) (hT : J10 N n v u) (hS : LSw D kA Zc Zr o A s v u f H locs) (hl : lv_has ls 8 [(0, .ref b), (1, .ref (Zc 200)), (2, .ref (Zr 200)), (3, .ref o), (4, .int i)]) (hcs : cs + 1 ≤ room_1.cells) (hss : ss + 6 ≤ room_1.slots) (kk : ∀ (v : CSt) (u : RSt) (f : Nat → Int64) (H : Heap) (locs : List Loc) (ls : Array Slot), UC v → UB u → J10 N (n + 1) v u → LSw D kA Zc Zr o A s v u f H locs → lv_has ls 8 [(0, .ref b), (1, .ref (Zc 200)), (2, .ref (Zr 200)), (3, .ref o), (4, .int i)] → W p l e room_1 s m #[Value.ref b] below meth c H locs (cs + 1) (ss + 6) (lw_Z below #[Value.ref b] s) (F0 m 1370 ls [])) : W p l e room_1 s m #[Value.ref b] below meth c H locs cs ss (lw_Z below #[Value.ref b] s) (F0 m 1226 ls []) := by
  have ⟨hst, hx, hb, hr, hml, hown, hts, hG, hX, hbl, hbA, hlocks, hE, hK, hA, hA2, hL9⟩ := hC
  refine lv_aload_n hx hb dL_law_1226 rfl (lv_at hl 1 rfl) ?_
  refine lv_aload_n hx hb dL_law_1227 rfl (lv_at hl 0 rfl) ?_
  refine lv_iload hx hb dL_law_1228 (lv_at hl 4 rfl) ?_
  refine lv_iconst (v := 1) hx hb dL_law_1230 (by decide) ?_
  refine lv_iadd hx hb dL_law_1231 ?_
  refine va_sld hx hb hX hbl hbA hS.2.2 (hi 1 (by decide) (by decide)) dL_law_1232 ?_
  refine lv_aload_n hx hb dL_law_1233 rfl (lv_at hl 0 rfl) ?_
  refine lv_iload hx hb dL_law_1234 (lv_at hl 4 rfl) ?_
  refine lv_iconst (v := 2) hx hb dL_law_1236 (by decide) ?_
  refine lv_iadd hx hb dL_law_1237 ?_
  refine va_sld hx hb hX hbl hbA hS.2.2 (hi 2 (by decide) (by decide)) dL_law_1238 ?_
  refine lv_aload_n hx hb dL_law_1239 rfl (lv_at hl 0 rfl) ?_
  refine lv_iload hx hb dL_law_1240 (lv_at hl 4 rfl) ?_
  refine lv_iconst (v := 3) hx hb dL_law_1242 (by decide) ?_
  refine lv_iadd hx hb dL_law_1243 ?_
  refine va_sld hx hb hX hbl hbA hS.2.2 (hi 3 (by decide) (by decide)) dL_law_1244 ?_
  refine lv_aload_n hx hb dL_law_1245 rfl (lv_at hl 0 rfl) ?_
  refine lv_iload hx hb dL_law_1246 (lv_at hl 4 rfl) ?_
  refine lv_iconst (v := 4) hx hb dL_law_1248 (by decide) ?_
  refine lv_iadd hx hb dL_law_1249 ?_
  refine va_sld hx hb hX hbl hbA hS.2.2 (hi 4 (by decide) (by decide)) dL_law_1250 ?_
  refine lv_i2l (v := ((xs (i + 4).toNatClampNeg)).toInt64) hx hb dL_law_1251 rfl ?_
  refine lv_bipush (v := 32) hx hb dL_law_1252 (by decide) ?_
  refine lv_lshl (v := (((xs (i + 4).toNatClampNeg)).toInt64) <<< ((32 : Int32).toInt64 &&& 63)) hx hb dL_law_1254 rfl ?_
  refine lv_aload_n hx hb dL_law_1255 rfl (lv_at hl 0 rfl) ?_
  refine lv_iload hx hb dL_law_1256 (lv_at hl 4 rfl) ?_
  refine lv_iconst (v := 5) hx hb dL_law_1258 (by decide) ?_
  refine lv_iadd hx hb dL_law_1259 ?_
  refine va_sld hx hb hX hbl hbA hS.2.2 (hi 5 (by decide) (by decide)) dL_law_1260 ?_
  refine lv_i2l (v := ((xs (i + 5).toNatClampNeg)).toInt64) hx hb dL_law_1261 rfl ?_
  refine lv_ldc2 (v := 4294967295) hx hb hown (hG _ gw_2764) dL_law_1262 ?_
  refine lv_land hx hb dL_law_1265 ?_
  refine lv_lor hx hb dL_law_1266 ?_
  refine lv_aload_n hx hb dL_law_1267 rfl (lv_at hl 0 rfl) ?_
  refine lv_iload hx hb dL_law_1268 (lv_at hl 4 rfl) ?_
  refine lv_bipush (v := 6) hx hb dL_law_1270 (by decide) ?_
  refine lv_iadd hx hb dL_law_1272 ?_
  refine va_sld hx hb hX hbl hbA hS.2.2 (hi 6 (by decide) (by decide)) dL_law_1273 ?_
  refine lv_i2l (v := ((xs (i + 6).toNatClampNeg)).toInt64) hx hb dL_law_1274 rfl ?_
  refine lv_bipush (v := 32) hx hb dL_law_1275 (by decide) ?_
  refine lv_lshl (v := (((xs (i + 6).toNatClampNeg)).toInt64) <<< ((32 : Int32).toInt64 &&& 63)) hx hb dL_law_1277 rfl ?_
  refine lv_aload_n hx hb dL_law_1278 rfl (lv_at hl 0 rfl) ?_
  refine lv_iload hx hb dL_law_1279 (lv_at hl 4 rfl) ?_
  refine lv_bipush (v := 7) hx hb dL_law_1281 (by decide) ?_
  refine lv_iadd hx hb dL_law_1283 ?_
  refine va_sld hx hb hX hbl hbA hS.2.2 (hi 7 (by decide) (by decide)) dL_law_1284 ?_
  refine lv_i2l (v := ((xs (i + 7).toNatClampNeg)).toInt64) hx hb dL_law_1285 rfl ?_
  refine lv_ldc2 (v := 4294967295) hx hb hown (hG _ gw_2764) dL_law_1286 ?_
  refine lv_land hx hb dL_law_1289 ?_
  refine lv_lor hx hb dL_law_1290 ?_
  refine lv_aload_n hx hb dL_law_1291 rfl (lv_at hl 3 rfl) ?_
  obtain ⟨y9, w9, hF9, hU9⟩ := v_X11_tell (N := N) (l1 := (xs (i + 1).toNatClampNeg)) (l2 := (xs (i + 2).toNatClampNeg)) (l3 := (xs (i + 3).toNatClampNeg)) (l4 := (((((xs (i + 4).toNatClampNeg)).toInt64) <<< ((32 : Int32).toInt64 &&& 63)) ||| ((((xs (i + 5).toNatClampNeg)).toInt64) &&& 4294967295))) (l6 := (((((xs (i + 6).toNatClampNeg)).toInt64) <<< ((32 : Int32).toInt64 &&& 63)) ||| ((((xs (i + 7).toNatClampNeg)).toInt64) &&& 4294967295))) (Nat.le_trans (by decide) hN) hU
  refine lcH (n := 7) (w := w9) hC hS (h_tell l hC.1 D kA V Zc N ((xs (i + 1).toNatClampNeg)) ((xs (i + 2).toNatClampNeg)) ((xs (i + 3).toNatClampNeg)) ((((((xs (i + 4).toNatClampNeg)).toInt64) <<< ((32 : Int32).toInt64 &&& 63)) ||| ((((xs (i + 5).toNatClampNeg)).toInt64) &&& 4294967295))) ((((((xs (i + 6).toNatClampNeg)).toInt64) <<< ((32 : Int32).toInt64 &&& 63)) ||| ((((xs (i + 7).toNatClampNeg)).toInt64) &&& 4294967295))) o f v H.size hF9 (vs_in hU9)) (gw_SW gw_1871 gw_1872 gw_0 gw_1873) (by decide +kernel) (Nat.le_of_ble_eq_true rfl) (Nat.le_of_ble_eq_true rfl) rfl hl.1 (Nat.le_of_ble_eq_true rfl) rfl dL_law_1292 (by omega) (by omega) (fun r9 g9 H locs hQ9 hS => ?_)
  have hU : UC w9 := hU9.1
  refine lv_istore (lv' := [(5, .int r9), (0, .ref b), (1, .ref (Zc 200)), (2, .ref (Zr 200)), (3, .ref o), (4, .int i)]) hx hb dL_law_1295 hl (by decide) rfl (fun ls hl => ?_)
  refine lv_aload_n hx hb dL_law_1297 rfl (lv_at hl 3 rfl) ?_
  refine lv_aload_n hx hb dL_law_1298 rfl (lv_at hl 1 rfl) ?_
  refine lv_iload hx hb dL_law_1299 (lv_at hl 5 rfl) ?_
  refine lv_iconst (v := 1) hx hb dL_law_1301 (by decide) ?_
  refine lv_iadd hx hb dL_law_1302 ?_
  refine va_sld hx hb hX hbl hbA hS.2.2 (hi 1 (by decide) (by decide)) dL_law_1303 ?_
  refine lv_aload_n hx hb dL_law_1304 rfl (lv_at hl 1 rfl) ?_
  refine lv_iload hx hb dL_law_1305 (lv_at hl 5 rfl) ?_
  refine lv_iconst (v := 2) hx hb dL_law_1307 (by decide) ?_
  refine lv_iadd hx hb dL_law_1308 ?_
  refine va_sld hx hb hX hbl hbA hS.2.2 (hi 2 (by decide) (by decide)) dL_law_1309 ?_
  refine lv_aload_n hx hb dL_law_1310 rfl (lv_at hl 1 rfl) ?_
  refine lv_iload hx hb dL_law_1311 (lv_at hl 5 rfl) ?_
  refine lv_iconst (v := 3) hx hb dL_law_1313 (by decide) ?_
  refine lv_iadd hx hb dL_law_1314 ?_
  refine va_sld hx hb hX hbl hbA hS.2.2 (hi 3 (by decide) (by decide)) dL_law_1315 ?_
  refine lv_aload_n hx hb dL_law_1316 rfl (lv_at hl 1 rfl) ?_
  refine lv_iload hx hb dL_law_1317 (lv_at hl 5 rfl) ?_
  refine lv_iconst (v := 4) hx hb dL_law_1319 (by decide) ?_
  refine lv_iadd hx hb dL_law_1320 ?_
  refine va_sld hx hb hX hbl hbA hS.2.2 (hi 4 (by decide) (by decide)) dL_law_1321 ?_
  refine lv_i2l (v := ((xs (i + 4).toNatClampNeg)).toInt64) hx hb dL_law_1322 rfl ?_
  refine lv_bipush (v := 32) hx hb dL_law_1323 (by decide) ?_
  refine lv_lshl (v := (((xs (i + 4).toNatClampNeg)).toInt64) <<< ((32 : Int32).toInt64 &&& 63)) hx hb dL_law_1325 rfl ?_
  refine lv_aload_n hx hb dL_law_1326 rfl (lv_at hl 1 rfl) ?_
  refine lv_iload hx hb dL_law_1327 (lv_at hl 5 rfl) ?_
  refine lv_iconst (v := 5) hx hb dL_law_1329 (by decide) ?_
  refine lv_iadd hx hb dL_law_1330 ?_
  refine va_sld hx hb hX hbl hbA hS.2.2 (hi 5 (by decide) (by decide)) dL_law_1331 ?_
  refine lv_i2l (v := ((xs (i + 5).toNatClampNeg)).toInt64) hx hb dL_law_1332 rfl ?_
  refine lv_ldc2 (v := 4294967295) hx hb hown (hG _ gw_2764) dL_law_1333 ?_
  refine lv_land hx hb dL_law_1336 ?_
  refine lv_lor hx hb dL_law_1337 ?_
  refine lv_aload_n hx hb dL_law_1338 rfl (lv_at hl 1 rfl) ?_
  refine lv_iload hx hb dL_law_1339 (lv_at hl 5 rfl) ?_
  refine lv_bipush (v := 6) hx hb dL_law_1341 (by decide) ?_
  refine lv_iadd hx hb dL_law_1343 ?_
  refine va_sld hx hb hX hbl hbA hS.2.2 (hi 6 (by decide) (by decide)) dL_law_1344 ?_
  refine lv_i2l (v := ((xs (i + 6).toNatClampNeg)).toInt64) hx hb dL_law_1345 rfl ?_
  refine lv_bipush (v := 32) hx hb dL_law_1346 (by decide) ?_
  refine lv_lshl (v := (((xs (i + 6).toNatClampNeg)).toInt64) <<< ((32 : Int32).toInt64 &&& 63)) hx hb dL_law_1348 rfl ?_
  refine lv_aload_n hx hb dL_law_1349 rfl (lv_at hl 1 rfl) ?_
  refine lv_iload hx hb dL_law_1350 (lv_at hl 5 rfl) ?_
  refine lv_bipush (v := 7) hx hb dL_law_1352 (by decide) ?_
  refine lv_iadd hx hb dL_law_1354 ?_
  refine va_sld hx hb hX hbl hbA hS.2.2 (hi 7 (by decide) (by decide)) dL_law_1355 ?_
  refine lv_i2l (v := ((xs (i + 7).toNatClampNeg)).toInt64) hx hb dL_law_1356 rfl ?_
  refine lv_ldc2 (v := 4294967295) hx hb hown (hG _ gw_2764) dL_law_1357 ?_
  refine lv_land hx hb dL_law_1360 ?_
  refine lv_lor hx hb dL_law_1361 ?_
  obtain ⟨r8, u8, hF8, hB8⟩ : wp (F_tell N ((xs (i + 1).toNatClampNeg)) ((xs (i + 2).toNatClampNeg)) ((xs (i + 3).toNatClampNeg)) ((((((xs (i + 4).toNatClampNeg)).toInt64) <<< ((32 : Int32).toInt64 &&& 63)) ||| ((((xs (i + 5).toNatClampNeg)).toInt64) &&& 4294967295))) ((((((xs (i + 6).toNatClampNeg)).toInt64) <<< ((32 : Int32).toInt64 &&& 63)) ||| ((((xs (i + 7).toNatClampNeg)).toInt64) &&& 4294967295))) u) (fun _ w => UB w) := x_tell hB
  refine lcR_l (n := 5) (x := u8) hC hS (k_tell l D kA V Zr N ((xs (i + 1).toNatClampNeg)) ((xs (i + 2).toNatClampNeg)) ((xs (i + 3).toNatClampNeg)) ((((((xs (i + 4).toNatClampNeg)).toInt64) <<< ((32 : Int32).toInt64 &&& 63)) ||| ((((xs (i + 5).toNatClampNeg)).toInt64) &&& 4294967295))) ((((((xs (i + 6).toNatClampNeg)).toInt64) <<< ((32 : Int32).toInt64 &&& 63)) ||| ((((xs (i + 7).toNatClampNeg)).toInt64) &&& 4294967295))) u H.size hF8) (gw_V gw_2760 gw_2761 gw_2762 gw_16 gw_2763) (by decide +kernel) (Nat.le_of_ble_eq_true rfl) (Nat.le_of_ble_eq_true rfl) rfl hl.1 (Nat.le_of_ble_eq_true rfl) rfl dL_law_1362 (by omega) (by omega) (fun H locs hS => ?_)
  have hB : UB u8 := hB8
  have hT7 := hT.1.1.1.jd (hT.1.1.1.1.jc (kj_F_X11_tell _ _ hF9) (kr_F_tell _ _ hF8)) (kt_F_X11_tell _ _ hF9) (ku_F_tell _ _ hF8)
  have hT8 := hT.1.1.je hT7 (kv_F_X11_tell _ _ hF9) (kx_F_tell _ _ hF8)
  have hT9 := J9_look hT.1 hT8 (kt_F_X11_tell _ _ hF9) (e2_F_X11_tell _ _ hF9) (e3_F_X11_tell _ _ hF9) (ku_F_tell _ _ hF8) (e4_F_tell _ _ hF8) (e5_F_tell _ _ hF8)
  have hT : J10 N (n + 1) _ u8 := J10_of hT9 (by omega) hT.2 (e4_F_tell _ _ hF8)
  refine lv_lstore (lv' := [(6, .long r8), (5, .int r9), (0, .ref b), (1, .ref (Zc 200)), (2, .ref (Zr 200)), (3, .ref o), (4, .int i)]) hx hb dL_law_1365 hl (by decide) rfl (fun ls hl => ?_)
  refine lv_goto (tgt := 1370) hx hb dL_law_1367 (by decide) ?_
  exact W.widen (by omega) (by omega) (kk _ _ _ _ _ _ hU hB hT hS (lv_sub hl [2, 3, 4, 5, 6] rfl))
