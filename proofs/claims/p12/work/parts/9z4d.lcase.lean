/-! cases of the law -/
set_option maxHeartbeats 4000000 in
set_option maxRecDepth 100000 in
theorem lk_18 {p : Program} {l : Launch} {e : Env} {s : State} {m : MethodId} {below : List Frame} {meth : Method} {c : Code} {b L : Nat} {xs : Nat → Int32} {D : va_G} {kA : Nat → ClassId} {V Zc Zr : Nat → Nat} {A : Nat → Prop} {o N : Nat} {v : CSt} {u : RSt} {f : Nat → Int64} {H : Heap} {locs : List Loc} {ls : Array Slot} {cs ss : Nat} {n : Nat} (hC : lw_C p l s m meth c b L xs D kA V A) {i : Int32} (hi : ∀ j : Int32, 0 ≤ j → j ≤ 7 → vp_in (i + j) L) (hN : 100000000000000 ≤ N) (hn5 : n < 512) (hU : UC v) (hB : UB u) (hT : J10 N n v u) (hS : LSw D kA Zc Zr o A s v u f H locs) (hl : lv_has ls 8 [(0, .ref b), (1, .ref (Zc 200)), (2, .ref (Zr 200)), (3, .ref o), (4, .int i)]) (hcs : cs + 1 ≤ room_1.cells) (hss : ss + 6 ≤ room_1.slots) (kk : ∀ (v : CSt) (u : RSt) (f : Nat → Int64) (H : Heap) (locs : List Loc) (ls : Array Slot), UC v → UB u → J10 N (n + 1) v u → LSw D kA Zc Zr o A s v u f H locs → lv_has ls 8 [(0, .ref b), (1, .ref (Zc 200)), (2, .ref (Zr 200)), (3, .ref o), (4, .int i)] → W p l e room_1 s m #[Value.ref b] below meth c H locs (cs + 1) (ss + 6) (lw_Z below #[Value.ref b] s) (F0 m 1378 ls [])) : W p l e room_1 s m #[Value.ref b] below meth c H locs cs ss (lw_Z below #[Value.ref b] s) (F0 m 937 ls []) := by
  have ⟨hst, hx, hb, hr, hml, hown, hts, hG, hX, hbl, hbA, hlocks, hE, hK, hA, hA2, hL9⟩ := hC
  refine lv_aload_n hx hb dL_law_937 rfl (lv_at hl 1 rfl) ?_
  refine lv_aload_n hx hb dL_law_938 rfl (lv_at hl 0 rfl) ?_
  refine lv_iload hx hb dL_law_939 (lv_at hl 4 rfl) ?_
  refine lv_iconst (v := 1) hx hb dL_law_941 (by decide) ?_
  refine lv_iadd hx hb dL_law_942 ?_
  refine va_sld hx hb hX hbl hbA hS.2.2 (hi 1 (by decide) (by decide)) dL_law_943 ?_
  refine lv_aload_n hx hb dL_law_944 rfl (lv_at hl 0 rfl) ?_
  refine lv_iload hx hb dL_law_945 (lv_at hl 4 rfl) ?_
  refine lv_iconst (v := 2) hx hb dL_law_947 (by decide) ?_
  refine lv_iadd hx hb dL_law_948 ?_
  refine va_sld hx hb hX hbl hbA hS.2.2 (hi 2 (by decide) (by decide)) dL_law_949 ?_
  refine lv_aload_n hx hb dL_law_950 rfl (lv_at hl 3 rfl) ?_
  obtain ⟨y9, w9, hF9, hU9⟩ := v_X11_event (N := N) (l1 := (xs (i + 1).toNatClampNeg)) (l2 := (xs (i + 2).toNatClampNeg)) (Nat.le_trans (by decide) hN) hU
  refine lcH (n := 4) (w := w9) hC hS (h_event l hC.1 D kA V Zc N ((xs (i + 1).toNatClampNeg)) ((xs (i + 2).toNatClampNeg)) o f v H.size hF9 (vs_in hU9)) (gw_SW gw_1805 gw_1806 gw_0 gw_1807) (by decide +kernel) (Nat.le_of_ble_eq_true rfl) (Nat.le_of_ble_eq_true rfl) rfl hl.1 (Nat.le_of_ble_eq_true rfl) rfl dL_law_951 (by omega) (by omega) (fun r9 g9 H locs hQ9 hS => ?_)
  have hU : UC w9 := hU9.1
  refine lv_istore (lv' := [(5, .int r9), (0, .ref b), (1, .ref (Zc 200)), (2, .ref (Zr 200)), (3, .ref o), (4, .int i)]) hx hb dL_law_954 hl (by decide) rfl (fun ls hl => ?_)
  refine lv_aload_n hx hb dL_law_956 rfl (lv_at hl 3 rfl) ?_
  refine lv_aload_n hx hb dL_law_957 rfl (lv_at hl 1 rfl) ?_
  refine lv_iload hx hb dL_law_958 (lv_at hl 5 rfl) ?_
  refine lv_iconst (v := 1) hx hb dL_law_960 (by decide) ?_
  refine lv_iadd hx hb dL_law_961 ?_
  refine va_sld hx hb hX hbl hbA hS.2.2 (hi 1 (by decide) (by decide)) dL_law_962 ?_
  refine lv_aload_n hx hb dL_law_963 rfl (lv_at hl 1 rfl) ?_
  refine lv_iload hx hb dL_law_964 (lv_at hl 5 rfl) ?_
  refine lv_iconst (v := 2) hx hb dL_law_966 (by decide) ?_
  refine lv_iadd hx hb dL_law_967 ?_
  refine va_sld hx hb hX hbl hbA hS.2.2 (hi 2 (by decide) (by decide)) dL_law_968 ?_
  obtain ⟨r8, u8, hF8, hB8⟩ : wp (F_event N ((xs (i + 1).toNatClampNeg)) ((xs (i + 2).toNatClampNeg)) u) (fun _ w => UB w) := x_event hB
  refine lcR_l (n := 2) (x := u8) hC hS (k_event l D kA V Zr N ((xs (i + 1).toNatClampNeg)) ((xs (i + 2).toNatClampNeg)) u H.size hF8) (gw_V gw_2736 gw_2737 gw_2738 gw_16 gw_2739) (by decide +kernel) (Nat.le_of_ble_eq_true rfl) (Nat.le_of_ble_eq_true rfl) rfl hl.1 (Nat.le_of_ble_eq_true rfl) rfl dL_law_969 (by omega) (by omega) (fun H locs hS => ?_)
  have hB : UB u8 := hB8
  have hT7 := hT.1.1.1.jd (hT.1.1.1.1.jc (kj_F_X11_event _ _ hF9) (kr_F_event _ _ hF8)) (kt_F_X11_event _ _ hF9) (ku_F_event _ _ hF8)
  have hT8 := hT.1.1.je hT7 (kv_F_X11_event _ _ hF9) (kx_F_event _ _ hF8)
  have hT9 := J9_look hT.1 hT8 (kt_F_X11_event _ _ hF9) (e2_F_X11_event _ _ hF9) (e3_F_X11_event _ _ hF9) (ku_F_event _ _ hF8) (e4_F_event _ _ hF8) (e5_F_event _ _ hF8)
  have hT : J10 N (n + 1) _ u8 := J10_of hT9 (by omega) hT.2 (e4_F_event _ _ hF8)
  refine lv_lstore (lv' := [(6, .long r8), (5, .int r9), (0, .ref b), (1, .ref (Zc 200)), (2, .ref (Zr 200)), (3, .ref o), (4, .int i)]) hx hb dL_law_972 hl (by decide) rfl (fun ls hl => ?_)
  refine lv_goto (tgt := 1378) hx hb dL_law_974 (by decide) ?_
  exact W.widen (by omega) (by omega) (kk _ _ _ _ _ _ hU hB hT hS (lv_sub hl [2, 3, 4, 5, 6] rfl))
set_option maxHeartbeats 4000000 in
set_option maxRecDepth 100000 in
theorem lk_19 {p : Program} {l : Launch} {e : Env} {s : State} {m : MethodId} {below : List Frame} {meth : Method} {c : Code} {b L : Nat} {xs : Nat → Int32} {D : va_G} {kA : Nat → ClassId} {V Zc Zr : Nat → Nat} {A : Nat → Prop} {o N : Nat} {v : CSt} {u : RSt} {f : Nat → Int64} {H : Heap} {locs : List Loc} {ls : Array Slot} {cs ss : Nat} {n : Nat} (hC : lw_C p l s m meth c b L xs D kA V A) {i : Int32} (hi : ∀ j : Int32, 0 ≤ j → j ≤ 7 → vp_in (i + j) L) (hN : 100000000000000 ≤ N) (hn5 : n < 512) (hU : UC v) (hB : UB u) (hT : J10 N n v u) (hS : LSw D kA Zc Zr o A s v u f H locs) (hl : lv_has ls 8 [(0, .ref b), (1, .ref (Zc 200)), (2, .ref (Zr 200)), (3, .ref o), (4, .int i)]) (hcs : cs + 1 ≤ room_1.cells) (hss : ss + 6 ≤ room_1.slots) (kk : ∀ (v : CSt) (u : RSt) (f : Nat → Int64) (H : Heap) (locs : List Loc) (ls : Array Slot), UC v → UB u → J10 N (n + 1) v u → LSw D kA Zc Zr o A s v u f H locs → lv_has ls 8 [(0, .ref b), (1, .ref (Zc 200)), (2, .ref (Zr 200)), (3, .ref o), (4, .int i)] → W p l e room_1 s m #[Value.ref b] below meth c H locs (cs + 1) (ss + 6) (lw_Z below #[Value.ref b] s) (F0 m 1378 ls [])) : W p l e room_1 s m #[Value.ref b] below meth c H locs cs ss (lw_Z below #[Value.ref b] s) (F0 m 977 ls []) := by
  have ⟨hst, hx, hb, hr, hml, hown, hts, hG, hX, hbl, hbA, hlocks, hE, hK, hA, hA2, hL9⟩ := hC
  refine lv_aload_n hx hb dL_law_977 rfl (lv_at hl 1 rfl) ?_
  refine lv_aload_n hx hb dL_law_978 rfl (lv_at hl 0 rfl) ?_
  refine lv_iload hx hb dL_law_979 (lv_at hl 4 rfl) ?_
  refine lv_iconst (v := 1) hx hb dL_law_981 (by decide) ?_
  refine lv_iadd hx hb dL_law_982 ?_
  refine va_sld hx hb hX hbl hbA hS.2.2 (hi 1 (by decide) (by decide)) dL_law_983 ?_
  refine lv_aload_n hx hb dL_law_984 rfl (lv_at hl 3 rfl) ?_
  obtain ⟨y9, w9, hF9, hU9⟩ := v_X11_count (N := N) (l1 := (xs (i + 1).toNatClampNeg)) (Nat.le_trans (by decide) hN) hU
  refine lcH (n := 3) (w := w9) hC hS (h_count l hC.1 D kA V Zc N ((xs (i + 1).toNatClampNeg)) o f v H.size hF9 (vs_in hU9)) (gw_SW gw_1819 gw_1820 gw_0 gw_1821) (by decide +kernel) (Nat.le_of_ble_eq_true rfl) (Nat.le_of_ble_eq_true rfl) rfl hl.1 (Nat.le_of_ble_eq_true rfl) rfl dL_law_985 (by omega) (by omega) (fun r9 g9 H locs hQ9 hS => ?_)
  have hU : UC w9 := hU9.1
  refine lv_istore (lv' := [(5, .int r9), (0, .ref b), (1, .ref (Zc 200)), (2, .ref (Zr 200)), (3, .ref o), (4, .int i)]) hx hb dL_law_988 hl (by decide) rfl (fun ls hl => ?_)
  refine lv_aload_n hx hb dL_law_990 rfl (lv_at hl 3 rfl) ?_
  refine lv_aload_n hx hb dL_law_991 rfl (lv_at hl 1 rfl) ?_
  refine lv_iload hx hb dL_law_992 (lv_at hl 5 rfl) ?_
  refine lv_iconst (v := 1) hx hb dL_law_994 (by decide) ?_
  refine lv_iadd hx hb dL_law_995 ?_
  refine va_sld hx hb hX hbl hbA hS.2.2 (hi 1 (by decide) (by decide)) dL_law_996 ?_
  obtain ⟨r8, u8, hF8, hB8⟩ : wp (F_count N ((xs (i + 1).toNatClampNeg)) u) (fun _ w => UB w) := x_count (Nat.le_trans (by decide) hN) hB
  refine lcR_i (n := 1) (x := u8) hC hS (k_count l D kA V Zr N ((xs (i + 1).toNatClampNeg)) u H.size hF8) (gw_V gw_2740 gw_2741 gw_2742 gw_16 gw_2743) (by decide +kernel) (Nat.le_of_ble_eq_true rfl) (Nat.le_of_ble_eq_true rfl) rfl hl.1 (Nat.le_of_ble_eq_true rfl) rfl dL_law_997 (by omega) (by omega) (fun H locs hS => ?_)
  have hB : UB u8 := hB8
  have hT7 := hT.1.1.1.jd (hT.1.1.1.1.jc (kj_F_X11_count _ _ hF9) (kr_F_count _ _ hF8)) (kt_F_X11_count _ _ hF9) (ku_F_count _ _ hF8)
  have hT8 := hT.1.1.je hT7 (kv_F_X11_count _ _ hF9) (kx_F_count _ _ hF8)
  have hT9 := J9_look hT.1 hT8 (kt_F_X11_count _ _ hF9) (e2_F_X11_count _ _ hF9) (e3_F_X11_count _ _ hF9) (ku_F_count _ _ hF8) (e4_F_count _ _ hF8) (e5_F_count _ _ hF8)
  have hT : J10 N (n + 1) _ u8 := J10_of hT9 (by omega) hT.2 (e4_F_count _ _ hF8)
  refine lv_istore (lv' := [(6, .int r8), (5, .int r9), (0, .ref b), (1, .ref (Zc 200)), (2, .ref (Zr 200)), (3, .ref o), (4, .int i)]) hx hb dL_law_1000 hl (by decide) rfl (fun ls hl => ?_)
  refine lv_goto (tgt := 1378) hx hb dL_law_1002 (by decide) ?_
  exact W.widen (by omega) (by omega) (kk _ _ _ _ _ _ hU hB hT hS (lv_sub hl [2, 3, 4, 5, 6] rfl))
set_option maxHeartbeats 4000000 in
set_option maxRecDepth 100000 in
theorem lk_20 {p : Program} {l : Launch} {e : Env} {s : State} {m : MethodId} {below : List Frame} {meth : Method} {c : Code} {b L : Nat} {xs : Nat → Int32} {D : va_G} {kA : Nat → ClassId} {V Zc Zr : Nat → Nat} {A : Nat → Prop} {o N : Nat} {v : CSt} {u : RSt} {f : Nat → Int64} {H : Heap} {locs : List Loc} {ls : Array Slot} {cs ss : Nat} {n : Nat} (hC : lw_C p l s m meth c b L xs D kA V A) {i : Int32} (hi : ∀ j : Int32, 0 ≤ j → j ≤ 7 → vp_in (i + j) L) (hN : 100000000000000 ≤ N) (hn5 : n < 512) (hU : UC v) (hB : UB u) (hT : J10 N n v u) (hS : LSw D kA Zc Zr o A s v u f H locs) (hl : lv_has ls 8 [(0, .ref b), (1, .ref (Zc 200)), (2, .ref (Zr 200)), (3, .ref o), (4, .int i)]) (hcs : cs + 1 ≤ room_1.cells) (hss : ss + 6 ≤ room_1.slots) (kk : ∀ (v : CSt) (u : RSt) (f : Nat → Int64) (H : Heap) (locs : List Loc) (ls : Array Slot), UC v → UB u → J10 N (n + 1) v u → LSw D kA Zc Zr o A s v u f H locs → lv_has ls 8 [(0, .ref b), (1, .ref (Zc 200)), (2, .ref (Zr 200)), (3, .ref o), (4, .int i)] → W p l e room_1 s m #[Value.ref b] below meth c H locs (cs + 1) (ss + 6) (lw_Z below #[Value.ref b] s) (F0 m 1378 ls [])) : W p l e room_1 s m #[Value.ref b] below meth c H locs cs ss (lw_Z below #[Value.ref b] s) (F0 m 1005 ls []) := by
  have ⟨hst, hx, hb, hr, hml, hown, hts, hG, hX, hbl, hbA, hlocks, hE, hK, hA, hA2, hL9⟩ := hC
  refine lv_aload_n hx hb dL_law_1005 rfl (lv_at hl 1 rfl) ?_
  obtain ⟨r9, w9, hF9, hU9⟩ := v_X11_sum (N := N)  (Nat.le_trans (by decide) hN) hU
  refine lcC_l (n := 0) (w := w9) hC hS (k_X11_sum l D kA V Zc N  v H.size hF9) (gw_V gw_1437 gw_1438 gw_1439 gw_1 gw_1440) (by decide +kernel) (Nat.le_of_ble_eq_true rfl) (Nat.le_of_ble_eq_true rfl) rfl hl.1 (Nat.le_of_ble_eq_true rfl) rfl dL_law_1006 (by omega) (by omega) (fun H locs hS => ?_)
  have hU : UC w9 := by rw [hU9.1]; exact hU
  refine lv_pop2_2 hx hb dL_law_1009 rfl ?_
  refine lv_aload_n hx hb dL_law_1010 rfl (lv_at hl 2 rfl) ?_
  obtain ⟨r8, u8, hF8, hB8⟩ : wp (F_sum N  u) (fun _ w => UB w) := x_sum (Nat.le_trans (by decide) hN) hB
  refine lcR_l (n := 0) (x := u8) hC hS (k_sum l D kA V Zr N  u H.size hF8) (gw_V gw_2744 gw_2745 gw_2746 gw_16 gw_2747) (by decide +kernel) (Nat.le_of_ble_eq_true rfl) (Nat.le_of_ble_eq_true rfl) rfl hl.1 (Nat.le_of_ble_eq_true rfl) rfl dL_law_1011 (by omega) (by omega) (fun H locs hS => ?_)
  have hB : UB u8 := hB8
  have hT7 := hT.1.1.1.jd (hT.1.1.1.1.jc (kj_F_X11_sum _ _ hF9) (kr_F_sum _ _ hF8)) (kt_F_X11_sum _ _ hF9) (ku_F_sum _ _ hF8)
  have hT8 := hT.1.1.je hT7 (kv_F_X11_sum _ _ hF9) (kx_F_sum _ _ hF8)
  have hT9 := J9_look hT.1 hT8 (kt_F_X11_sum _ _ hF9) (e2_F_X11_sum _ _ hF9) (e3_F_X11_sum _ _ hF9) (ku_F_sum _ _ hF8) (e4_F_sum _ _ hF8) (e5_F_sum _ _ hF8)
  have hT : J10 N (n + 1) _ u8 := J10_of hT9 (by omega) hT.2 (e4_F_sum _ _ hF8)
  refine lv_pop2_2 hx hb dL_law_1014 rfl ?_
  refine lv_goto (tgt := 1378) hx hb dL_law_1015 (by decide) ?_
  exact W.widen (by omega) (by omega) (kk _ _ _ _ _ _ hU hB hT hS (lv_sub hl [0, 1, 2, 3, 4] rfl))
set_option maxHeartbeats 4000000 in
set_option maxRecDepth 100000 in
theorem lk_21 {p : Program} {l : Launch} {e : Env} {s : State} {m : MethodId} {below : List Frame} {meth : Method} {c : Code} {b L : Nat} {xs : Nat → Int32} {D : va_G} {kA : Nat → ClassId} {V Zc Zr : Nat → Nat} {A : Nat → Prop} {o N : Nat} {v : CSt} {u : RSt} {f : Nat → Int64} {H : Heap} {locs : List Loc} {ls : Array Slot} {cs ss : Nat} {n : Nat} (hC : lw_C p l s m meth c b L xs D kA V A) {i : Int32} (hi : ∀ j : Int32, 0 ≤ j → j ≤ 7 → vp_in (i + j) L) (hN : 100000000000000 ≤ N) (hn5 : n < 512) (hU : UC v) (hB : UB u) (hT : J10 N n v u) (hS : LSw D kA Zc Zr o A s v u f H locs) (hl : lv_has ls 8 [(0, .ref b), (1, .ref (Zc 200)), (2, .ref (Zr 200)), (3, .ref o), (4, .int i)]) (hcs : cs + 1 ≤ room_1.cells) (hss : ss + 6 ≤ room_1.slots) (kk : ∀ (v : CSt) (u : RSt) (f : Nat → Int64) (H : Heap) (locs : List Loc) (ls : Array Slot), UC v → UB u → J10 N (n + 1) v u → LSw D kA Zc Zr o A s v u f H locs → lv_has ls 8 [(0, .ref b), (1, .ref (Zc 200)), (2, .ref (Zr 200)), (3, .ref o), (4, .int i)] → W p l e room_1 s m #[Value.ref b] below meth c H locs (cs + 1) (ss + 6) (lw_Z below #[Value.ref b] s) (F0 m 1378 ls [])) : W p l e room_1 s m #[Value.ref b] below meth c H locs cs ss (lw_Z below #[Value.ref b] s) (F0 m 1018 ls []) := by
  have ⟨hst, hx, hb, hr, hml, hown, hts, hG, hX, hbl, hbA, hlocks, hE, hK, hA, hA2, hL9⟩ := hC
  refine lv_aload_n hx hb dL_law_1018 rfl (lv_at hl 1 rfl) ?_
  refine lv_aload_n hx hb dL_law_1019 rfl (lv_at hl 0 rfl) ?_
  refine lv_iload hx hb dL_law_1020 (lv_at hl 4 rfl) ?_
  refine lv_iconst (v := 1) hx hb dL_law_1022 (by decide) ?_
  refine lv_iadd hx hb dL_law_1023 ?_
  refine va_sld hx hb hX hbl hbA hS.2.2 (hi 1 (by decide) (by decide)) dL_law_1024 ?_
  refine lv_aload_n hx hb dL_law_1025 rfl (lv_at hl 0 rfl) ?_
  refine lv_iload hx hb dL_law_1026 (lv_at hl 4 rfl) ?_
  refine lv_iconst (v := 2) hx hb dL_law_1028 (by decide) ?_
  refine lv_iadd hx hb dL_law_1029 ?_
  refine va_sld hx hb hX hbl hbA hS.2.2 (hi 2 (by decide) (by decide)) dL_law_1030 ?_
  refine lv_i2l (v := ((xs (i + 2).toNatClampNeg)).toInt64) hx hb dL_law_1031 rfl ?_
  refine lv_bipush (v := 32) hx hb dL_law_1032 (by decide) ?_
  refine lv_lshl (v := (((xs (i + 2).toNatClampNeg)).toInt64) <<< ((32 : Int32).toInt64 &&& 63)) hx hb dL_law_1034 rfl ?_
  refine lv_aload_n hx hb dL_law_1035 rfl (lv_at hl 0 rfl) ?_
  refine lv_iload hx hb dL_law_1036 (lv_at hl 4 rfl) ?_
  refine lv_iconst (v := 3) hx hb dL_law_1038 (by decide) ?_
  refine lv_iadd hx hb dL_law_1039 ?_
  refine va_sld hx hb hX hbl hbA hS.2.2 (hi 3 (by decide) (by decide)) dL_law_1040 ?_
  refine lv_i2l (v := ((xs (i + 3).toNatClampNeg)).toInt64) hx hb dL_law_1041 rfl ?_
  refine lv_ldc2 (v := 4294967295) hx hb hown (hG _ gw_2764) dL_law_1042 ?_
  refine lv_land hx hb dL_law_1045 ?_
  refine lv_lor hx hb dL_law_1046 ?_
  refine lv_aload_n hx hb dL_law_1047 rfl (lv_at hl 3 rfl) ?_
  obtain ⟨y9, w9, hF9, hU9⟩ := v_X11_cut (N := N) (l1 := (xs (i + 1).toNatClampNeg)) (l2 := (((((xs (i + 2).toNatClampNeg)).toInt64) <<< ((32 : Int32).toInt64 &&& 63)) ||| ((((xs (i + 3).toNatClampNeg)).toInt64) &&& 4294967295))) (Nat.le_trans (by decide) hN) hU
  refine lcH (n := 4) (w := w9) hC hS (h_cut l hC.1 D kA V Zc N ((xs (i + 1).toNatClampNeg)) ((((((xs (i + 2).toNatClampNeg)).toInt64) <<< ((32 : Int32).toInt64 &&& 63)) ||| ((((xs (i + 3).toNatClampNeg)).toInt64) &&& 4294967295))) o f v H.size hF9 (vs_in hU9)) (gw_SW gw_1831 gw_1832 gw_0 gw_1833) (by decide +kernel) (Nat.le_of_ble_eq_true rfl) (Nat.le_of_ble_eq_true rfl) rfl hl.1 (Nat.le_of_ble_eq_true rfl) rfl dL_law_1048 (by omega) (by omega) (fun r9 g9 H locs hQ9 hS => ?_)
  have hU : UC w9 := hU9.1
  refine lv_istore (lv' := [(5, .int r9), (0, .ref b), (1, .ref (Zc 200)), (2, .ref (Zr 200)), (3, .ref o), (4, .int i)]) hx hb dL_law_1051 hl (by decide) rfl (fun ls hl => ?_)
  refine lv_aload_n hx hb dL_law_1053 rfl (lv_at hl 3 rfl) ?_
  refine lv_aload_n hx hb dL_law_1054 rfl (lv_at hl 1 rfl) ?_
  refine lv_iload hx hb dL_law_1055 (lv_at hl 5 rfl) ?_
  refine lv_iconst (v := 1) hx hb dL_law_1057 (by decide) ?_
  refine lv_iadd hx hb dL_law_1058 ?_
  refine va_sld hx hb hX hbl hbA hS.2.2 (hi 1 (by decide) (by decide)) dL_law_1059 ?_
  refine lv_aload_n hx hb dL_law_1060 rfl (lv_at hl 1 rfl) ?_
  refine lv_iload hx hb dL_law_1061 (lv_at hl 5 rfl) ?_
  refine lv_iconst (v := 2) hx hb dL_law_1063 (by decide) ?_
  refine lv_iadd hx hb dL_law_1064 ?_
  refine va_sld hx hb hX hbl hbA hS.2.2 (hi 2 (by decide) (by decide)) dL_law_1065 ?_
  refine lv_i2l (v := ((xs (i + 2).toNatClampNeg)).toInt64) hx hb dL_law_1066 rfl ?_
  refine lv_bipush (v := 32) hx hb dL_law_1067 (by decide) ?_
  refine lv_lshl (v := (((xs (i + 2).toNatClampNeg)).toInt64) <<< ((32 : Int32).toInt64 &&& 63)) hx hb dL_law_1069 rfl ?_
  refine lv_aload_n hx hb dL_law_1070 rfl (lv_at hl 1 rfl) ?_
  refine lv_iload hx hb dL_law_1071 (lv_at hl 5 rfl) ?_
  refine lv_iconst (v := 3) hx hb dL_law_1073 (by decide) ?_
  refine lv_iadd hx hb dL_law_1074 ?_
  refine va_sld hx hb hX hbl hbA hS.2.2 (hi 3 (by decide) (by decide)) dL_law_1075 ?_
  refine lv_i2l (v := ((xs (i + 3).toNatClampNeg)).toInt64) hx hb dL_law_1076 rfl ?_
  refine lv_ldc2 (v := 4294967295) hx hb hown (hG _ gw_2764) dL_law_1077 ?_
  refine lv_land hx hb dL_law_1080 ?_
  refine lv_lor hx hb dL_law_1081 ?_
  obtain ⟨r8, u8, hF8, hB8⟩ : wp (F_cut N ((xs (i + 1).toNatClampNeg)) ((((((xs (i + 2).toNatClampNeg)).toInt64) <<< ((32 : Int32).toInt64 &&& 63)) ||| ((((xs (i + 3).toNatClampNeg)).toInt64) &&& 4294967295))) u) (fun _ w => UB w) := x_cut hB
  refine lcR_l (n := 2) (x := u8) hC hS (k_cut l D kA V Zr N ((xs (i + 1).toNatClampNeg)) ((((((xs (i + 2).toNatClampNeg)).toInt64) <<< ((32 : Int32).toInt64 &&& 63)) ||| ((((xs (i + 3).toNatClampNeg)).toInt64) &&& 4294967295))) u H.size hF8) (gw_V gw_2748 gw_2749 gw_2750 gw_16 gw_2751) (by decide +kernel) (Nat.le_of_ble_eq_true rfl) (Nat.le_of_ble_eq_true rfl) rfl hl.1 (Nat.le_of_ble_eq_true rfl) rfl dL_law_1082 (by omega) (by omega) (fun H locs hS => ?_)
  have hB : UB u8 := hB8
  have hT7 := hT.1.1.1.jd (hT.1.1.1.1.jc (kj_F_X11_cut _ _ hF9) (kr_F_cut _ _ hF8)) (kt_F_X11_cut _ _ hF9) (ku_F_cut _ _ hF8)
  have hT8 := hT.1.1.je hT7 (kv_F_X11_cut _ _ hF9) (kx_F_cut _ _ hF8)
  have hT9 := J9_look hT.1 hT8 (kt_F_X11_cut _ _ hF9) (e2_F_X11_cut _ _ hF9) (e3_F_X11_cut _ _ hF9) (ku_F_cut _ _ hF8) (e4_F_cut _ _ hF8) (e5_F_cut _ _ hF8)
  have hT : J10 N (n + 1) _ u8 := J10_of hT9 (by omega) hT.2 (e4_F_cut _ _ hF8)
  refine lv_lstore (lv' := [(6, .long r8), (5, .int r9), (0, .ref b), (1, .ref (Zc 200)), (2, .ref (Zr 200)), (3, .ref o), (4, .int i)]) hx hb dL_law_1085 hl (by decide) rfl (fun ls hl => ?_)
  refine lv_goto (tgt := 1378) hx hb dL_law_1087 (by decide) ?_
  exact W.widen (by omega) (by omega) (kk _ _ _ _ _ _ hU hB hT hS (lv_sub hl [2, 3, 4, 5, 6] rfl))
set_option maxHeartbeats 4000000 in
set_option maxRecDepth 100000 in
theorem lk_22 {p : Program} {l : Launch} {e : Env} {s : State} {m : MethodId} {below : List Frame} {meth : Method} {c : Code} {b L : Nat} {xs : Nat → Int32} {D : va_G} {kA : Nat → ClassId} {V Zc Zr : Nat → Nat} {A : Nat → Prop} {o N : Nat} {v : CSt} {u : RSt} {f : Nat → Int64} {H : Heap} {locs : List Loc} {ls : Array Slot} {cs ss : Nat} {n : Nat} (hC : lw_C p l s m meth c b L xs D kA V A) {i : Int32} (hi : ∀ j : Int32, 0 ≤ j → j ≤ 7 → vp_in (i + j) L) (hN : 100000000000000 ≤ N) (hn5 : n < 512) (hU : UC v) (hB : UB u) (hT : J10 N n v u) (hS : LSw D kA Zc Zr o A s v u f H locs) (hl : lv_has ls 8 [(0, .ref b), (1, .ref (Zc 200)), (2, .ref (Zr 200)), (3, .ref o), (4, .int i)]) (hcs : cs + 1 ≤ room_1.cells) (hss : ss + 6 ≤ room_1.slots) (kk : ∀ (v : CSt) (u : RSt) (f : Nat → Int64) (H : Heap) (locs : List Loc) (ls : Array Slot), UC v → UB u → J10 N (n + 1) v u → LSw D kA Zc Zr o A s v u f H locs → lv_has ls 8 [(0, .ref b), (1, .ref (Zc 200)), (2, .ref (Zr 200)), (3, .ref o), (4, .int i)] → W p l e room_1 s m #[Value.ref b] below meth c H locs (cs + 1) (ss + 6) (lw_Z below #[Value.ref b] s) (F0 m 1378 ls [])) : W p l e room_1 s m #[Value.ref b] below meth c H locs cs ss (lw_Z below #[Value.ref b] s) (F0 m 1090 ls []) := by
  have ⟨hst, hx, hb, hr, hml, hown, hts, hG, hX, hbl, hbA, hlocks, hE, hK, hA, hA2, hL9⟩ := hC
  refine lv_aload_n hx hb dL_law_1090 rfl (lv_at hl 1 rfl) ?_
  refine lv_aload_n hx hb dL_law_1091 rfl (lv_at hl 0 rfl) ?_
  refine lv_iload hx hb dL_law_1092 (lv_at hl 4 rfl) ?_
  refine lv_iconst (v := 1) hx hb dL_law_1094 (by decide) ?_
  refine lv_iadd hx hb dL_law_1095 ?_
  refine va_sld hx hb hX hbl hbA hS.2.2 (hi 1 (by decide) (by decide)) dL_law_1096 ?_
  refine lv_aload_n hx hb dL_law_1097 rfl (lv_at hl 0 rfl) ?_
  refine lv_iload hx hb dL_law_1098 (lv_at hl 4 rfl) ?_
  refine lv_iconst (v := 2) hx hb dL_law_1100 (by decide) ?_
  refine lv_iadd hx hb dL_law_1101 ?_
  refine va_sld hx hb hX hbl hbA hS.2.2 (hi 2 (by decide) (by decide)) dL_law_1102 ?_
  refine lv_aload_n hx hb dL_law_1103 rfl (lv_at hl 0 rfl) ?_
  refine lv_iload hx hb dL_law_1104 (lv_at hl 4 rfl) ?_
  refine lv_iconst (v := 3) hx hb dL_law_1106 (by decide) ?_
  refine lv_iadd hx hb dL_law_1107 ?_
  refine va_sld hx hb hX hbl hbA hS.2.2 (hi 3 (by decide) (by decide)) dL_law_1108 ?_
  refine lv_aload_n hx hb dL_law_1109 rfl (lv_at hl 0 rfl) ?_
  refine lv_iload hx hb dL_law_1110 (lv_at hl 4 rfl) ?_
  refine lv_iconst (v := 4) hx hb dL_law_1112 (by decide) ?_
  refine lv_iadd hx hb dL_law_1113 ?_
  refine va_sld hx hb hX hbl hbA hS.2.2 (hi 4 (by decide) (by decide)) dL_law_1114 ?_
  refine lv_i2l (v := ((xs (i + 4).toNatClampNeg)).toInt64) hx hb dL_law_1115 rfl ?_
  refine lv_bipush (v := 32) hx hb dL_law_1116 (by decide) ?_
  refine lv_lshl (v := (((xs (i + 4).toNatClampNeg)).toInt64) <<< ((32 : Int32).toInt64 &&& 63)) hx hb dL_law_1118 rfl ?_
  refine lv_aload_n hx hb dL_law_1119 rfl (lv_at hl 0 rfl) ?_
  refine lv_iload hx hb dL_law_1120 (lv_at hl 4 rfl) ?_
  refine lv_iconst (v := 5) hx hb dL_law_1122 (by decide) ?_
  refine lv_iadd hx hb dL_law_1123 ?_
  refine va_sld hx hb hX hbl hbA hS.2.2 (hi 5 (by decide) (by decide)) dL_law_1124 ?_
  refine lv_i2l (v := ((xs (i + 5).toNatClampNeg)).toInt64) hx hb dL_law_1125 rfl ?_
  refine lv_ldc2 (v := 4294967295) hx hb hown (hG _ gw_2764) dL_law_1126 ?_
  refine lv_land hx hb dL_law_1129 ?_
  refine lv_lor hx hb dL_law_1130 ?_
  refine lv_aload_n hx hb dL_law_1131 rfl (lv_at hl 0 rfl) ?_
  refine lv_iload hx hb dL_law_1132 (lv_at hl 4 rfl) ?_
  refine lv_bipush (v := 6) hx hb dL_law_1134 (by decide) ?_
  refine lv_iadd hx hb dL_law_1136 ?_
  refine va_sld hx hb hX hbl hbA hS.2.2 (hi 6 (by decide) (by decide)) dL_law_1137 ?_
  refine lv_i2l (v := ((xs (i + 6).toNatClampNeg)).toInt64) hx hb dL_law_1138 rfl ?_
  refine lv_bipush (v := 32) hx hb dL_law_1139 (by decide) ?_
  refine lv_lshl (v := (((xs (i + 6).toNatClampNeg)).toInt64) <<< ((32 : Int32).toInt64 &&& 63)) hx hb dL_law_1141 rfl ?_
  refine lv_aload_n hx hb dL_law_1142 rfl (lv_at hl 0 rfl) ?_
  refine lv_iload hx hb dL_law_1143 (lv_at hl 4 rfl) ?_
  refine lv_bipush (v := 7) hx hb dL_law_1145 (by decide) ?_
  refine lv_iadd hx hb dL_law_1147 ?_
  refine va_sld hx hb hX hbl hbA hS.2.2 (hi 7 (by decide) (by decide)) dL_law_1148 ?_
  refine lv_i2l (v := ((xs (i + 7).toNatClampNeg)).toInt64) hx hb dL_law_1149 rfl ?_
  refine lv_ldc2 (v := 4294967295) hx hb hown (hG _ gw_2764) dL_law_1150 ?_
  refine lv_land hx hb dL_law_1153 ?_
  refine lv_lor hx hb dL_law_1154 ?_
  refine lv_aload_n hx hb dL_law_1155 rfl (lv_at hl 3 rfl) ?_
  obtain ⟨y9, w9, hF9, hU9⟩ := v_X11_work (N := N) (l1 := (xs (i + 1).toNatClampNeg)) (l2 := (xs (i + 2).toNatClampNeg)) (l3 := (xs (i + 3).toNatClampNeg)) (l4 := (((((xs (i + 4).toNatClampNeg)).toInt64) <<< ((32 : Int32).toInt64 &&& 63)) ||| ((((xs (i + 5).toNatClampNeg)).toInt64) &&& 4294967295))) (l6 := (((((xs (i + 6).toNatClampNeg)).toInt64) <<< ((32 : Int32).toInt64 &&& 63)) ||| ((((xs (i + 7).toNatClampNeg)).toInt64) &&& 4294967295))) (Nat.le_trans (by decide) hN) hU
  refine lcH (n := 7) (w := w9) hC hS (h_work l hC.1 D kA V Zc N ((xs (i + 1).toNatClampNeg)) ((xs (i + 2).toNatClampNeg)) ((xs (i + 3).toNatClampNeg)) ((((((xs (i + 4).toNatClampNeg)).toInt64) <<< ((32 : Int32).toInt64 &&& 63)) ||| ((((xs (i + 5).toNatClampNeg)).toInt64) &&& 4294967295))) ((((((xs (i + 6).toNatClampNeg)).toInt64) <<< ((32 : Int32).toInt64 &&& 63)) ||| ((((xs (i + 7).toNatClampNeg)).toInt64) &&& 4294967295))) o f v H.size hF9 (vs_in hU9)) (gw_SW gw_1843 gw_1844 gw_0 gw_1845) (by decide +kernel) (Nat.le_of_ble_eq_true rfl) (Nat.le_of_ble_eq_true rfl) rfl hl.1 (Nat.le_of_ble_eq_true rfl) rfl dL_law_1156 (by omega) (by omega) (fun r9 g9 H locs hQ9 hS => ?_)
  have hU : UC w9 := hU9.1
  refine lv_istore (lv' := [(5, .int r9), (0, .ref b), (1, .ref (Zc 200)), (2, .ref (Zr 200)), (3, .ref o), (4, .int i)]) hx hb dL_law_1159 hl (by decide) rfl (fun ls hl => ?_)
  refine lv_aload_n hx hb dL_law_1161 rfl (lv_at hl 3 rfl) ?_
  refine lv_aload_n hx hb dL_law_1162 rfl (lv_at hl 1 rfl) ?_
  refine lv_iload hx hb dL_law_1163 (lv_at hl 5 rfl) ?_
  refine lv_iconst (v := 1) hx hb dL_law_1165 (by decide) ?_
  refine lv_iadd hx hb dL_law_1166 ?_
  refine va_sld hx hb hX hbl hbA hS.2.2 (hi 1 (by decide) (by decide)) dL_law_1167 ?_
  refine lv_aload_n hx hb dL_law_1168 rfl (lv_at hl 1 rfl) ?_
  refine lv_iload hx hb dL_law_1169 (lv_at hl 5 rfl) ?_
  refine lv_iconst (v := 2) hx hb dL_law_1171 (by decide) ?_
  refine lv_iadd hx hb dL_law_1172 ?_
  refine va_sld hx hb hX hbl hbA hS.2.2 (hi 2 (by decide) (by decide)) dL_law_1173 ?_
  refine lv_aload_n hx hb dL_law_1174 rfl (lv_at hl 1 rfl) ?_
  refine lv_iload hx hb dL_law_1175 (lv_at hl 5 rfl) ?_
  refine lv_iconst (v := 3) hx hb dL_law_1177 (by decide) ?_
  refine lv_iadd hx hb dL_law_1178 ?_
  refine va_sld hx hb hX hbl hbA hS.2.2 (hi 3 (by decide) (by decide)) dL_law_1179 ?_
  refine lv_aload_n hx hb dL_law_1180 rfl (lv_at hl 1 rfl) ?_
  refine lv_iload hx hb dL_law_1181 (lv_at hl 5 rfl) ?_
  refine lv_iconst (v := 4) hx hb dL_law_1183 (by decide) ?_
  refine lv_iadd hx hb dL_law_1184 ?_
  refine va_sld hx hb hX hbl hbA hS.2.2 (hi 4 (by decide) (by decide)) dL_law_1185 ?_
  refine lv_i2l (v := ((xs (i + 4).toNatClampNeg)).toInt64) hx hb dL_law_1186 rfl ?_
  refine lv_bipush (v := 32) hx hb dL_law_1187 (by decide) ?_
  refine lv_lshl (v := (((xs (i + 4).toNatClampNeg)).toInt64) <<< ((32 : Int32).toInt64 &&& 63)) hx hb dL_law_1189 rfl ?_
  refine lv_aload_n hx hb dL_law_1190 rfl (lv_at hl 1 rfl) ?_
  refine lv_iload hx hb dL_law_1191 (lv_at hl 5 rfl) ?_
  refine lv_iconst (v := 5) hx hb dL_law_1193 (by decide) ?_
  refine lv_iadd hx hb dL_law_1194 ?_
  refine va_sld hx hb hX hbl hbA hS.2.2 (hi 5 (by decide) (by decide)) dL_law_1195 ?_
  refine lv_i2l (v := ((xs (i + 5).toNatClampNeg)).toInt64) hx hb dL_law_1196 rfl ?_
  refine lv_ldc2 (v := 4294967295) hx hb hown (hG _ gw_2764) dL_law_1197 ?_
  refine lv_land hx hb dL_law_1200 ?_
  refine lv_lor hx hb dL_law_1201 ?_
  refine lv_aload_n hx hb dL_law_1202 rfl (lv_at hl 1 rfl) ?_
  refine lv_iload hx hb dL_law_1203 (lv_at hl 5 rfl) ?_
  refine lv_bipush (v := 6) hx hb dL_law_1205 (by decide) ?_
  refine lv_iadd hx hb dL_law_1207 ?_
  refine va_sld hx hb hX hbl hbA hS.2.2 (hi 6 (by decide) (by decide)) dL_law_1208 ?_
  refine lv_i2l (v := ((xs (i + 6).toNatClampNeg)).toInt64) hx hb dL_law_1209 rfl ?_
  refine lv_bipush (v := 32) hx hb dL_law_1210 (by decide) ?_
  refine lv_lshl (v := (((xs (i + 6).toNatClampNeg)).toInt64) <<< ((32 : Int32).toInt64 &&& 63)) hx hb dL_law_1212 rfl ?_
  refine lv_aload_n hx hb dL_law_1213 rfl (lv_at hl 1 rfl) ?_
  refine lv_iload hx hb dL_law_1214 (lv_at hl 5 rfl) ?_
  refine lv_bipush (v := 7) hx hb dL_law_1216 (by decide) ?_
  refine lv_iadd hx hb dL_law_1218 ?_
  refine va_sld hx hb hX hbl hbA hS.2.2 (hi 7 (by decide) (by decide)) dL_law_1219 ?_
  refine lv_i2l (v := ((xs (i + 7).toNatClampNeg)).toInt64) hx hb dL_law_1220 rfl ?_
  refine lv_ldc2 (v := 4294967295) hx hb hown (hG _ gw_2764) dL_law_1221 ?_
  refine lv_land hx hb dL_law_1224 ?_
  refine lv_lor hx hb dL_law_1225 ?_
  obtain ⟨r8, u8, hF8, hB8⟩ : wp (F_work N ((xs (i + 1).toNatClampNeg)) ((xs (i + 2).toNatClampNeg)) ((xs (i + 3).toNatClampNeg)) ((((((xs (i + 4).toNatClampNeg)).toInt64) <<< ((32 : Int32).toInt64 &&& 63)) ||| ((((xs (i + 5).toNatClampNeg)).toInt64) &&& 4294967295))) ((((((xs (i + 6).toNatClampNeg)).toInt64) <<< ((32 : Int32).toInt64 &&& 63)) ||| ((((xs (i + 7).toNatClampNeg)).toInt64) &&& 4294967295))) u) (fun _ w => UB w) := x_work hB
  refine lcR_l (n := 5) (x := u8) hC hS (k_work l D kA V Zr N ((xs (i + 1).toNatClampNeg)) ((xs (i + 2).toNatClampNeg)) ((xs (i + 3).toNatClampNeg)) ((((((xs (i + 4).toNatClampNeg)).toInt64) <<< ((32 : Int32).toInt64 &&& 63)) ||| ((((xs (i + 5).toNatClampNeg)).toInt64) &&& 4294967295))) ((((((xs (i + 6).toNatClampNeg)).toInt64) <<< ((32 : Int32).toInt64 &&& 63)) ||| ((((xs (i + 7).toNatClampNeg)).toInt64) &&& 4294967295))) u H.size hF8) (gw_V gw_2756 gw_2757 gw_2758 gw_16 gw_2759) (by decide +kernel) (Nat.le_of_ble_eq_true rfl) (Nat.le_of_ble_eq_true rfl) rfl hl.1 (Nat.le_of_ble_eq_true rfl) rfl dL_law_1226 (by omega) (by omega) (fun H locs hS => ?_)
  have hB : UB u8 := hB8
  have hT7 := hT.1.1.1.jd (hT.1.1.1.1.jc (kj_F_X11_work _ _ hF9) (kr_F_work _ _ hF8)) (kt_F_X11_work _ _ hF9) (ku_F_work _ _ hF8)
  have hT8 := hT.1.1.je hT7 (kv_F_X11_work _ _ hF9) (kx_F_work _ _ hF8)
  have hT9 := J9_look hT.1 hT8 (kt_F_X11_work _ _ hF9) (e2_F_X11_work _ _ hF9) (e3_F_X11_work _ _ hF9) (ku_F_work _ _ hF8) (e4_F_work _ _ hF8) (e5_F_work _ _ hF8)
  have hT : J10 N (n + 1) _ u8 := J10_of hT9 (by omega) hT.2 (e4_F_work _ _ hF8)
  refine lv_lstore (lv' := [(6, .long r8), (5, .int r9), (0, .ref b), (1, .ref (Zc 200)), (2, .ref (Zr 200)), (3, .ref o), (4, .int i)]) hx hb dL_law_1229 hl (by decide) rfl (fun ls hl => ?_)
  refine lv_goto (tgt := 1378) hx hb dL_law_1231 (by decide) ?_
  exact W.widen (by omega) (by omega) (kk _ _ _ _ _ _ hU hB hT hS (lv_sub hl [2, 3, 4, 5, 6] rfl))
set_option maxHeartbeats 4000000 in
set_option maxRecDepth 100000 in
theorem lk_23 {p : Program} {l : Launch} {e : Env} {s : State} {m : MethodId} {below : List Frame} {meth : Method} {c : Code} {b L : Nat} {xs : Nat → Int32} {D : va_G} {kA : Nat → ClassId} {V Zc Zr : Nat → Nat} {A : Nat → Prop} {o N : Nat} {v : CSt} {u : RSt} {f : Nat → Int64} {H : Heap} {locs : List Loc} {ls : Array Slot} {cs ss : Nat} {n : Nat} (hC : lw_C p l s m meth c b L xs D kA V A) {i : Int32} (hi : ∀ j : Int32, 0 ≤ j → j ≤ 7 → vp_in (i + j) L) (hN : 100000000000000 ≤ N) (hn5 : n < 512) (hU : UC v) (hB : UB u) (hT : J10 N n v u) (hS : LSw D kA Zc Zr o A s v u f H locs) (hl : lv_has ls 8 [(0, .ref b), (1, .ref (Zc 200)), (2, .ref (Zr 200)), (3, .ref o), (4, .int i)]) (hcs : cs + 1 ≤ room_1.cells) (hss : ss + 6 ≤ room_1.slots) (kk : ∀ (v : CSt) (u : RSt) (f : Nat → Int64) (H : Heap) (locs : List Loc) (ls : Array Slot), UC v → UB u → J10 N (n + 1) v u → LSw D kA Zc Zr o A s v u f H locs → lv_has ls 8 [(0, .ref b), (1, .ref (Zc 200)), (2, .ref (Zr 200)), (3, .ref o), (4, .int i)] → W p l e room_1 s m #[Value.ref b] below meth c H locs (cs + 1) (ss + 6) (lw_Z below #[Value.ref b] s) (F0 m 1378 ls [])) : W p l e room_1 s m #[Value.ref b] below meth c H locs cs ss (lw_Z below #[Value.ref b] s) (F0 m 1234 ls []) := by
  have ⟨hst, hx, hb, hr, hml, hown, hts, hG, hX, hbl, hbA, hlocks, hE, hK, hA, hA2, hL9⟩ := hC
  refine lv_aload_n hx hb dL_law_1234 rfl (lv_at hl 1 rfl) ?_
  refine lv_aload_n hx hb dL_law_1235 rfl (lv_at hl 0 rfl) ?_
  refine lv_iload hx hb dL_law_1236 (lv_at hl 4 rfl) ?_
  refine lv_iconst (v := 1) hx hb dL_law_1238 (by decide) ?_
  refine lv_iadd hx hb dL_law_1239 ?_
  refine va_sld hx hb hX hbl hbA hS.2.2 (hi 1 (by decide) (by decide)) dL_law_1240 ?_
  refine lv_aload_n hx hb dL_law_1241 rfl (lv_at hl 0 rfl) ?_
  refine lv_iload hx hb dL_law_1242 (lv_at hl 4 rfl) ?_
  refine lv_iconst (v := 2) hx hb dL_law_1244 (by decide) ?_
  refine lv_iadd hx hb dL_law_1245 ?_
  refine va_sld hx hb hX hbl hbA hS.2.2 (hi 2 (by decide) (by decide)) dL_law_1246 ?_
  refine lv_aload_n hx hb dL_law_1247 rfl (lv_at hl 0 rfl) ?_
  refine lv_iload hx hb dL_law_1248 (lv_at hl 4 rfl) ?_
  refine lv_iconst (v := 3) hx hb dL_law_1250 (by decide) ?_
  refine lv_iadd hx hb dL_law_1251 ?_
  refine va_sld hx hb hX hbl hbA hS.2.2 (hi 3 (by decide) (by decide)) dL_law_1252 ?_
  refine lv_aload_n hx hb dL_law_1253 rfl (lv_at hl 0 rfl) ?_
  refine lv_iload hx hb dL_law_1254 (lv_at hl 4 rfl) ?_
  refine lv_iconst (v := 4) hx hb dL_law_1256 (by decide) ?_
  refine lv_iadd hx hb dL_law_1257 ?_
  refine va_sld hx hb hX hbl hbA hS.2.2 (hi 4 (by decide) (by decide)) dL_law_1258 ?_
  refine lv_i2l (v := ((xs (i + 4).toNatClampNeg)).toInt64) hx hb dL_law_1259 rfl ?_
  refine lv_bipush (v := 32) hx hb dL_law_1260 (by decide) ?_
  refine lv_lshl (v := (((xs (i + 4).toNatClampNeg)).toInt64) <<< ((32 : Int32).toInt64 &&& 63)) hx hb dL_law_1262 rfl ?_
  refine lv_aload_n hx hb dL_law_1263 rfl (lv_at hl 0 rfl) ?_
  refine lv_iload hx hb dL_law_1264 (lv_at hl 4 rfl) ?_
  refine lv_iconst (v := 5) hx hb dL_law_1266 (by decide) ?_
  refine lv_iadd hx hb dL_law_1267 ?_
  refine va_sld hx hb hX hbl hbA hS.2.2 (hi 5 (by decide) (by decide)) dL_law_1268 ?_
  refine lv_i2l (v := ((xs (i + 5).toNatClampNeg)).toInt64) hx hb dL_law_1269 rfl ?_
  refine lv_ldc2 (v := 4294967295) hx hb hown (hG _ gw_2764) dL_law_1270 ?_
  refine lv_land hx hb dL_law_1273 ?_
  refine lv_lor hx hb dL_law_1274 ?_
  refine lv_aload_n hx hb dL_law_1275 rfl (lv_at hl 0 rfl) ?_
  refine lv_iload hx hb dL_law_1276 (lv_at hl 4 rfl) ?_
  refine lv_bipush (v := 6) hx hb dL_law_1278 (by decide) ?_
  refine lv_iadd hx hb dL_law_1280 ?_
  refine va_sld hx hb hX hbl hbA hS.2.2 (hi 6 (by decide) (by decide)) dL_law_1281 ?_
  refine lv_i2l (v := ((xs (i + 6).toNatClampNeg)).toInt64) hx hb dL_law_1282 rfl ?_
  refine lv_bipush (v := 32) hx hb dL_law_1283 (by decide) ?_
  refine lv_lshl (v := (((xs (i + 6).toNatClampNeg)).toInt64) <<< ((32 : Int32).toInt64 &&& 63)) hx hb dL_law_1285 rfl ?_
  refine lv_aload_n hx hb dL_law_1286 rfl (lv_at hl 0 rfl) ?_
  refine lv_iload hx hb dL_law_1287 (lv_at hl 4 rfl) ?_
  refine lv_bipush (v := 7) hx hb dL_law_1289 (by decide) ?_
  refine lv_iadd hx hb dL_law_1291 ?_
  refine va_sld hx hb hX hbl hbA hS.2.2 (hi 7 (by decide) (by decide)) dL_law_1292 ?_
  refine lv_i2l (v := ((xs (i + 7).toNatClampNeg)).toInt64) hx hb dL_law_1293 rfl ?_
  refine lv_ldc2 (v := 4294967295) hx hb hown (hG _ gw_2764) dL_law_1294 ?_
  refine lv_land hx hb dL_law_1297 ?_
  refine lv_lor hx hb dL_law_1298 ?_
  refine lv_aload_n hx hb dL_law_1299 rfl (lv_at hl 3 rfl) ?_
  obtain ⟨y9, w9, hF9, hU9⟩ := v_X11_tell (N := N) (l1 := (xs (i + 1).toNatClampNeg)) (l2 := (xs (i + 2).toNatClampNeg)) (l3 := (xs (i + 3).toNatClampNeg)) (l4 := (((((xs (i + 4).toNatClampNeg)).toInt64) <<< ((32 : Int32).toInt64 &&& 63)) ||| ((((xs (i + 5).toNatClampNeg)).toInt64) &&& 4294967295))) (l6 := (((((xs (i + 6).toNatClampNeg)).toInt64) <<< ((32 : Int32).toInt64 &&& 63)) ||| ((((xs (i + 7).toNatClampNeg)).toInt64) &&& 4294967295))) (Nat.le_trans (by decide) hN) hU
  refine lcH (n := 7) (w := w9) hC hS (h_tell l hC.1 D kA V Zc N ((xs (i + 1).toNatClampNeg)) ((xs (i + 2).toNatClampNeg)) ((xs (i + 3).toNatClampNeg)) ((((((xs (i + 4).toNatClampNeg)).toInt64) <<< ((32 : Int32).toInt64 &&& 63)) ||| ((((xs (i + 5).toNatClampNeg)).toInt64) &&& 4294967295))) ((((((xs (i + 6).toNatClampNeg)).toInt64) <<< ((32 : Int32).toInt64 &&& 63)) ||| ((((xs (i + 7).toNatClampNeg)).toInt64) &&& 4294967295))) o f v H.size hF9 (vs_in hU9)) (gw_SW gw_1871 gw_1872 gw_0 gw_1873) (by decide +kernel) (Nat.le_of_ble_eq_true rfl) (Nat.le_of_ble_eq_true rfl) rfl hl.1 (Nat.le_of_ble_eq_true rfl) rfl dL_law_1300 (by omega) (by omega) (fun r9 g9 H locs hQ9 hS => ?_)
  have hU : UC w9 := hU9.1
  refine lv_istore (lv' := [(5, .int r9), (0, .ref b), (1, .ref (Zc 200)), (2, .ref (Zr 200)), (3, .ref o), (4, .int i)]) hx hb dL_law_1303 hl (by decide) rfl (fun ls hl => ?_)
  refine lv_aload_n hx hb dL_law_1305 rfl (lv_at hl 3 rfl) ?_
  refine lv_aload_n hx hb dL_law_1306 rfl (lv_at hl 1 rfl) ?_
  refine lv_iload hx hb dL_law_1307 (lv_at hl 5 rfl) ?_
  refine lv_iconst (v := 1) hx hb dL_law_1309 (by decide) ?_
  refine lv_iadd hx hb dL_law_1310 ?_
  refine va_sld hx hb hX hbl hbA hS.2.2 (hi 1 (by decide) (by decide)) dL_law_1311 ?_
  refine lv_aload_n hx hb dL_law_1312 rfl (lv_at hl 1 rfl) ?_
  refine lv_iload hx hb dL_law_1313 (lv_at hl 5 rfl) ?_
  refine lv_iconst (v := 2) hx hb dL_law_1315 (by decide) ?_
  refine lv_iadd hx hb dL_law_1316 ?_
  refine va_sld hx hb hX hbl hbA hS.2.2 (hi 2 (by decide) (by decide)) dL_law_1317 ?_
  refine lv_aload_n hx hb dL_law_1318 rfl (lv_at hl 1 rfl) ?_
  refine lv_iload hx hb dL_law_1319 (lv_at hl 5 rfl) ?_
  refine lv_iconst (v := 3) hx hb dL_law_1321 (by decide) ?_
  refine lv_iadd hx hb dL_law_1322 ?_
  refine va_sld hx hb hX hbl hbA hS.2.2 (hi 3 (by decide) (by decide)) dL_law_1323 ?_
  refine lv_aload_n hx hb dL_law_1324 rfl (lv_at hl 1 rfl) ?_
  refine lv_iload hx hb dL_law_1325 (lv_at hl 5 rfl) ?_
  refine lv_iconst (v := 4) hx hb dL_law_1327 (by decide) ?_
  refine lv_iadd hx hb dL_law_1328 ?_
  refine va_sld hx hb hX hbl hbA hS.2.2 (hi 4 (by decide) (by decide)) dL_law_1329 ?_
  refine lv_i2l (v := ((xs (i + 4).toNatClampNeg)).toInt64) hx hb dL_law_1330 rfl ?_
  refine lv_bipush (v := 32) hx hb dL_law_1331 (by decide) ?_
  refine lv_lshl (v := (((xs (i + 4).toNatClampNeg)).toInt64) <<< ((32 : Int32).toInt64 &&& 63)) hx hb dL_law_1333 rfl ?_
  refine lv_aload_n hx hb dL_law_1334 rfl (lv_at hl 1 rfl) ?_
  refine lv_iload hx hb dL_law_1335 (lv_at hl 5 rfl) ?_
  refine lv_iconst (v := 5) hx hb dL_law_1337 (by decide) ?_
  refine lv_iadd hx hb dL_law_1338 ?_
  refine va_sld hx hb hX hbl hbA hS.2.2 (hi 5 (by decide) (by decide)) dL_law_1339 ?_
  refine lv_i2l (v := ((xs (i + 5).toNatClampNeg)).toInt64) hx hb dL_law_1340 rfl ?_
  refine lv_ldc2 (v := 4294967295) hx hb hown (hG _ gw_2764) dL_law_1341 ?_
  refine lv_land hx hb dL_law_1344 ?_
  refine lv_lor hx hb dL_law_1345 ?_
  refine lv_aload_n hx hb dL_law_1346 rfl (lv_at hl 1 rfl) ?_
  refine lv_iload hx hb dL_law_1347 (lv_at hl 5 rfl) ?_
  refine lv_bipush (v := 6) hx hb dL_law_1349 (by decide) ?_
  refine lv_iadd hx hb dL_law_1351 ?_
  refine va_sld hx hb hX hbl hbA hS.2.2 (hi 6 (by decide) (by decide)) dL_law_1352 ?_
  refine lv_i2l (v := ((xs (i + 6).toNatClampNeg)).toInt64) hx hb dL_law_1353 rfl ?_
  refine lv_bipush (v := 32) hx hb dL_law_1354 (by decide) ?_
  refine lv_lshl (v := (((xs (i + 6).toNatClampNeg)).toInt64) <<< ((32 : Int32).toInt64 &&& 63)) hx hb dL_law_1356 rfl ?_
  refine lv_aload_n hx hb dL_law_1357 rfl (lv_at hl 1 rfl) ?_
  refine lv_iload hx hb dL_law_1358 (lv_at hl 5 rfl) ?_
  refine lv_bipush (v := 7) hx hb dL_law_1360 (by decide) ?_
  refine lv_iadd hx hb dL_law_1362 ?_
  refine va_sld hx hb hX hbl hbA hS.2.2 (hi 7 (by decide) (by decide)) dL_law_1363 ?_
  refine lv_i2l (v := ((xs (i + 7).toNatClampNeg)).toInt64) hx hb dL_law_1364 rfl ?_
  refine lv_ldc2 (v := 4294967295) hx hb hown (hG _ gw_2764) dL_law_1365 ?_
  refine lv_land hx hb dL_law_1368 ?_
  refine lv_lor hx hb dL_law_1369 ?_
  obtain ⟨r8, u8, hF8, hB8⟩ : wp (F_tell N ((xs (i + 1).toNatClampNeg)) ((xs (i + 2).toNatClampNeg)) ((xs (i + 3).toNatClampNeg)) ((((((xs (i + 4).toNatClampNeg)).toInt64) <<< ((32 : Int32).toInt64 &&& 63)) ||| ((((xs (i + 5).toNatClampNeg)).toInt64) &&& 4294967295))) ((((((xs (i + 6).toNatClampNeg)).toInt64) <<< ((32 : Int32).toInt64 &&& 63)) ||| ((((xs (i + 7).toNatClampNeg)).toInt64) &&& 4294967295))) u) (fun _ w => UB w) := x_tell hB
  refine lcR_l (n := 5) (x := u8) hC hS (k_tell l D kA V Zr N ((xs (i + 1).toNatClampNeg)) ((xs (i + 2).toNatClampNeg)) ((xs (i + 3).toNatClampNeg)) ((((((xs (i + 4).toNatClampNeg)).toInt64) <<< ((32 : Int32).toInt64 &&& 63)) ||| ((((xs (i + 5).toNatClampNeg)).toInt64) &&& 4294967295))) ((((((xs (i + 6).toNatClampNeg)).toInt64) <<< ((32 : Int32).toInt64 &&& 63)) ||| ((((xs (i + 7).toNatClampNeg)).toInt64) &&& 4294967295))) u H.size hF8) (gw_V gw_2760 gw_2761 gw_2762 gw_16 gw_2763) (by decide +kernel) (Nat.le_of_ble_eq_true rfl) (Nat.le_of_ble_eq_true rfl) rfl hl.1 (Nat.le_of_ble_eq_true rfl) rfl dL_law_1370 (by omega) (by omega) (fun H locs hS => ?_)
  have hB : UB u8 := hB8
  have hT7 := hT.1.1.1.jd (hT.1.1.1.1.jc (kj_F_X11_tell _ _ hF9) (kr_F_tell _ _ hF8)) (kt_F_X11_tell _ _ hF9) (ku_F_tell _ _ hF8)
  have hT8 := hT.1.1.je hT7 (kv_F_X11_tell _ _ hF9) (kx_F_tell _ _ hF8)
  have hT9 := J9_look hT.1 hT8 (kt_F_X11_tell _ _ hF9) (e2_F_X11_tell _ _ hF9) (e3_F_X11_tell _ _ hF9) (ku_F_tell _ _ hF8) (e4_F_tell _ _ hF8) (e5_F_tell _ _ hF8)
  have hT : J10 N (n + 1) _ u8 := J10_of hT9 (by omega) hT.2 (e4_F_tell _ _ hF8)
  refine lv_lstore (lv' := [(6, .long r8), (5, .int r9), (0, .ref b), (1, .ref (Zc 200)), (2, .ref (Zr 200)), (3, .ref o), (4, .int i)]) hx hb dL_law_1373 hl (by decide) rfl (fun ls hl => ?_)
  refine lv_goto (tgt := 1378) hx hb dL_law_1375 (by decide) ?_
  exact W.widen (by omega) (by omega) (kk _ _ _ _ _ _ hU hB hT hS (lv_sub hl [2, 3, 4, 5, 6] rfl))
