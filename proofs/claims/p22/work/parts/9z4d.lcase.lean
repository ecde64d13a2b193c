/-! cases of the law -/
set_option maxHeartbeats 4000000 in
set_option maxRecDepth 100000 in
theorem lk_18 {p : Program} {l : Launch} {e : Env} {s : State} {m : MethodId} {below : List Frame} {meth : Method} {c : Code} {b L : Nat} {xs : Nat → Int32} {D : va_G} {kA : Nat → ClassId} {V Zc Zr : Nat → Nat} {A : Nat → Prop} {o N : Nat} {v : CSt} {u : RSt} {f : Nat → Int64} {H : Heap} {locs : List Loc} {ls : Array Slot} {cs ss : Nat} {n : Nat} (hC : lw_C p l s m meth c b L xs D kA V A) {i : Int32} (hi : ∀ j : Int32, 0 ≤ j → j ≤ 7 → vp_in (i + j) L) (hN : 100000000000000 ≤ N) (hn5 : n < 512) (hU : UC v) (hB : UB u) (hT : J10 N n v u) (hS : LSw D kA Zc Zr o A s v u f H locs) (hl : lv_has ls 8 [(0, .ref b), (1, .ref (Zc 200)), (2, .ref (Zr 200)), (3, .ref o), (4, .int i)]) (hcs : cs + 1 ≤ room_1.cells) (hss : ss + 6 ≤ room_1.slots) (kk : ∀ (v : CSt) (u : RSt) (f : Nat → Int64) (H : Heap) (locs : List Loc) (ls : Array Slot), UC v → UB u → J10 N (n + 1) v u → LSw D kA Zc Zr o A s v u f H locs → lv_has ls 8 [(0, .ref b), (1, .ref (Zc 200)), (2, .ref (Zr 200)), (3, .ref o), (4, .int i)] → W p l e room_1 s m #[Value.ref b] below meth c H locs (cs + 1) (ss + 6) (lw_Z below #[Value.ref b] s) (F0 m 1344 ls [])) : W p l e room_1 s m #[Value.ref b] below meth c H locs cs ss (lw_Z below #[Value.ref b] s) (F0 m 902 ls []) := by
  have ⟨hst, hx, hb, hr, hml, hown, hts, hG, hX, hbl, hbA, hlocks, hE, hK, hA, hA2, hL9⟩ := hC
  refine lv_aload_n hx hb dL_law_902 rfl (lv_at hl 1 rfl) ?_
  refine lv_aload_n hx hb dL_law_903 rfl (lv_at hl 0 rfl) ?_
  refine lv_iload hx hb dL_law_904 (lv_at hl 4 rfl) ?_
  refine lv_iconst (v := 1) hx hb dL_law_906 (by decide) ?_
  refine lv_iadd hx hb dL_law_907 ?_
  refine va_sld hx hb hX hbl hbA hS.2.2 (hi 1 (by decide) (by decide)) dL_law_908 ?_
  refine lv_aload_n hx hb dL_law_909 rfl (lv_at hl 0 rfl) ?_
  refine lv_iload hx hb dL_law_910 (lv_at hl 4 rfl) ?_
  refine lv_iconst (v := 2) hx hb dL_law_912 (by decide) ?_
  refine lv_iadd hx hb dL_law_913 ?_
  refine va_sld hx hb hX hbl hbA hS.2.2 (hi 2 (by decide) (by decide)) dL_law_914 ?_
  refine lv_aload_n hx hb dL_law_915 rfl (lv_at hl 3 rfl) ?_
  obtain ⟨y9, w9, hF9, hU9⟩ := v_X11_event (N := N) (l1 := (xs (i + 1).toNatClampNeg)) (l2 := (xs (i + 2).toNatClampNeg)) (Nat.le_trans (by decide) hN) hU
  refine lcH (n := 4) (w := w9) hC hS (h_event l hC.1 D kA V Zc N ((xs (i + 1).toNatClampNeg)) ((xs (i + 2).toNatClampNeg)) o f v H.size hF9 (vs_in hU9)) (gw_SW gw_1805 gw_1806 gw_0 gw_1807) (by decide +kernel) (Nat.le_of_ble_eq_true rfl) (Nat.le_of_ble_eq_true rfl) rfl hl.1 (Nat.le_of_ble_eq_true rfl) rfl dL_law_916 (by omega) (by omega) (fun r9 g9 H locs hQ9 hS => ?_)
  have hU : UC w9 := hU9.1
  refine lv_istore (lv' := [(5, .int r9), (0, .ref b), (1, .ref (Zc 200)), (2, .ref (Zr 200)), (3, .ref o), (4, .int i)]) hx hb dL_law_919 hl (by decide) rfl (fun ls hl => ?_)
  refine lv_aload_n hx hb dL_law_921 rfl (lv_at hl 3 rfl) ?_
  refine lv_aload_n hx hb dL_law_922 rfl (lv_at hl 1 rfl) ?_
  refine lv_iload hx hb dL_law_923 (lv_at hl 5 rfl) ?_
  refine lv_iconst (v := 1) hx hb dL_law_925 (by decide) ?_
  refine lv_iadd hx hb dL_law_926 ?_
  refine va_sld hx hb hX hbl hbA hS.2.2 (hi 1 (by decide) (by decide)) dL_law_927 ?_
  refine lv_aload_n hx hb dL_law_928 rfl (lv_at hl 1 rfl) ?_
  refine lv_iload hx hb dL_law_929 (lv_at hl 5 rfl) ?_
  refine lv_iconst (v := 2) hx hb dL_law_931 (by decide) ?_
  refine lv_iadd hx hb dL_law_932 ?_
  refine va_sld hx hb hX hbl hbA hS.2.2 (hi 2 (by decide) (by decide)) dL_law_933 ?_
  obtain ⟨r8, u8, hF8, hB8⟩ : wp (F_event N ((xs (i + 1).toNatClampNeg)) ((xs (i + 2).toNatClampNeg)) u) (fun _ w => UB w) := x_event hB
  refine lcR_l (n := 2) (x := u8) hC hS (k_event l D kA V Zr N ((xs (i + 1).toNatClampNeg)) ((xs (i + 2).toNatClampNeg)) u H.size hF8) (gw_V gw_2732 gw_2733 gw_2734 gw_16 gw_2735) (by decide +kernel) (Nat.le_of_ble_eq_true rfl) (Nat.le_of_ble_eq_true rfl) rfl hl.1 (Nat.le_of_ble_eq_true rfl) rfl dL_law_934 (by omega) (by omega) (fun H locs hS => ?_)
  have hB : UB u8 := hB8
  have hT7 := hT.1.1.1.jd (hT.1.1.1.1.jc (kj_F_X11_event _ _ hF9) (kr_F_event _ _ hF8)) (kt_F_X11_event _ _ hF9) (ku_F_event _ _ hF8)
  have hT8 := hT.1.1.je hT7 (kv_F_X11_event _ _ hF9) (kx_F_event _ _ hF8)
  have hT9 := J9_look hT.1 hT8 (kt_F_X11_event _ _ hF9) (e2_F_X11_event _ _ hF9) (e3_F_X11_event _ _ hF9) (ku_F_event _ _ hF8) (e4_F_event _ _ hF8) (e5_F_event _ _ hF8)
  have hT : J10 N (n + 1) _ u8 := J10_of hT9 (by omega) hT.2 (e4_F_event _ _ hF8)
  refine lv_lstore (lv' := [(6, .long r8), (5, .int r9), (0, .ref b), (1, .ref (Zc 200)), (2, .ref (Zr 200)), (3, .ref o), (4, .int i)]) hx hb dL_law_937 hl (by decide) rfl (fun ls hl => ?_)
  refine lv_goto (tgt := 1344) hx hb dL_law_939 (by decide) ?_
  exact W.widen (by omega) (by omega) (kk _ _ _ _ _ _ hU hB hT hS (lv_sub hl [2, 3, 4, 5, 6] rfl))
set_option maxHeartbeats 4000000 in
set_option maxRecDepth 100000 in
theorem lk_19 {p : Program} {l : Launch} {e : Env} {s : State} {m : MethodId} {below : List Frame} {meth : Method} {c : Code} {b L : Nat} {xs : Nat → Int32} {D : va_G} {kA : Nat → ClassId} {V Zc Zr : Nat → Nat} {A : Nat → Prop} {o N : Nat} {v : CSt} {u : RSt} {f : Nat → Int64} {H : Heap} {locs : List Loc} {ls : Array Slot} {cs ss : Nat} {n : Nat} (hC : lw_C p l s m meth c b L xs D kA V A) {i : Int32} (hi : ∀ j : Int32, 0 ≤ j → j ≤ 7 → vp_in (i + j) L) (hN : 100000000000000 ≤ N) (hn5 : n < 512) (hU : UC v) (hB : UB u) (hT : J10 N n v u) (hS : LSw D kA Zc Zr o A s v u f H locs) (hl : lv_has ls 8 [(0, .ref b), (1, .ref (Zc 200)), (2, .ref (Zr 200)), (3, .ref o), (4, .int i)]) (hcs : cs + 1 ≤ room_1.cells) (hss : ss + 6 ≤ room_1.slots) (kk : ∀ (v : CSt) (u : RSt) (f : Nat → Int64) (H : Heap) (locs : List Loc) (ls : Array Slot), UC v → UB u → J10 N (n + 1) v u → LSw D kA Zc Zr o A s v u f H locs → lv_has ls 8 [(0, .ref b), (1, .ref (Zc 200)), (2, .ref (Zr 200)), (3, .ref o), (4, .int i)] → W p l e room_1 s m #[Value.ref b] below meth c H locs (cs + 1) (ss + 6) (lw_Z below #[Value.ref b] s) (F0 m 1344 ls [])) : W p l e room_1 s m #[Value.ref b] below meth c H locs cs ss (lw_Z below #[Value.ref b] s) (F0 m 942 ls []) := by
  have ⟨hst, hx, hb, hr, hml, hown, hts, hG, hX, hbl, hbA, hlocks, hE, hK, hA, hA2, hL9⟩ := hC
  refine lv_aload_n hx hb dL_law_942 rfl (lv_at hl 1 rfl) ?_
  refine lv_aload_n hx hb dL_law_943 rfl (lv_at hl 0 rfl) ?_
  refine lv_iload hx hb dL_law_944 (lv_at hl 4 rfl) ?_
  refine lv_iconst (v := 1) hx hb dL_law_946 (by decide) ?_
  refine lv_iadd hx hb dL_law_947 ?_
  refine va_sld hx hb hX hbl hbA hS.2.2 (hi 1 (by decide) (by decide)) dL_law_948 ?_
  refine lv_aload_n hx hb dL_law_949 rfl (lv_at hl 3 rfl) ?_
  obtain ⟨y9, w9, hF9, hU9⟩ := v_X11_count (N := N) (l1 := (xs (i + 1).toNatClampNeg)) (Nat.le_trans (by decide) hN) hU
  refine lcH (n := 3) (w := w9) hC hS (h_count l hC.1 D kA V Zc N ((xs (i + 1).toNatClampNeg)) o f v H.size hF9 (vs_in hU9)) (gw_SW gw_1819 gw_1820 gw_0 gw_1821) (by decide +kernel) (Nat.le_of_ble_eq_true rfl) (Nat.le_of_ble_eq_true rfl) rfl hl.1 (Nat.le_of_ble_eq_true rfl) rfl dL_law_950 (by omega) (by omega) (fun r9 g9 H locs hQ9 hS => ?_)
  have hU : UC w9 := hU9.1
  refine lv_istore (lv' := [(5, .int r9), (0, .ref b), (1, .ref (Zc 200)), (2, .ref (Zr 200)), (3, .ref o), (4, .int i)]) hx hb dL_law_953 hl (by decide) rfl (fun ls hl => ?_)
  refine lv_aload_n hx hb dL_law_955 rfl (lv_at hl 3 rfl) ?_
  refine lv_aload_n hx hb dL_law_956 rfl (lv_at hl 1 rfl) ?_
  refine lv_iload hx hb dL_law_957 (lv_at hl 5 rfl) ?_
  refine lv_iconst (v := 1) hx hb dL_law_959 (by decide) ?_
  refine lv_iadd hx hb dL_law_960 ?_
  refine va_sld hx hb hX hbl hbA hS.2.2 (hi 1 (by decide) (by decide)) dL_law_961 ?_
  obtain ⟨r8, u8, hF8, hB8⟩ : wp (F_count N ((xs (i + 1).toNatClampNeg)) u) (fun _ w => UB w) := x_count (Nat.le_trans (by decide) hN) hB
  refine lcR_i (n := 1) (x := u8) hC hS (k_count l D kA V Zr N ((xs (i + 1).toNatClampNeg)) u H.size hF8) (gw_V gw_2736 gw_2737 gw_2738 gw_16 gw_2739) (by decide +kernel) (Nat.le_of_ble_eq_true rfl) (Nat.le_of_ble_eq_true rfl) rfl hl.1 (Nat.le_of_ble_eq_true rfl) rfl dL_law_962 (by omega) (by omega) (fun H locs hS => ?_)
  have hB : UB u8 := hB8
  have hT7 := hT.1.1.1.jd (hT.1.1.1.1.jc (kj_F_X11_count _ _ hF9) (kr_F_count _ _ hF8)) (kt_F_X11_count _ _ hF9) (ku_F_count _ _ hF8)
  have hT8 := hT.1.1.je hT7 (kv_F_X11_count _ _ hF9) (kx_F_count _ _ hF8)
  have hT9 := J9_look hT.1 hT8 (kt_F_X11_count _ _ hF9) (e2_F_X11_count _ _ hF9) (e3_F_X11_count _ _ hF9) (ku_F_count _ _ hF8) (e4_F_count _ _ hF8) (e5_F_count _ _ hF8)
  have hT : J10 N (n + 1) _ u8 := J10_of hT9 (by omega) hT.2 (e4_F_count _ _ hF8)
  refine lv_istore (lv' := [(6, .int r8), (5, .int r9), (0, .ref b), (1, .ref (Zc 200)), (2, .ref (Zr 200)), (3, .ref o), (4, .int i)]) hx hb dL_law_965 hl (by decide) rfl (fun ls hl => ?_)
  refine lv_goto (tgt := 1344) hx hb dL_law_967 (by decide) ?_
  exact W.widen (by omega) (by omega) (kk _ _ _ _ _ _ hU hB hT hS (lv_sub hl [2, 3, 4, 5, 6] rfl))
set_option maxHeartbeats 4000000 in
set_option maxRecDepth 100000 in
theorem lk_20 {p : Program} {l : Launch} {e : Env} {s : State} {m : MethodId} {below : List Frame} {meth : Method} {c : Code} {b L : Nat} {xs : Nat → Int32} {D : va_G} {kA : Nat → ClassId} {V Zc Zr : Nat → Nat} {A : Nat → Prop} {o N : Nat} {v : CSt} {u : RSt} {f : Nat → Int64} {H : Heap} {locs : List Loc} {ls : Array Slot} {cs ss : Nat} {n : Nat} (hC : lw_C p l s m meth c b L xs D kA V A) {i : Int32} (hi : ∀ j : Int32, 0 ≤ j → j ≤ 7 → vp_in (i + j) L) (hN : 100000000000000 ≤ N) (hn5 : n < 512) (hU : UC v) (hB : UB u) (hT : J10 N n v u) (hS : LSw D kA Zc Zr o A s v u f H locs) (hl : lv_has ls 8 [(0, .ref b), (1, .ref (Zc 200)), (2, .ref (Zr 200)), (3, .ref o), (4, .int i)]) (hcs : cs + 1 ≤ room_1.cells) (hss : ss + 6 ≤ room_1.slots) (kk : ∀ (v : CSt) (u : RSt) (f : Nat → Int64) (H : Heap) (locs : List Loc) (ls : Array Slot), UC v → UB u → J10 N (n + 1) v u → LSw D kA Zc Zr o A s v u f H locs → lv_has ls 8 [(0, .ref b), (1, .ref (Zc 200)), (2, .ref (Zr 200)), (3, .ref o), (4, .int i)] → W p l e room_1 s m #[Value.ref b] below meth c H locs (cs + 1) (ss + 6) (lw_Z below #[Value.ref b] s) (F0 m 1344 ls [])) : W p l e room_1 s m #[Value.ref b] below meth c H locs cs ss (lw_Z below #[Value.ref b] s) (F0 m 970 ls []) := by
  have ⟨hst, hx, hb, hr, hml, hown, hts, hG, hX, hbl, hbA, hlocks, hE, hK, hA, hA2, hL9⟩ := hC
  refine lv_aload_n hx hb dL_law_970 rfl (lv_at hl 1 rfl) ?_
  obtain ⟨r9, w9, hF9, hU9⟩ := v_X11_sum (N := N)  (Nat.le_trans (by decide) hN) hU
  refine lcC_l (n := 0) (w := w9) hC hS (k_X11_sum l D kA V Zc N  v H.size hF9) (gw_V gw_1437 gw_1438 gw_1439 gw_1 gw_1440) (by decide +kernel) (Nat.le_of_ble_eq_true rfl) (Nat.le_of_ble_eq_true rfl) rfl hl.1 (Nat.le_of_ble_eq_true rfl) rfl dL_law_971 (by omega) (by omega) (fun H locs hS => ?_)
  have hU : UC w9 := by rw [hU9.1]; exact hU
  refine lv_aload_n hx hb dL_law_974 rfl (lv_at hl 2 rfl) ?_
  obtain ⟨r8, u8, hF8, hB8⟩ : wp (F_sum N  u) (fun _ w => UB w) := x_sum (Nat.le_trans (by decide) hN) hB
  refine lcR_l (n := 0) (x := u8) hC hS (k_sum l D kA V Zr N  u H.size hF8) (gw_V gw_2740 gw_2741 gw_2742 gw_16 gw_2743) (by decide +kernel) (Nat.le_of_ble_eq_true rfl) (Nat.le_of_ble_eq_true rfl) rfl hl.1 (Nat.le_of_ble_eq_true rfl) rfl dL_law_975 (by omega) (by omega) (fun H locs hS => ?_)
  have hB : UB u8 := hB8
  have hT7 := hT.1.1.1.jd (hT.1.1.1.1.jc (kj_F_X11_sum _ _ hF9) (kr_F_sum _ _ hF8)) (kt_F_X11_sum _ _ hF9) (ku_F_sum _ _ hF8)
  have hT8 := hT.1.1.je hT7 (kv_F_X11_sum _ _ hF9) (kx_F_sum _ _ hF8)
  have hE9 := sum_J hT.1 hF9 hF8
  have hT9 := J9_look hT.1 hT8 (kt_F_X11_sum _ _ hF9) (e2_F_X11_sum _ _ hF9) (e3_F_X11_sum _ _ hF9) (ku_F_sum _ _ hF8) (e4_F_sum _ _ hF8) (e5_F_sum _ _ hF8)
  have hT : J10 N (n + 1) _ u8 := J10_of hT9 (by omega) hT.2 (e4_F_sum _ _ hF8)
  refine W.lcmp hx hb dL_law_978 ?_
  refine lv_if_eq (tgt := 1344) hx hb dL_law_979 (by decide) (fun _ => ?_) (fun c8 => absurd ((lg_cmp_eq _ _).mpr hE9.1) c8)
  exact W.widen (by omega) (by omega) (kk _ _ _ _ _ _ hU hB hT hS (lv_sub hl [0, 1, 2, 3, 4] rfl))
set_option maxHeartbeats 4000000 in
set_option maxRecDepth 100000 in
theorem lk_21 {p : Program} {l : Launch} {e : Env} {s : State} {m : MethodId} {below : List Frame} {meth : Method} {c : Code} {b L : Nat} {xs : Nat → Int32} {D : va_G} {kA : Nat → ClassId} {V Zc Zr : Nat → Nat} {A : Nat → Prop} {o N : Nat} {v : CSt} {u : RSt} {f : Nat → Int64} {H : Heap} {locs : List Loc} {ls : Array Slot} {cs ss : Nat} {n : Nat} (hC : lw_C p l s m meth c b L xs D kA V A) {i : Int32} (hi : ∀ j : Int32, 0 ≤ j → j ≤ 7 → vp_in (i + j) L) (hN : 100000000000000 ≤ N) (hn5 : n < 512) (hU : UC v) (hB : UB u) (hT : J10 N n v u) (hS : LSw D kA Zc Zr o A s v u f H locs) (hl : lv_has ls 8 [(0, .ref b), (1, .ref (Zc 200)), (2, .ref (Zr 200)), (3, .ref o), (4, .int i)]) (hcs : cs + 1 ≤ room_1.cells) (hss : ss + 6 ≤ room_1.slots) (kk : ∀ (v : CSt) (u : RSt) (f : Nat → Int64) (H : Heap) (locs : List Loc) (ls : Array Slot), UC v → UB u → J10 N (n + 1) v u → LSw D kA Zc Zr o A s v u f H locs → lv_has ls 8 [(0, .ref b), (1, .ref (Zc 200)), (2, .ref (Zr 200)), (3, .ref o), (4, .int i)] → W p l e room_1 s m #[Value.ref b] below meth c H locs (cs + 1) (ss + 6) (lw_Z below #[Value.ref b] s) (F0 m 1344 ls [])) : W p l e room_1 s m #[Value.ref b] below meth c H locs cs ss (lw_Z below #[Value.ref b] s) (F0 m 984 ls []) := by
  have ⟨hst, hx, hb, hr, hml, hown, hts, hG, hX, hbl, hbA, hlocks, hE, hK, hA, hA2, hL9⟩ := hC
  refine lv_aload_n hx hb dL_law_984 rfl (lv_at hl 1 rfl) ?_
  refine lv_aload_n hx hb dL_law_985 rfl (lv_at hl 0 rfl) ?_
  refine lv_iload hx hb dL_law_986 (lv_at hl 4 rfl) ?_
  refine lv_iconst (v := 1) hx hb dL_law_988 (by decide) ?_
  refine lv_iadd hx hb dL_law_989 ?_
  refine va_sld hx hb hX hbl hbA hS.2.2 (hi 1 (by decide) (by decide)) dL_law_990 ?_
  refine lv_aload_n hx hb dL_law_991 rfl (lv_at hl 0 rfl) ?_
  refine lv_iload hx hb dL_law_992 (lv_at hl 4 rfl) ?_
  refine lv_iconst (v := 2) hx hb dL_law_994 (by decide) ?_
  refine lv_iadd hx hb dL_law_995 ?_
  refine va_sld hx hb hX hbl hbA hS.2.2 (hi 2 (by decide) (by decide)) dL_law_996 ?_
  refine lv_i2l (v := ((xs (i + 2).toNatClampNeg)).toInt64) hx hb dL_law_997 rfl ?_
  refine lv_bipush (v := 32) hx hb dL_law_998 (by decide) ?_
  refine lv_lshl (v := (((xs (i + 2).toNatClampNeg)).toInt64) <<< ((32 : Int32).toInt64 &&& 63)) hx hb dL_law_1000 rfl ?_
  refine lv_aload_n hx hb dL_law_1001 rfl (lv_at hl 0 rfl) ?_
  refine lv_iload hx hb dL_law_1002 (lv_at hl 4 rfl) ?_
  refine lv_iconst (v := 3) hx hb dL_law_1004 (by decide) ?_
  refine lv_iadd hx hb dL_law_1005 ?_
  refine va_sld hx hb hX hbl hbA hS.2.2 (hi 3 (by decide) (by decide)) dL_law_1006 ?_
  refine lv_i2l (v := ((xs (i + 3).toNatClampNeg)).toInt64) hx hb dL_law_1007 rfl ?_
  refine lv_ldc2 (v := 4294967295) hx hb hown (hG _ gw_2760) dL_law_1008 ?_
  refine lv_land hx hb dL_law_1011 ?_
  refine lv_lor hx hb dL_law_1012 ?_
  refine lv_aload_n hx hb dL_law_1013 rfl (lv_at hl 3 rfl) ?_
  obtain ⟨y9, w9, hF9, hU9⟩ := v_X11_cut (N := N) (l1 := (xs (i + 1).toNatClampNeg)) (l2 := (((((xs (i + 2).toNatClampNeg)).toInt64) <<< ((32 : Int32).toInt64 &&& 63)) ||| ((((xs (i + 3).toNatClampNeg)).toInt64) &&& 4294967295))) (Nat.le_trans (by decide) hN) hU
  refine lcH (n := 4) (w := w9) hC hS (h_cut l hC.1 D kA V Zc N ((xs (i + 1).toNatClampNeg)) ((((((xs (i + 2).toNatClampNeg)).toInt64) <<< ((32 : Int32).toInt64 &&& 63)) ||| ((((xs (i + 3).toNatClampNeg)).toInt64) &&& 4294967295))) o f v H.size hF9 (vs_in hU9)) (gw_SW gw_1831 gw_1832 gw_0 gw_1833) (by decide +kernel) (Nat.le_of_ble_eq_true rfl) (Nat.le_of_ble_eq_true rfl) rfl hl.1 (Nat.le_of_ble_eq_true rfl) rfl dL_law_1014 (by omega) (by omega) (fun r9 g9 H locs hQ9 hS => ?_)
  have hU : UC w9 := hU9.1
  refine lv_istore (lv' := [(5, .int r9), (0, .ref b), (1, .ref (Zc 200)), (2, .ref (Zr 200)), (3, .ref o), (4, .int i)]) hx hb dL_law_1017 hl (by decide) rfl (fun ls hl => ?_)
  refine lv_aload_n hx hb dL_law_1019 rfl (lv_at hl 3 rfl) ?_
  refine lv_aload_n hx hb dL_law_1020 rfl (lv_at hl 1 rfl) ?_
  refine lv_iload hx hb dL_law_1021 (lv_at hl 5 rfl) ?_
  refine lv_iconst (v := 1) hx hb dL_law_1023 (by decide) ?_
  refine lv_iadd hx hb dL_law_1024 ?_
  refine va_sld hx hb hX hbl hbA hS.2.2 (hi 1 (by decide) (by decide)) dL_law_1025 ?_
  refine lv_aload_n hx hb dL_law_1026 rfl (lv_at hl 1 rfl) ?_
  refine lv_iload hx hb dL_law_1027 (lv_at hl 5 rfl) ?_
  refine lv_iconst (v := 2) hx hb dL_law_1029 (by decide) ?_
  refine lv_iadd hx hb dL_law_1030 ?_
  refine va_sld hx hb hX hbl hbA hS.2.2 (hi 2 (by decide) (by decide)) dL_law_1031 ?_
  refine lv_i2l (v := ((xs (i + 2).toNatClampNeg)).toInt64) hx hb dL_law_1032 rfl ?_
  refine lv_bipush (v := 32) hx hb dL_law_1033 (by decide) ?_
  refine lv_lshl (v := (((xs (i + 2).toNatClampNeg)).toInt64) <<< ((32 : Int32).toInt64 &&& 63)) hx hb dL_law_1035 rfl ?_
  refine lv_aload_n hx hb dL_law_1036 rfl (lv_at hl 1 rfl) ?_
  refine lv_iload hx hb dL_law_1037 (lv_at hl 5 rfl) ?_
  refine lv_iconst (v := 3) hx hb dL_law_1039 (by decide) ?_
  refine lv_iadd hx hb dL_law_1040 ?_
  refine va_sld hx hb hX hbl hbA hS.2.2 (hi 3 (by decide) (by decide)) dL_law_1041 ?_
  refine lv_i2l (v := ((xs (i + 3).toNatClampNeg)).toInt64) hx hb dL_law_1042 rfl ?_
  refine lv_ldc2 (v := 4294967295) hx hb hown (hG _ gw_2760) dL_law_1043 ?_
  refine lv_land hx hb dL_law_1046 ?_
  refine lv_lor hx hb dL_law_1047 ?_
  obtain ⟨r8, u8, hF8, hB8⟩ : wp (F_cut N ((xs (i + 1).toNatClampNeg)) ((((((xs (i + 2).toNatClampNeg)).toInt64) <<< ((32 : Int32).toInt64 &&& 63)) ||| ((((xs (i + 3).toNatClampNeg)).toInt64) &&& 4294967295))) u) (fun _ w => UB w) := x_cut hB
  refine lcR_l (n := 2) (x := u8) hC hS (k_cut l D kA V Zr N ((xs (i + 1).toNatClampNeg)) ((((((xs (i + 2).toNatClampNeg)).toInt64) <<< ((32 : Int32).toInt64 &&& 63)) ||| ((((xs (i + 3).toNatClampNeg)).toInt64) &&& 4294967295))) u H.size hF8) (gw_V gw_2744 gw_2745 gw_2746 gw_16 gw_2747) (by decide +kernel) (Nat.le_of_ble_eq_true rfl) (Nat.le_of_ble_eq_true rfl) rfl hl.1 (Nat.le_of_ble_eq_true rfl) rfl dL_law_1048 (by omega) (by omega) (fun H locs hS => ?_)
  have hB : UB u8 := hB8
  have hT7 := hT.1.1.1.jd (hT.1.1.1.1.jc (kj_F_X11_cut _ _ hF9) (kr_F_cut _ _ hF8)) (kt_F_X11_cut _ _ hF9) (ku_F_cut _ _ hF8)
  have hT8 := hT.1.1.je hT7 (kv_F_X11_cut _ _ hF9) (kx_F_cut _ _ hF8)
  have hT9 := J9_look hT.1 hT8 (kt_F_X11_cut _ _ hF9) (e2_F_X11_cut _ _ hF9) (e3_F_X11_cut _ _ hF9) (ku_F_cut _ _ hF8) (e4_F_cut _ _ hF8) (e5_F_cut _ _ hF8)
  have hT : J10 N (n + 1) _ u8 := J10_of hT9 (by omega) hT.2 (e4_F_cut _ _ hF8)
  refine lv_lstore (lv' := [(6, .long r8), (5, .int r9), (0, .ref b), (1, .ref (Zc 200)), (2, .ref (Zr 200)), (3, .ref o), (4, .int i)]) hx hb dL_law_1051 hl (by decide) rfl (fun ls hl => ?_)
  refine lv_goto (tgt := 1344) hx hb dL_law_1053 (by decide) ?_
  exact W.widen (by omega) (by omega) (kk _ _ _ _ _ _ hU hB hT hS (lv_sub hl [2, 3, 4, 5, 6] rfl))
set_option maxHeartbeats 4000000 in
set_option maxRecDepth 100000 in
theorem lk_22 {p : Program} {l : Launch} {e : Env} {s : State} {m : MethodId} {below : List Frame} {meth : Method} {c : Code} {b L : Nat} {xs : Nat → Int32} {D : va_G} {kA : Nat → ClassId} {V Zc Zr : Nat → Nat} {A : Nat → Prop} {o N : Nat} {v : CSt} {u : RSt} {f : Nat → Int64} {H : Heap} {locs : List Loc} {ls : Array Slot} {cs ss : Nat} {n : Nat} (hC : lw_C p l s m meth c b L xs D kA V A) {i : Int32} (hi : ∀ j : Int32, 0 ≤ j → j ≤ 7 → vp_in (i + j) L) (hN : 100000000000000 ≤ N) (hn5 : n < 512) (hU : UC v) (hB : UB u) (hT : J10 N n v u) (hS : LSw D kA Zc Zr o A s v u f H locs) (hl : lv_has ls 8 [(0, .ref b), (1, .ref (Zc 200)), (2, .ref (Zr 200)), (3, .ref o), (4, .int i)]) (hcs : cs + 1 ≤ room_1.cells) (hss : ss + 6 ≤ room_1.slots) (kk : ∀ (v : CSt) (u : RSt) (f : Nat → Int64) (H : Heap) (locs : List Loc) (ls : Array Slot), UC v → UB u → J10 N (n + 1) v u → LSw D kA Zc Zr o A s v u f H locs → lv_has ls 8 [(0, .ref b), (1, .ref (Zc 200)), (2, .ref (Zr 200)), (3, .ref o), (4, .int i)] → W p l e room_1 s m #[Value.ref b] below meth c H locs (cs + 1) (ss + 6) (lw_Z below #[Value.ref b] s) (F0 m 1344 ls [])) : W p l e room_1 s m #[Value.ref b] below meth c H locs cs ss (lw_Z below #[Value.ref b] s) (F0 m 1056 ls []) := by
  have ⟨hst, hx, hb, hr, hml, hown, hts, hG, hX, hbl, hbA, hlocks, hE, hK, hA, hA2, hL9⟩ := hC
  refine lv_aload_n hx hb dL_law_1056 rfl (lv_at hl 1 rfl) ?_
  refine lv_aload_n hx hb dL_law_1057 rfl (lv_at hl 0 rfl) ?_
  refine lv_iload hx hb dL_law_1058 (lv_at hl 4 rfl) ?_
  refine lv_iconst (v := 1) hx hb dL_law_1060 (by decide) ?_
  refine lv_iadd hx hb dL_law_1061 ?_
  refine va_sld hx hb hX hbl hbA hS.2.2 (hi 1 (by decide) (by decide)) dL_law_1062 ?_
  refine lv_aload_n hx hb dL_law_1063 rfl (lv_at hl 0 rfl) ?_
  refine lv_iload hx hb dL_law_1064 (lv_at hl 4 rfl) ?_
  refine lv_iconst (v := 2) hx hb dL_law_1066 (by decide) ?_
  refine lv_iadd hx hb dL_law_1067 ?_
  refine va_sld hx hb hX hbl hbA hS.2.2 (hi 2 (by decide) (by decide)) dL_law_1068 ?_
  refine lv_aload_n hx hb dL_law_1069 rfl (lv_at hl 0 rfl) ?_
  refine lv_iload hx hb dL_law_1070 (lv_at hl 4 rfl) ?_
  refine lv_iconst (v := 3) hx hb dL_law_1072 (by decide) ?_
  refine lv_iadd hx hb dL_law_1073 ?_
  refine va_sld hx hb hX hbl hbA hS.2.2 (hi 3 (by decide) (by decide)) dL_law_1074 ?_
  refine lv_aload_n hx hb dL_law_1075 rfl (lv_at hl 0 rfl) ?_
  refine lv_iload hx hb dL_law_1076 (lv_at hl 4 rfl) ?_
  refine lv_iconst (v := 4) hx hb dL_law_1078 (by decide) ?_
  refine lv_iadd hx hb dL_law_1079 ?_
  refine va_sld hx hb hX hbl hbA hS.2.2 (hi 4 (by decide) (by decide)) dL_law_1080 ?_
  refine lv_i2l (v := ((xs (i + 4).toNatClampNeg)).toInt64) hx hb dL_law_1081 rfl ?_
  refine lv_bipush (v := 32) hx hb dL_law_1082 (by decide) ?_
  refine lv_lshl (v := (((xs (i + 4).toNatClampNeg)).toInt64) <<< ((32 : Int32).toInt64 &&& 63)) hx hb dL_law_1084 rfl ?_
  refine lv_aload_n hx hb dL_law_1085 rfl (lv_at hl 0 rfl) ?_
  refine lv_iload hx hb dL_law_1086 (lv_at hl 4 rfl) ?_
  refine lv_iconst (v := 5) hx hb dL_law_1088 (by decide) ?_
  refine lv_iadd hx hb dL_law_1089 ?_
  refine va_sld hx hb hX hbl hbA hS.2.2 (hi 5 (by decide) (by decide)) dL_law_1090 ?_
  refine lv_i2l (v := ((xs (i + 5).toNatClampNeg)).toInt64) hx hb dL_law_1091 rfl ?_
  refine lv_ldc2 (v := 4294967295) hx hb hown (hG _ gw_2760) dL_law_1092 ?_
  refine lv_land hx hb dL_law_1095 ?_
  refine lv_lor hx hb dL_law_1096 ?_
  refine lv_aload_n hx hb dL_law_1097 rfl (lv_at hl 0 rfl) ?_
  refine lv_iload hx hb dL_law_1098 (lv_at hl 4 rfl) ?_
  refine lv_bipush (v := 6) hx hb dL_law_1100 (by decide) ?_
  refine lv_iadd hx hb dL_law_1102 ?_
  refine va_sld hx hb hX hbl hbA hS.2.2 (hi 6 (by decide) (by decide)) dL_law_1103 ?_
  refine lv_i2l (v := ((xs (i + 6).toNatClampNeg)).toInt64) hx hb dL_law_1104 rfl ?_
  refine lv_bipush (v := 32) hx hb dL_law_1105 (by decide) ?_
  refine lv_lshl (v := (((xs (i + 6).toNatClampNeg)).toInt64) <<< ((32 : Int32).toInt64 &&& 63)) hx hb dL_law_1107 rfl ?_
  refine lv_aload_n hx hb dL_law_1108 rfl (lv_at hl 0 rfl) ?_
  refine lv_iload hx hb dL_law_1109 (lv_at hl 4 rfl) ?_
  refine lv_bipush (v := 7) hx hb dL_law_1111 (by decide) ?_
  refine lv_iadd hx hb dL_law_1113 ?_
  refine va_sld hx hb hX hbl hbA hS.2.2 (hi 7 (by decide) (by decide)) dL_law_1114 ?_
  refine lv_i2l (v := ((xs (i + 7).toNatClampNeg)).toInt64) hx hb dL_law_1115 rfl ?_
  refine lv_ldc2 (v := 4294967295) hx hb hown (hG _ gw_2760) dL_law_1116 ?_
  refine lv_land hx hb dL_law_1119 ?_
  refine lv_lor hx hb dL_law_1120 ?_
  refine lv_aload_n hx hb dL_law_1121 rfl (lv_at hl 3 rfl) ?_
  obtain ⟨y9, w9, hF9, hU9⟩ := v_X11_work (N := N) (l1 := (xs (i + 1).toNatClampNeg)) (l2 := (xs (i + 2).toNatClampNeg)) (l3 := (xs (i + 3).toNatClampNeg)) (l4 := (((((xs (i + 4).toNatClampNeg)).toInt64) <<< ((32 : Int32).toInt64 &&& 63)) ||| ((((xs (i + 5).toNatClampNeg)).toInt64) &&& 4294967295))) (l6 := (((((xs (i + 6).toNatClampNeg)).toInt64) <<< ((32 : Int32).toInt64 &&& 63)) ||| ((((xs (i + 7).toNatClampNeg)).toInt64) &&& 4294967295))) (Nat.le_trans (by decide) hN) hU
  refine lcH (n := 7) (w := w9) hC hS (h_work l hC.1 D kA V Zc N ((xs (i + 1).toNatClampNeg)) ((xs (i + 2).toNatClampNeg)) ((xs (i + 3).toNatClampNeg)) ((((((xs (i + 4).toNatClampNeg)).toInt64) <<< ((32 : Int32).toInt64 &&& 63)) ||| ((((xs (i + 5).toNatClampNeg)).toInt64) &&& 4294967295))) ((((((xs (i + 6).toNatClampNeg)).toInt64) <<< ((32 : Int32).toInt64 &&& 63)) ||| ((((xs (i + 7).toNatClampNeg)).toInt64) &&& 4294967295))) o f v H.size hF9 (vs_in hU9)) (gw_SW gw_1843 gw_1844 gw_0 gw_1845) (by decide +kernel) (Nat.le_of_ble_eq_true rfl) (Nat.le_of_ble_eq_true rfl) rfl hl.1 (Nat.le_of_ble_eq_true rfl) rfl dL_law_1122 (by omega) (by omega) (fun r9 g9 H locs hQ9 hS => ?_)
  have hU : UC w9 := hU9.1
  refine lv_istore (lv' := [(5, .int r9), (0, .ref b), (1, .ref (Zc 200)), (2, .ref (Zr 200)), (3, .ref o), (4, .int i)]) hx hb dL_law_1125 hl (by decide) rfl (fun ls hl => ?_)
  refine lv_aload_n hx hb dL_law_1127 rfl (lv_at hl 3 rfl) ?_
  refine lv_aload_n hx hb dL_law_1128 rfl (lv_at hl 1 rfl) ?_
  refine lv_iload hx hb dL_law_1129 (lv_at hl 5 rfl) ?_
  refine lv_iconst (v := 1) hx hb dL_law_1131 (by decide) ?_
  refine lv_iadd hx hb dL_law_1132 ?_
  refine va_sld hx hb hX hbl hbA hS.2.2 (hi 1 (by decide) (by decide)) dL_law_1133 ?_
  refine lv_aload_n hx hb dL_law_1134 rfl (lv_at hl 1 rfl) ?_
  refine lv_iload hx hb dL_law_1135 (lv_at hl 5 rfl) ?_
  refine lv_iconst (v := 2) hx hb dL_law_1137 (by decide) ?_
  refine lv_iadd hx hb dL_law_1138 ?_
  refine va_sld hx hb hX hbl hbA hS.2.2 (hi 2 (by decide) (by decide)) dL_law_1139 ?_
  refine lv_aload_n hx hb dL_law_1140 rfl (lv_at hl 1 rfl) ?_
  refine lv_iload hx hb dL_law_1141 (lv_at hl 5 rfl) ?_
  refine lv_iconst (v := 3) hx hb dL_law_1143 (by decide) ?_
  refine lv_iadd hx hb dL_law_1144 ?_
  refine va_sld hx hb hX hbl hbA hS.2.2 (hi 3 (by decide) (by decide)) dL_law_1145 ?_
  refine lv_aload_n hx hb dL_law_1146 rfl (lv_at hl 1 rfl) ?_
  refine lv_iload hx hb dL_law_1147 (lv_at hl 5 rfl) ?_
  refine lv_iconst (v := 4) hx hb dL_law_1149 (by decide) ?_
  refine lv_iadd hx hb dL_law_1150 ?_
  refine va_sld hx hb hX hbl hbA hS.2.2 (hi 4 (by decide) (by decide)) dL_law_1151 ?_
  refine lv_i2l (v := ((xs (i + 4).toNatClampNeg)).toInt64) hx hb dL_law_1152 rfl ?_
  refine lv_bipush (v := 32) hx hb dL_law_1153 (by decide) ?_
  refine lv_lshl (v := (((xs (i + 4).toNatClampNeg)).toInt64) <<< ((32 : Int32).toInt64 &&& 63)) hx hb dL_law_1155 rfl ?_
  refine lv_aload_n hx hb dL_law_1156 rfl (lv_at hl 1 rfl) ?_
  refine lv_iload hx hb dL_law_1157 (lv_at hl 5 rfl) ?_
  refine lv_iconst (v := 5) hx hb dL_law_1159 (by decide) ?_
  refine lv_iadd hx hb dL_law_1160 ?_
  refine va_sld hx hb hX hbl hbA hS.2.2 (hi 5 (by decide) (by decide)) dL_law_1161 ?_
  refine lv_i2l (v := ((xs (i + 5).toNatClampNeg)).toInt64) hx hb dL_law_1162 rfl ?_
  refine lv_ldc2 (v := 4294967295) hx hb hown (hG _ gw_2760) dL_law_1163 ?_
  refine lv_land hx hb dL_law_1166 ?_
  refine lv_lor hx hb dL_law_1167 ?_
  refine lv_aload_n hx hb dL_law_1168 rfl (lv_at hl 1 rfl) ?_
  refine lv_iload hx hb dL_law_1169 (lv_at hl 5 rfl) ?_
  refine lv_bipush (v := 6) hx hb dL_law_1171 (by decide) ?_
  refine lv_iadd hx hb dL_law_1173 ?_
  refine va_sld hx hb hX hbl hbA hS.2.2 (hi 6 (by decide) (by decide)) dL_law_1174 ?_
  refine lv_i2l (v := ((xs (i + 6).toNatClampNeg)).toInt64) hx hb dL_law_1175 rfl ?_
  refine lv_bipush (v := 32) hx hb dL_law_1176 (by decide) ?_
  refine lv_lshl (v := (((xs (i + 6).toNatClampNeg)).toInt64) <<< ((32 : Int32).toInt64 &&& 63)) hx hb dL_law_1178 rfl ?_
  refine lv_aload_n hx hb dL_law_1179 rfl (lv_at hl 1 rfl) ?_
  refine lv_iload hx hb dL_law_1180 (lv_at hl 5 rfl) ?_
  refine lv_bipush (v := 7) hx hb dL_law_1182 (by decide) ?_
  refine lv_iadd hx hb dL_law_1184 ?_
  refine va_sld hx hb hX hbl hbA hS.2.2 (hi 7 (by decide) (by decide)) dL_law_1185 ?_
  refine lv_i2l (v := ((xs (i + 7).toNatClampNeg)).toInt64) hx hb dL_law_1186 rfl ?_
  refine lv_ldc2 (v := 4294967295) hx hb hown (hG _ gw_2760) dL_law_1187 ?_
  refine lv_land hx hb dL_law_1190 ?_
  refine lv_lor hx hb dL_law_1191 ?_
  obtain ⟨r8, u8, hF8, hB8⟩ : wp (F_work N ((xs (i + 1).toNatClampNeg)) ((xs (i + 2).toNatClampNeg)) ((xs (i + 3).toNatClampNeg)) ((((((xs (i + 4).toNatClampNeg)).toInt64) <<< ((32 : Int32).toInt64 &&& 63)) ||| ((((xs (i + 5).toNatClampNeg)).toInt64) &&& 4294967295))) ((((((xs (i + 6).toNatClampNeg)).toInt64) <<< ((32 : Int32).toInt64 &&& 63)) ||| ((((xs (i + 7).toNatClampNeg)).toInt64) &&& 4294967295))) u) (fun _ w => UB w) := x_work hB
  refine lcR_l (n := 5) (x := u8) hC hS (k_work l D kA V Zr N ((xs (i + 1).toNatClampNeg)) ((xs (i + 2).toNatClampNeg)) ((xs (i + 3).toNatClampNeg)) ((((((xs (i + 4).toNatClampNeg)).toInt64) <<< ((32 : Int32).toInt64 &&& 63)) ||| ((((xs (i + 5).toNatClampNeg)).toInt64) &&& 4294967295))) ((((((xs (i + 6).toNatClampNeg)).toInt64) <<< ((32 : Int32).toInt64 &&& 63)) ||| ((((xs (i + 7).toNatClampNeg)).toInt64) &&& 4294967295))) u H.size hF8) (gw_V gw_2752 gw_2753 gw_2754 gw_16 gw_2755) (by decide +kernel) (Nat.le_of_ble_eq_true rfl) (Nat.le_of_ble_eq_true rfl) rfl hl.1 (Nat.le_of_ble_eq_true rfl) rfl dL_law_1192 (by omega) (by omega) (fun H locs hS => ?_)
  have hB : UB u8 := hB8
  have hT7 := hT.1.1.1.jd (hT.1.1.1.1.jc (kj_F_X11_work _ _ hF9) (kr_F_work _ _ hF8)) (kt_F_X11_work _ _ hF9) (ku_F_work _ _ hF8)
  have hT8 := hT.1.1.je hT7 (kv_F_X11_work _ _ hF9) (kx_F_work _ _ hF8)
  have hT9 := J9_look hT.1 hT8 (kt_F_X11_work _ _ hF9) (e2_F_X11_work _ _ hF9) (e3_F_X11_work _ _ hF9) (ku_F_work _ _ hF8) (e4_F_work _ _ hF8) (e5_F_work _ _ hF8)
  have hT : J10 N (n + 1) _ u8 := J10_of hT9 (by omega) hT.2 (e4_F_work _ _ hF8)
  refine lv_lstore (lv' := [(6, .long r8), (5, .int r9), (0, .ref b), (1, .ref (Zc 200)), (2, .ref (Zr 200)), (3, .ref o), (4, .int i)]) hx hb dL_law_1195 hl (by decide) rfl (fun ls hl => ?_)
  refine lv_goto (tgt := 1344) hx hb dL_law_1197 (by decide) ?_
  exact W.widen (by omega) (by omega) (kk _ _ _ _ _ _ hU hB hT hS (lv_sub hl [2, 3, 4, 5, 6] rfl))
set_option maxHeartbeats 4000000 in
set_option maxRecDepth 100000 in
theorem lk_23 {p : Program} {l : Launch} {e : Env} {s : State} {m : MethodId} {below : List Frame} {meth : Method} {c : Code} {b L : Nat} {xs : Nat → Int32} {D : va_G} {kA : Nat → ClassId} {V Zc Zr : Nat → Nat} {A : Nat → Prop} {o N : Nat} {v : CSt} {u : RSt} {f : Nat → Int64} {H : Heap} {locs : List Loc} {ls : Array Slot} {cs ss : Nat} {n : Nat} (hC : lw_C p l s m meth c b L xs D kA V A) {i : Int32} (hi : ∀ j : Int32, 0 ≤ j → j ≤ 7 → vp_in (i + j) L) (hN : 100000000000000 ≤ N) (hn5 : n < 512) (hU : UC v) (hB : UB u) (hT : J10 N n v u) (hS : LSw D kA Zc Zr o A s v u f H locs) (hl : lv_has ls 8 [(0, .ref b), (1, .ref (Zc 200)), (2, .ref (Zr 200)), (3, .ref o), (4, .int i)]) (hcs : cs + 1 ≤ room_1.cells) (hss : ss + 6 ≤ room_1.slots) (kk : ∀ (v : CSt) (u : RSt) (f : Nat → Int64) (H : Heap) (locs : List Loc) (ls : Array Slot), UC v → UB u → J10 N (n + 1) v u → LSw D kA Zc Zr o A s v u f H locs → lv_has ls 8 [(0, .ref b), (1, .ref (Zc 200)), (2, .ref (Zr 200)), (3, .ref o), (4, .int i)] → W p l e room_1 s m #[Value.ref b] below meth c H locs (cs + 1) (ss + 6) (lw_Z below #[Value.ref b] s) (F0 m 1344 ls [])) : W p l e room_1 s m #[Value.ref b] below meth c H locs cs ss (lw_Z below #[Value.ref b] s) (F0 m 1200 ls []) := by
  have ⟨hst, hx, hb, hr, hml, hown, hts, hG, hX, hbl, hbA, hlocks, hE, hK, hA, hA2, hL9⟩ := hC
  refine lv_aload_n hx hb dL_law_1200 rfl (lv_at hl 1 rfl) ?_
  refine lv_aload_n hx hb dL_law_1201 rfl (lv_at hl 0 rfl) ?_
  refine lv_iload hx hb dL_law_1202 (lv_at hl 4 rfl) ?_
  refine lv_iconst (v := 1) hx hb dL_law_1204 (by decide) ?_
  refine lv_iadd hx hb dL_law_1205 ?_
  refine va_sld hx hb hX hbl hbA hS.2.2 (hi 1 (by decide) (by decide)) dL_law_1206 ?_
  refine lv_aload_n hx hb dL_law_1207 rfl (lv_at hl 0 rfl) ?_
  refine lv_iload hx hb dL_law_1208 (lv_at hl 4 rfl) ?_
  refine lv_iconst (v := 2) hx hb dL_law_1210 (by decide) ?_
  refine lv_iadd hx hb dL_law_1211 ?_
  refine va_sld hx hb hX hbl hbA hS.2.2 (hi 2 (by decide) (by decide)) dL_law_1212 ?_
  refine lv_aload_n hx hb dL_law_1213 rfl (lv_at hl 0 rfl) ?_
  refine lv_iload hx hb dL_law_1214 (lv_at hl 4 rfl) ?_
  refine lv_iconst (v := 3) hx hb dL_law_1216 (by decide) ?_
  refine lv_iadd hx hb dL_law_1217 ?_
  refine va_sld hx hb hX hbl hbA hS.2.2 (hi 3 (by decide) (by decide)) dL_law_1218 ?_
  refine lv_aload_n hx hb dL_law_1219 rfl (lv_at hl 0 rfl) ?_
  refine lv_iload hx hb dL_law_1220 (lv_at hl 4 rfl) ?_
  refine lv_iconst (v := 4) hx hb dL_law_1222 (by decide) ?_
  refine lv_iadd hx hb dL_law_1223 ?_
  refine va_sld hx hb hX hbl hbA hS.2.2 (hi 4 (by decide) (by decide)) dL_law_1224 ?_
  refine lv_i2l (v := ((xs (i + 4).toNatClampNeg)).toInt64) hx hb dL_law_1225 rfl ?_
  refine lv_bipush (v := 32) hx hb dL_law_1226 (by decide) ?_
  refine lv_lshl (v := (((xs (i + 4).toNatClampNeg)).toInt64) <<< ((32 : Int32).toInt64 &&& 63)) hx hb dL_law_1228 rfl ?_
  refine lv_aload_n hx hb dL_law_1229 rfl (lv_at hl 0 rfl) ?_
  refine lv_iload hx hb dL_law_1230 (lv_at hl 4 rfl) ?_
  refine lv_iconst (v := 5) hx hb dL_law_1232 (by decide) ?_
  refine lv_iadd hx hb dL_law_1233 ?_
  refine va_sld hx hb hX hbl hbA hS.2.2 (hi 5 (by decide) (by decide)) dL_law_1234 ?_
  refine lv_i2l (v := ((xs (i + 5).toNatClampNeg)).toInt64) hx hb dL_law_1235 rfl ?_
  refine lv_ldc2 (v := 4294967295) hx hb hown (hG _ gw_2760) dL_law_1236 ?_
  refine lv_land hx hb dL_law_1239 ?_
  refine lv_lor hx hb dL_law_1240 ?_
  refine lv_aload_n hx hb dL_law_1241 rfl (lv_at hl 0 rfl) ?_
  refine lv_iload hx hb dL_law_1242 (lv_at hl 4 rfl) ?_
  refine lv_bipush (v := 6) hx hb dL_law_1244 (by decide) ?_
  refine lv_iadd hx hb dL_law_1246 ?_
  refine va_sld hx hb hX hbl hbA hS.2.2 (hi 6 (by decide) (by decide)) dL_law_1247 ?_
  refine lv_i2l (v := ((xs (i + 6).toNatClampNeg)).toInt64) hx hb dL_law_1248 rfl ?_
  refine lv_bipush (v := 32) hx hb dL_law_1249 (by decide) ?_
  refine lv_lshl (v := (((xs (i + 6).toNatClampNeg)).toInt64) <<< ((32 : Int32).toInt64 &&& 63)) hx hb dL_law_1251 rfl ?_
  refine lv_aload_n hx hb dL_law_1252 rfl (lv_at hl 0 rfl) ?_
  refine lv_iload hx hb dL_law_1253 (lv_at hl 4 rfl) ?_
  refine lv_bipush (v := 7) hx hb dL_law_1255 (by decide) ?_
  refine lv_iadd hx hb dL_law_1257 ?_
  refine va_sld hx hb hX hbl hbA hS.2.2 (hi 7 (by decide) (by decide)) dL_law_1258 ?_
  refine lv_i2l (v := ((xs (i + 7).toNatClampNeg)).toInt64) hx hb dL_law_1259 rfl ?_
  refine lv_ldc2 (v := 4294967295) hx hb hown (hG _ gw_2760) dL_law_1260 ?_
  refine lv_land hx hb dL_law_1263 ?_
  refine lv_lor hx hb dL_law_1264 ?_
  refine lv_aload_n hx hb dL_law_1265 rfl (lv_at hl 3 rfl) ?_
  obtain ⟨y9, w9, hF9, hU9⟩ := v_X11_tell (N := N) (l1 := (xs (i + 1).toNatClampNeg)) (l2 := (xs (i + 2).toNatClampNeg)) (l3 := (xs (i + 3).toNatClampNeg)) (l4 := (((((xs (i + 4).toNatClampNeg)).toInt64) <<< ((32 : Int32).toInt64 &&& 63)) ||| ((((xs (i + 5).toNatClampNeg)).toInt64) &&& 4294967295))) (l6 := (((((xs (i + 6).toNatClampNeg)).toInt64) <<< ((32 : Int32).toInt64 &&& 63)) ||| ((((xs (i + 7).toNatClampNeg)).toInt64) &&& 4294967295))) (Nat.le_trans (by decide) hN) hU
  refine lcH (n := 7) (w := w9) hC hS (h_tell l hC.1 D kA V Zc N ((xs (i + 1).toNatClampNeg)) ((xs (i + 2).toNatClampNeg)) ((xs (i + 3).toNatClampNeg)) ((((((xs (i + 4).toNatClampNeg)).toInt64) <<< ((32 : Int32).toInt64 &&& 63)) ||| ((((xs (i + 5).toNatClampNeg)).toInt64) &&& 4294967295))) ((((((xs (i + 6).toNatClampNeg)).toInt64) <<< ((32 : Int32).toInt64 &&& 63)) ||| ((((xs (i + 7).toNatClampNeg)).toInt64) &&& 4294967295))) o f v H.size hF9 (vs_in hU9)) (gw_SW gw_1871 gw_1872 gw_0 gw_1873) (by decide +kernel) (Nat.le_of_ble_eq_true rfl) (Nat.le_of_ble_eq_true rfl) rfl hl.1 (Nat.le_of_ble_eq_true rfl) rfl dL_law_1266 (by omega) (by omega) (fun r9 g9 H locs hQ9 hS => ?_)
  have hU : UC w9 := hU9.1
  refine lv_istore (lv' := [(5, .int r9), (0, .ref b), (1, .ref (Zc 200)), (2, .ref (Zr 200)), (3, .ref o), (4, .int i)]) hx hb dL_law_1269 hl (by decide) rfl (fun ls hl => ?_)
  refine lv_aload_n hx hb dL_law_1271 rfl (lv_at hl 3 rfl) ?_
  refine lv_aload_n hx hb dL_law_1272 rfl (lv_at hl 1 rfl) ?_
  refine lv_iload hx hb dL_law_1273 (lv_at hl 5 rfl) ?_
  refine lv_iconst (v := 1) hx hb dL_law_1275 (by decide) ?_
  refine lv_iadd hx hb dL_law_1276 ?_
  refine va_sld hx hb hX hbl hbA hS.2.2 (hi 1 (by decide) (by decide)) dL_law_1277 ?_
  refine lv_aload_n hx hb dL_law_1278 rfl (lv_at hl 1 rfl) ?_
  refine lv_iload hx hb dL_law_1279 (lv_at hl 5 rfl) ?_
  refine lv_iconst (v := 2) hx hb dL_law_1281 (by decide) ?_
  refine lv_iadd hx hb dL_law_1282 ?_
  refine va_sld hx hb hX hbl hbA hS.2.2 (hi 2 (by decide) (by decide)) dL_law_1283 ?_
  refine lv_aload_n hx hb dL_law_1284 rfl (lv_at hl 1 rfl) ?_
  refine lv_iload hx hb dL_law_1285 (lv_at hl 5 rfl) ?_
  refine lv_iconst (v := 3) hx hb dL_law_1287 (by decide) ?_
  refine lv_iadd hx hb dL_law_1288 ?_
  refine va_sld hx hb hX hbl hbA hS.2.2 (hi 3 (by decide) (by decide)) dL_law_1289 ?_
  refine lv_aload_n hx hb dL_law_1290 rfl (lv_at hl 1 rfl) ?_
  refine lv_iload hx hb dL_law_1291 (lv_at hl 5 rfl) ?_
  refine lv_iconst (v := 4) hx hb dL_law_1293 (by decide) ?_
  refine lv_iadd hx hb dL_law_1294 ?_
  refine va_sld hx hb hX hbl hbA hS.2.2 (hi 4 (by decide) (by decide)) dL_law_1295 ?_
  refine lv_i2l (v := ((xs (i + 4).toNatClampNeg)).toInt64) hx hb dL_law_1296 rfl ?_
  refine lv_bipush (v := 32) hx hb dL_law_1297 (by decide) ?_
  refine lv_lshl (v := (((xs (i + 4).toNatClampNeg)).toInt64) <<< ((32 : Int32).toInt64 &&& 63)) hx hb dL_law_1299 rfl ?_
  refine lv_aload_n hx hb dL_law_1300 rfl (lv_at hl 1 rfl) ?_
  refine lv_iload hx hb dL_law_1301 (lv_at hl 5 rfl) ?_
  refine lv_iconst (v := 5) hx hb dL_law_1303 (by decide) ?_
  refine lv_iadd hx hb dL_law_1304 ?_
  refine va_sld hx hb hX hbl hbA hS.2.2 (hi 5 (by decide) (by decide)) dL_law_1305 ?_
  refine lv_i2l (v := ((xs (i + 5).toNatClampNeg)).toInt64) hx hb dL_law_1306 rfl ?_
  refine lv_ldc2 (v := 4294967295) hx hb hown (hG _ gw_2760) dL_law_1307 ?_
  refine lv_land hx hb dL_law_1310 ?_
  refine lv_lor hx hb dL_law_1311 ?_
  refine lv_aload_n hx hb dL_law_1312 rfl (lv_at hl 1 rfl) ?_
  refine lv_iload hx hb dL_law_1313 (lv_at hl 5 rfl) ?_
  refine lv_bipush (v := 6) hx hb dL_law_1315 (by decide) ?_
  refine lv_iadd hx hb dL_law_1317 ?_
  refine va_sld hx hb hX hbl hbA hS.2.2 (hi 6 (by decide) (by decide)) dL_law_1318 ?_
  refine lv_i2l (v := ((xs (i + 6).toNatClampNeg)).toInt64) hx hb dL_law_1319 rfl ?_
  refine lv_bipush (v := 32) hx hb dL_law_1320 (by decide) ?_
  refine lv_lshl (v := (((xs (i + 6).toNatClampNeg)).toInt64) <<< ((32 : Int32).toInt64 &&& 63)) hx hb dL_law_1322 rfl ?_
  refine lv_aload_n hx hb dL_law_1323 rfl (lv_at hl 1 rfl) ?_
  refine lv_iload hx hb dL_law_1324 (lv_at hl 5 rfl) ?_
  refine lv_bipush (v := 7) hx hb dL_law_1326 (by decide) ?_
  refine lv_iadd hx hb dL_law_1328 ?_
  refine va_sld hx hb hX hbl hbA hS.2.2 (hi 7 (by decide) (by decide)) dL_law_1329 ?_
  refine lv_i2l (v := ((xs (i + 7).toNatClampNeg)).toInt64) hx hb dL_law_1330 rfl ?_
  refine lv_ldc2 (v := 4294967295) hx hb hown (hG _ gw_2760) dL_law_1331 ?_
  refine lv_land hx hb dL_law_1334 ?_
  refine lv_lor hx hb dL_law_1335 ?_
  obtain ⟨r8, u8, hF8, hB8⟩ : wp (F_tell N ((xs (i + 1).toNatClampNeg)) ((xs (i + 2).toNatClampNeg)) ((xs (i + 3).toNatClampNeg)) ((((((xs (i + 4).toNatClampNeg)).toInt64) <<< ((32 : Int32).toInt64 &&& 63)) ||| ((((xs (i + 5).toNatClampNeg)).toInt64) &&& 4294967295))) ((((((xs (i + 6).toNatClampNeg)).toInt64) <<< ((32 : Int32).toInt64 &&& 63)) ||| ((((xs (i + 7).toNatClampNeg)).toInt64) &&& 4294967295))) u) (fun _ w => UB w) := x_tell hB
  refine lcR_l (n := 5) (x := u8) hC hS (k_tell l D kA V Zr N ((xs (i + 1).toNatClampNeg)) ((xs (i + 2).toNatClampNeg)) ((xs (i + 3).toNatClampNeg)) ((((((xs (i + 4).toNatClampNeg)).toInt64) <<< ((32 : Int32).toInt64 &&& 63)) ||| ((((xs (i + 5).toNatClampNeg)).toInt64) &&& 4294967295))) ((((((xs (i + 6).toNatClampNeg)).toInt64) <<< ((32 : Int32).toInt64 &&& 63)) ||| ((((xs (i + 7).toNatClampNeg)).toInt64) &&& 4294967295))) u H.size hF8) (gw_V gw_2756 gw_2757 gw_2758 gw_16 gw_2759) (by decide +kernel) (Nat.le_of_ble_eq_true rfl) (Nat.le_of_ble_eq_true rfl) rfl hl.1 (Nat.le_of_ble_eq_true rfl) rfl dL_law_1336 (by omega) (by omega) (fun H locs hS => ?_)
  have hB : UB u8 := hB8
  have hT7 := hT.1.1.1.jd (hT.1.1.1.1.jc (kj_F_X11_tell _ _ hF9) (kr_F_tell _ _ hF8)) (kt_F_X11_tell _ _ hF9) (ku_F_tell _ _ hF8)
  have hT8 := hT.1.1.je hT7 (kv_F_X11_tell _ _ hF9) (kx_F_tell _ _ hF8)
  have hT9 := J9_look hT.1 hT8 (kt_F_X11_tell _ _ hF9) (e2_F_X11_tell _ _ hF9) (e3_F_X11_tell _ _ hF9) (ku_F_tell _ _ hF8) (e4_F_tell _ _ hF8) (e5_F_tell _ _ hF8)
  have hT : J10 N (n + 1) _ u8 := J10_of hT9 (by omega) hT.2 (e4_F_tell _ _ hF8)
  refine lv_lstore (lv' := [(6, .long r8), (5, .int r9), (0, .ref b), (1, .ref (Zc 200)), (2, .ref (Zr 200)), (3, .ref o), (4, .int i)]) hx hb dL_law_1339 hl (by decide) rfl (fun ls hl => ?_)
  refine lv_goto (tgt := 1344) hx hb dL_law_1341 (by decide) ?_
  exact W.widen (by omega) (by omega) (kk _ _ _ _ _ _ hU hB hT hS (lv_sub hl [2, 3, 4, 5, 6] rfl))
