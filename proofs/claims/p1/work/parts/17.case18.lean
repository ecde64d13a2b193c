theorem dL_law_1226 : decode cL_law 1226 = .ok (.aload_n 1, 1) := by decide +kernel
theorem dL_law_1227 : decode cL_law 1227 = .ok (.aload_n 0, 1) := by decide +kernel
theorem dL_law_1228 : decode cL_law 1228 = .ok (.iload 4, 2) := by decide +kernel
theorem dL_law_1230 : decode cL_law 1230 = .ok (.iconst 1, 1) := by decide +kernel
theorem dL_law_1231 : decode cL_law 1231 = .ok (.iadd, 1) := by decide +kernel
theorem dL_law_1232 : decode cL_law 1232 = .ok (.iaload, 1) := by decide +kernel
theorem dL_law_1233 : decode cL_law 1233 = .ok (.aload_n 0, 1) := by decide +kernel
theorem dL_law_1234 : decode cL_law 1234 = .ok (.iload 4, 2) := by decide +kernel
theorem dL_law_1236 : decode cL_law 1236 = .ok (.iconst 2, 1) := by decide +kernel
theorem dL_law_1237 : decode cL_law 1237 = .ok (.iadd, 1) := by decide +kernel
theorem dL_law_1238 : decode cL_law 1238 = .ok (.iaload, 1) := by decide +kernel
theorem dL_law_1239 : decode cL_law 1239 = .ok (.aload_n 3, 1) := by decide +kernel
theorem dL_law_1240 : decode cL_law 1240 = .ok (.invokestatic 168, 3) := by decide +kernel
theorem dL_law_1243 : decode cL_law 1243 = .ok (.istore 5, 2) := by decide +kernel
theorem dL_law_1245 : decode cL_law 1245 = .ok (.aload_n 2, 1) := by decide +kernel
theorem dL_law_1246 : decode cL_law 1246 = .ok (.aload_n 0, 1) := by decide +kernel
theorem dL_law_1247 : decode cL_law 1247 = .ok (.iload 4, 2) := by decide +kernel
theorem dL_law_1249 : decode cL_law 1249 = .ok (.iconst 1, 1) := by decide +kernel
theorem dL_law_1250 : decode cL_law 1250 = .ok (.iadd, 1) := by decide +kernel
theorem dL_law_1251 : decode cL_law 1251 = .ok (.iaload, 1) := by decide +kernel
theorem dL_law_1252 : decode cL_law 1252 = .ok (.aload_n 0, 1) := by decide +kernel
theorem dL_law_1253 : decode cL_law 1253 = .ok (.iload 4, 2) := by decide +kernel
theorem dL_law_1255 : decode cL_law 1255 = .ok (.iconst 2, 1) := by decide +kernel
theorem dL_law_1256 : decode cL_law 1256 = .ok (.iadd, 1) := by decide +kernel
theorem dL_law_1257 : decode cL_law 1257 = .ok (.iaload, 1) := by decide +kernel
theorem dL_law_1258 : decode cL_law 1258 = .ok (.invokevirtual 170, 3) := by decide +kernel
theorem dL_law_1261 : decode cL_law 1261 = .ok (.lstore 6, 2) := by decide +kernel
theorem dL_law_1263 : decode cL_law 1263 = .ok (.aload_n 2, 1) := by decide +kernel
theorem dL_law_1264 : decode cL_law 1264 = .ok (.invokevirtual 116, 3) := by decide +kernel
theorem dL_law_1267 : decode cL_law 1267 = .ok (.iload 5, 2) := by decide +kernel
theorem dL_law_1269 : decode cL_law 1269 = .ok (.if_icmp .eq 5, 3) := by decide +kernel
theorem dL_law_1274 : decode cL_law 1274 = .ok (.iload 5, 2) := by decide +kernel
theorem dL_law_1276 : decode cL_law 1276 = .ok (.ifCond .ne 14, 3) := by decide +kernel
theorem dL_law_1290 : decode cL_law 1290 = .ok (.goto 514, 3) := by decide +kernel
set_option maxHeartbeats 4000000 in
set_option maxRecDepth 100000 in
theorem lk_18 {p : Program} {l : Launch} {e : Env} {s : State} {m : MethodId} {below : List Frame} {meth : Method} {c : Code} {D : va_G} {kA : Nat → ClassId} {V : Nat → Nat} {b : Nat} {xs : Nat → Int32} {A : Nat → Prop} (hC : lw_C p l s m meth c b 8 xs D kA V A) (hA2 : ∀ q, A q → s.heap.size ≤ q) (h0 : Nat) (m0 : Nat) (o0 : Nat) (x0 : Nat) (x1 : Nat) (x2 : Nat) (x3 : Nat) (x4 : Nat) (x5 : Nat) (x6 : Nat) (x7 : Nat) (x8 : Nat) (x26 : Nat) (x27 : Nat) (x28 : Nat) (x29 : Nat) (x30 : Nat) (x31 : Nat) (x32 : Nat) (y0 : List Value) (hq : ∀ k, k < 121 → k < y0.length) (hq9 : y0[9]? = some (.int 0)) (hq103 : y0[103]? = some (.int 0))  {H : Heap} {locs : List Loc} {ls : Array Slot} (hl : lv_has ls 8 [(0, .ref b), (1, .ref h0), (2, .ref m0), (3, .ref o0), (4, .int 0)]) (hS : va_S A s.heap H locs) (hP : va_P D vwCl [(h0, .inr (10, [.ref x0, .int 0, .ref x1, .ref x2, .ref x3, .ref x4, .ref x5, .ref x6, .ref x7, .ref x8, .int 0, .int 3000])), (x6, .inr (9, [.ref x26, .ref x27, .ref x28, .int 0, .ref x29, .ref x30, .ref x31, .ref x32, .int 0, .int 0])), (m0, .inr (11, y0))] H) (hD : va_D A [(h0, .inr (10, [.ref x0, .int 0, .ref x1, .ref x2, .ref x3, .ref x4, .ref x5, .ref x6, .ref x7, .ref x8, .int 0, .int 3000])), (x6, .inr (9, [.ref x26, .ref x27, .ref x28, .int 0, .ref x29, .ref x30, .ref x31, .ref x32, .int 0, .int 0])), (m0, .inr (11, y0))]) : W p l e room_1 s m #[Value.ref b] below meth c H locs 514 172793 (lw_Z below #[Value.ref b] s) (F0 m 1226 ls []) := by
  have ⟨hst, hx, hb, hr, hml, hown, hts, hG, hX, hbl, hbA, hlocks, hE, hK, hA⟩ := hC
  refine lv_aload_n hx hb dL_law_1226 rfl (lv_at hl 1 rfl) ?_
  refine lv_aload_n hx hb dL_law_1227 rfl (lv_at hl 0 rfl) ?_
  refine lv_iload hx hb dL_law_1228 (lv_at hl 4 rfl) ?_
  refine lv_iconst (v := 1) hx hb dL_law_1230 (by decide) ?_
  refine lv_iadd hx hb dL_law_1231 ?_
  refine W.eq (g2 := F0 m 1232 ls [.int 1, .ref b, .ref h0]) rfl ?_
  refine va_sld hx hb hX hbl hbA hS (show vp_in 1 8 by unfold vp_in; decide) dL_law_1232 ?_
  refine W.eq (g2 := F0 m 1233 ls [.int (xs 1), .ref h0]) rfl ?_
  refine lv_aload_n hx hb dL_law_1233 rfl (lv_at hl 0 rfl) ?_
  refine lv_iload hx hb dL_law_1234 (lv_at hl 4 rfl) ?_
  refine lv_iconst (v := 2) hx hb dL_law_1236 (by decide) ?_
  refine lv_iadd hx hb dL_law_1237 ?_
  refine W.eq (g2 := F0 m 1238 ls [.int 2, .ref b, .int (xs 1), .ref h0]) rfl ?_
  refine va_sld hx hb hX hbl hbA hS (show vp_in 2 8 by unfold vp_in; decide) dL_law_1238 ?_
  refine W.eq (g2 := F0 m 1239 ls [.int (xs 2), .int (xs 1), .ref h0]) rfl ?_
  refine lv_aload_n hx hb dL_law_1239 rfl (lv_at hl 3 rfl) ?_
  have hPc := hP.sub (ws' := [(h0, .inr (10, [.ref x0, .int 0, .ref x1, .ref x2, .ref x3, .ref x4, .ref x5, .ref x6, .ref x7, .ref x8, .int 0, .int 3000])), (x6, .inr (9, [.ref x26, .ref x27, .ref x28, .int 0, .ref x29, .ref x30, .ref x31, .ref x32, .int 0, .int 0]))]) [0, 1] rfl
  have hDc := hD.sub (ws' := [(h0, .inr (10, [.ref x0, .int 0, .ref x1, .ref x2, .ref x3, .ref x4, .ref x5, .ref x6, .ref x7, .ref x8, .int 0, .int 3000])), (x6, .inr (9, [.ref x26, .ref x27, .ref x28, .int 0, .ref x29, .ref x30, .ref x31, .ref x32, .int 0, .int 0]))]) [0, 1] (by decide) rfl
  have hFc := va_free (wc := [(h0, .inr (10, [.ref x0, .int 0, .ref x1, .ref x2, .ref x3, .ref x4, .ref x5, .ref x6, .ref x7, .ref x8, .int 0, .int 3000])), (x6, .inr (9, [.ref x26, .ref x27, .ref x28, .int 0, .ref x29, .ref x30, .ref x31, .ref x32, .int 0, .int 0]))]) hD hS hA [0, 1] rfl
  refine va_calli (vx_runSW (As := [.ref h0, .int (xs 1), .int (xs 2), .ref o0]) (rest := []) ⟨hx, hb, hml, hown, hts⟩ (a169_L_event l hst D kA V H.size h0 (xs 1) (xs 2) o0 x0 x1 x2 x3 x4 x5 x6 x7 x8 x26 x27 x28 x29 x30 x31 x32) (vx_cwSW 4 hts (gw_SW gw_1805 gw_1806 gw_0 gw_1807) rfl rfl rfl (by decide +kernel) ⟨(Nat.le_of_ble_eq_true rfl), (Nat.le_of_ble_eq_true rfl)⟩) ⟨aP.blind, aP.pre hE hS hPc hK hDc hFc⟩ rfl rfl hl.1 rfl (lv_room (Nat.le_of_ble_eq_true rfl)) dL_law_1240 ⟨(Nat.le_of_ble_eq_true rfl), (Nat.le_of_ble_eq_true rfl)⟩) hS (fun q _ h => hFc q h) hFc (fun r_1 u t H1 locs ht hvm hw hB hz1 hk1 hS => ?_)
  obtain ⟨hP1, hD1⟩ := hB
  rw [ht] at hP1
  try dsimp only at hw hP1 hD1
  rcases hw with ⟨c_2, w_3⟩ | ⟨c_4, c_5, w_6⟩
  · skip
    subst w_3
    obtain ⟨hP, hD⟩ := va_join (wr := [(m0, .inr (11, y0))]) (w1 := []) hP hD [0, 1] [2] rfl rfl (by decide) (by decide) hk1 hFc hP1 hD1
    generalize H1 = H at hP hS ⊢
    have hP : va_P D vwCl [(m0, .inr (11, y0))] H := hP
    have hD : va_D A [(m0, .inr (11, y0))] := hD
    refine lv_istore (lv' := [(5, .int 1), (0, .ref b), (1, .ref h0), (2, .ref m0), (3, .ref o0), (4, .int 0)]) hx hb dL_law_1243 hl (by decide) rfl (fun ls hl => ?_)
    refine lv_aload_n hx hb dL_law_1245 rfl (lv_at hl 3 rfl) ?_
    refine lv_aload_n hx hb dL_law_1246 rfl (lv_at hl 1 rfl) ?_
    refine lv_iload hx hb dL_law_1247 (lv_at hl 5 rfl) ?_
    refine lv_iconst (v := 1) hx hb dL_law_1249 (by decide) ?_
    refine lv_iadd hx hb dL_law_1250 ?_
    refine W.eq (g2 := F0 m 1251 ls [.int 1, .ref b, .ref m0]) rfl ?_
    refine va_sld hx hb hX hbl hbA hS (show vp_in 1 8 by unfold vp_in; decide) dL_law_1251 ?_
    refine W.eq (g2 := F0 m 1252 ls [.int (xs 1), .ref m0]) rfl ?_
    refine lv_aload_n hx hb dL_law_1252 rfl (lv_at hl 1 rfl) ?_
    refine lv_iload hx hb dL_law_1253 (lv_at hl 5 rfl) ?_
    refine lv_iconst (v := 2) hx hb dL_law_1255 (by decide) ?_
    refine lv_iadd hx hb dL_law_1256 ?_
    refine W.eq (g2 := F0 m 1257 ls [.int 2, .ref b, .int (xs 1), .ref m0]) rfl ?_
    refine va_sld hx hb hX hbl hbA hS (show vp_in 2 8 by unfold vp_in; decide) dL_law_1257 ?_
    refine W.eq (g2 := F0 m 1258 ls [.int (xs 2), .int (xs 1), .ref m0]) rfl ?_
    have hPc := hP.sub (ws' := [(m0, .inr (11, y0))]) [0] rfl
    have hDc := hD.sub (ws' := [(m0, .inr (11, y0))]) [0] (by decide) rfl
    have hFc := va_free (wc := [(m0, .inr (11, y0))]) hD hS hA [0] rfl
    refine va_calll (va_runV (As := [.int (xs 1), .int (xs 2)]) (rest := []) ⟨hx, hb, hml, hown, hts⟩ (a145_X12_event l  D kA V H.size m0 (xs 1) (xs 2) y0 (fun k hk => (hq k hk)) hq9 hq103) (cwV 2 hts (gw_V gw_2736 gw_2737 gw_2738 gw_16 gw_2739) rfl rfl rfl (by decide +kernel) ⟨(Nat.le_of_ble_eq_true rfl), (Nat.le_of_ble_eq_true rfl)⟩) ⟨aP.blind, va_recv hK hP (ci := 11) (q0 := 0) rfl rfl, aP.pre hE hS hPc hK hDc hFc⟩ rfl rfl hl.1 rfl (lv_room (Nat.le_of_ble_eq_true rfl)) dL_law_1258 ⟨(Nat.le_of_ble_eq_true rfl), (Nat.le_of_ble_eq_true rfl)⟩) hS (fun q _ h => hFc q h) hFc (fun r_7 u t H1 locs ht hvm hw hB hz1 hk1 hS => ?_)
    obtain ⟨u_8, rfl⟩ : ∃ z, z = u := ⟨u, rfl⟩
    obtain ⟨hP1, hD1⟩ := hB
    rw [ht] at hP1
    try dsimp only at hw hP1 hD1
    rcases hw with ⟨c_9, w_10, w_11⟩ | ⟨c_12, c_13, w_14, w_15⟩
    · skip
      subst w_10
      subst w_11
      obtain ⟨hP, hD⟩ := va_join (wr := []) (w1 := [(m0, .inr (11, y0.set 9 (.int 1)))]) hP hD [0] [] rfl rfl (by decide) (by decide) hk1 hFc hP1 hD1
      generalize H1 = H at hP hS ⊢
      have hP : va_P D vwCl [(m0, .inr (11, y0.set 9 (.int 1)))] H := hP
      have hD : va_D A [(m0, .inr (11, y0.set 9 (.int 1)))] := hD
      refine lv_lstore (lv' := [(6, .long 0), (5, .int 1), (0, .ref b), (1, .ref h0), (2, .ref m0), (3, .ref o0), (4, .int 0)]) hx hb dL_law_1261 hl (by decide) rfl (fun ls hl => ?_)
      refine lv_aload_n hx hb dL_law_1263 rfl (lv_at hl 4 rfl) ?_
      have hPc := hP.sub (ws' := [(m0, .inr (11, y0.set 9 (.int 1)))]) [0] rfl
      have hDc := hD.sub (ws' := [(m0, .inr (11, y0.set 9 (.int 1)))]) [0] (by decide) rfl
      have hFc := va_free (wc := [(m0, .inr (11, y0.set 9 (.int 1)))]) hD hS hA [0] rfl
      refine va_calli (va_runV (As := []) (rest := []) ⟨hx, hb, hml, hown, hts⟩ (a174_X12_thrown l  D kA V H.size m0 (y0.set 9 (.int 1)) (fun k hk => (by rw [List.length_set]; exact (hq k hk))) (List.getElem?_set_self (hq 9 (by decide)))) (cwV 0 hts (gw_V gw_1879 gw_1880 gw_1881 gw_16 gw_1882) rfl rfl rfl (by decide +kernel) ⟨(Nat.le_of_ble_eq_true rfl), (Nat.le_of_ble_eq_true rfl)⟩) ⟨aP.blind, va_recv hK hP (ci := 11) (q0 := 0) rfl rfl, aP.pre hE hS hPc hK hDc hFc⟩ rfl rfl hl.1 rfl (lv_room (Nat.le_of_ble_eq_true rfl)) dL_law_1264 ⟨(Nat.le_of_ble_eq_true rfl), (Nat.le_of_ble_eq_true rfl)⟩) hS (fun q _ h => hFc q h) hFc (fun r_16 u t H1 locs ht hvm hw hB hz1 hk1 hS => ?_)
      obtain ⟨hP1, hD1⟩ := hB
      rw [ht] at hP1
      try dsimp only at hw hP1 hD1
      have w_17 := hw
      subst w_17
      obtain ⟨hP, hD⟩ := va_join (wr := []) (w1 := [(m0, .inr (11, (y0.set 9 (.int 1))))]) hP hD [0] [] rfl rfl (by decide) (by decide) hk1 hFc hP1 hD1
      generalize H1 = H at hP hS ⊢
      have hP : va_P D vwCl [(m0, .inr (11, (y0.set 9 (.int 1))))] H := hP
      have hD : va_D A [(m0, .inr (11, (y0.set 9 (.int 1))))] := hD
      refine lv_iload hx hb dL_law_1267 (lv_at hl 1 rfl) ?_
      refine lv_icmp_eq (tgt := 1274) hx hb dL_law_1269 (by decide) (fun c_18 => ?_) (fun c_18 => ?_)
      · skip
        refine lv_iload hx hb dL_law_1274 (lv_at hl 1 rfl) ?_
        refine lv_if_ne (tgt := 1290) hx hb dL_law_1276 (by decide) (fun c_19 => ?_) (fun c_19 => ?_)
        · skip
          refine lv_goto (tgt := 1804) hx hb dL_law_1290 (by decide) ?_
          exact lk_tail hC hA2 (lv_sub hl [2, 6] rfl) hS (Nat.le_of_ble_eq_true rfl) (Nat.le_of_ble_eq_true rfl)
        · exact absurd c_19 (by decide)
      · exact absurd (by decide) c_18
    · skip
      subst w_14
      subst w_15
      exact absurd c_2 c_12
  · skip
    subst w_6
    obtain ⟨hP, hD⟩ := va_join (wr := [(m0, .inr (11, y0))]) (w1 := []) hP hD [0, 1] [2] rfl rfl (by decide) (by decide) hk1 hFc hP1 hD1
    generalize H1 = H at hP hS ⊢
    have hP : va_P D vwCl [(m0, .inr (11, y0))] H := hP
    have hD : va_D A [(m0, .inr (11, y0))] := hD
    refine lv_istore (lv' := [(5, .int 1), (0, .ref b), (1, .ref h0), (2, .ref m0), (3, .ref o0), (4, .int 0)]) hx hb dL_law_1243 hl (by decide) rfl (fun ls hl => ?_)
    refine lv_aload_n hx hb dL_law_1245 rfl (lv_at hl 3 rfl) ?_
    refine lv_aload_n hx hb dL_law_1246 rfl (lv_at hl 1 rfl) ?_
    refine lv_iload hx hb dL_law_1247 (lv_at hl 5 rfl) ?_
    refine lv_iconst (v := 1) hx hb dL_law_1249 (by decide) ?_
    refine lv_iadd hx hb dL_law_1250 ?_
    refine W.eq (g2 := F0 m 1251 ls [.int 1, .ref b, .ref m0]) rfl ?_
    refine va_sld hx hb hX hbl hbA hS (show vp_in 1 8 by unfold vp_in; decide) dL_law_1251 ?_
    refine W.eq (g2 := F0 m 1252 ls [.int (xs 1), .ref m0]) rfl ?_
    refine lv_aload_n hx hb dL_law_1252 rfl (lv_at hl 1 rfl) ?_
    refine lv_iload hx hb dL_law_1253 (lv_at hl 5 rfl) ?_
    refine lv_iconst (v := 2) hx hb dL_law_1255 (by decide) ?_
    refine lv_iadd hx hb dL_law_1256 ?_
    refine W.eq (g2 := F0 m 1257 ls [.int 2, .ref b, .int (xs 1), .ref m0]) rfl ?_
    refine va_sld hx hb hX hbl hbA hS (show vp_in 2 8 by unfold vp_in; decide) dL_law_1257 ?_
    refine W.eq (g2 := F0 m 1258 ls [.int (xs 2), .int (xs 1), .ref m0]) rfl ?_
    have hPc := hP.sub (ws' := [(m0, .inr (11, y0))]) [0] rfl
    have hDc := hD.sub (ws' := [(m0, .inr (11, y0))]) [0] (by decide) rfl
    have hFc := va_free (wc := [(m0, .inr (11, y0))]) hD hS hA [0] rfl
    refine va_calll (va_runV (As := [.int (xs 1), .int (xs 2)]) (rest := []) ⟨hx, hb, hml, hown, hts⟩ (a145_X12_event l  D kA V H.size m0 (xs 1) (xs 2) y0 (fun k hk => (hq k hk)) hq9 hq103) (cwV 2 hts (gw_V gw_2736 gw_2737 gw_2738 gw_16 gw_2739) rfl rfl rfl (by decide +kernel) ⟨(Nat.le_of_ble_eq_true rfl), (Nat.le_of_ble_eq_true rfl)⟩) ⟨aP.blind, va_recv hK hP (ci := 11) (q0 := 0) rfl rfl, aP.pre hE hS hPc hK hDc hFc⟩ rfl rfl hl.1 rfl (lv_room (Nat.le_of_ble_eq_true rfl)) dL_law_1258 ⟨(Nat.le_of_ble_eq_true rfl), (Nat.le_of_ble_eq_true rfl)⟩) hS (fun q _ h => hFc q h) hFc (fun r_20 u t H1 locs ht hvm hw hB hz1 hk1 hS => ?_)
    obtain ⟨u_21, rfl⟩ : ∃ z, z = u := ⟨u, rfl⟩
    obtain ⟨hP1, hD1⟩ := hB
    rw [ht] at hP1
    try dsimp only at hw hP1 hD1
    rcases hw with ⟨c_22, w_23, w_24⟩ | ⟨c_25, c_26, w_27, w_28⟩
    · skip
      subst w_23
      subst w_24
      exact absurd c_22 c_4
    · skip
      subst w_27
      subst w_28
      obtain ⟨hP, hD⟩ := va_join (wr := []) (w1 := [(m0, .inr (11, y0.set 9 (.int 1)))]) hP hD [0] [] rfl rfl (by decide) (by decide) hk1 hFc hP1 hD1
      generalize H1 = H at hP hS ⊢
      have hP : va_P D vwCl [(m0, .inr (11, y0.set 9 (.int 1)))] H := hP
      have hD : va_D A [(m0, .inr (11, y0.set 9 (.int 1)))] := hD
      refine lv_lstore (lv' := [(6, .long 0), (5, .int 1), (0, .ref b), (1, .ref h0), (2, .ref m0), (3, .ref o0), (4, .int 0)]) hx hb dL_law_1261 hl (by decide) rfl (fun ls hl => ?_)
      refine lv_aload_n hx hb dL_law_1263 rfl (lv_at hl 4 rfl) ?_
      have hPc := hP.sub (ws' := [(m0, .inr (11, y0.set 9 (.int 1)))]) [0] rfl
      have hDc := hD.sub (ws' := [(m0, .inr (11, y0.set 9 (.int 1)))]) [0] (by decide) rfl
      have hFc := va_free (wc := [(m0, .inr (11, y0.set 9 (.int 1)))]) hD hS hA [0] rfl
      refine va_calli (va_runV (As := []) (rest := []) ⟨hx, hb, hml, hown, hts⟩ (a174_X12_thrown l  D kA V H.size m0 (y0.set 9 (.int 1)) (fun k hk => (by rw [List.length_set]; exact (hq k hk))) (List.getElem?_set_self (hq 9 (by decide)))) (cwV 0 hts (gw_V gw_1879 gw_1880 gw_1881 gw_16 gw_1882) rfl rfl rfl (by decide +kernel) ⟨(Nat.le_of_ble_eq_true rfl), (Nat.le_of_ble_eq_true rfl)⟩) ⟨aP.blind, va_recv hK hP (ci := 11) (q0 := 0) rfl rfl, aP.pre hE hS hPc hK hDc hFc⟩ rfl rfl hl.1 rfl (lv_room (Nat.le_of_ble_eq_true rfl)) dL_law_1264 ⟨(Nat.le_of_ble_eq_true rfl), (Nat.le_of_ble_eq_true rfl)⟩) hS (fun q _ h => hFc q h) hFc (fun r_29 u t H1 locs ht hvm hw hB hz1 hk1 hS => ?_)
      obtain ⟨hP1, hD1⟩ := hB
      rw [ht] at hP1
      try dsimp only at hw hP1 hD1
      have w_30 := hw
      subst w_30
      obtain ⟨hP, hD⟩ := va_join (wr := []) (w1 := [(m0, .inr (11, (y0.set 9 (.int 1))))]) hP hD [0] [] rfl rfl (by decide) (by decide) hk1 hFc hP1 hD1
      generalize H1 = H at hP hS ⊢
      have hP : va_P D vwCl [(m0, .inr (11, (y0.set 9 (.int 1))))] H := hP
      have hD : va_D A [(m0, .inr (11, (y0.set 9 (.int 1))))] := hD
      refine lv_iload hx hb dL_law_1267 (lv_at hl 1 rfl) ?_
      refine lv_icmp_eq (tgt := 1274) hx hb dL_law_1269 (by decide) (fun c_31 => ?_) (fun c_31 => ?_)
      · skip
        refine lv_iload hx hb dL_law_1274 (lv_at hl 1 rfl) ?_
        refine lv_if_ne (tgt := 1290) hx hb dL_law_1276 (by decide) (fun c_32 => ?_) (fun c_32 => ?_)
        · skip
          refine lv_goto (tgt := 1804) hx hb dL_law_1290 (by decide) ?_
          exact lk_tail hC hA2 (lv_sub hl [2, 6] rfl) hS (Nat.le_of_ble_eq_true rfl) (Nat.le_of_ble_eq_true rfl)
        · exact absurd c_32 (by decide)
      · exact absurd (by decide) c_31
