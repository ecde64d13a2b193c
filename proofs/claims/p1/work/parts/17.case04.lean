theorem dL_law_304 : decode cL_law 304 = .ok (.aload_n 1, 1) := by decide +kernel
theorem dL_law_305 : decode cL_law 305 = .ok (.aload_n 0, 1) := by decide +kernel
theorem dL_law_306 : decode cL_law 306 = .ok (.iload 4, 2) := by decide +kernel
theorem dL_law_308 : decode cL_law 308 = .ok (.iconst 1, 1) := by decide +kernel
theorem dL_law_309 : decode cL_law 309 = .ok (.iadd, 1) := by decide +kernel
theorem dL_law_310 : decode cL_law 310 = .ok (.iaload, 1) := by decide +kernel
theorem dL_law_311 : decode cL_law 311 = .ok (.aload_n 3, 1) := by decide +kernel
theorem dL_law_312 : decode cL_law 312 = .ok (.invokestatic 110, 3) := by decide +kernel
theorem dL_law_315 : decode cL_law 315 = .ok (.istore 5, 2) := by decide +kernel
theorem dL_law_317 : decode cL_law 317 = .ok (.aload_n 2, 1) := by decide +kernel
theorem dL_law_318 : decode cL_law 318 = .ok (.aload_n 0, 1) := by decide +kernel
theorem dL_law_319 : decode cL_law 319 = .ok (.iload 4, 2) := by decide +kernel
theorem dL_law_321 : decode cL_law 321 = .ok (.iconst 1, 1) := by decide +kernel
theorem dL_law_322 : decode cL_law 322 = .ok (.iadd, 1) := by decide +kernel
theorem dL_law_323 : decode cL_law 323 = .ok (.iaload, 1) := by decide +kernel
theorem dL_law_324 : decode cL_law 324 = .ok (.invokevirtual 115, 3) := by decide +kernel
theorem dL_law_327 : decode cL_law 327 = .ok (.istore 6, 2) := by decide +kernel
theorem dL_law_329 : decode cL_law 329 = .ok (.aload_n 2, 1) := by decide +kernel
theorem dL_law_330 : decode cL_law 330 = .ok (.invokevirtual 116, 3) := by decide +kernel
theorem dL_law_333 : decode cL_law 333 = .ok (.iload 5, 2) := by decide +kernel
theorem dL_law_335 : decode cL_law 335 = .ok (.if_icmp .eq 5, 3) := by decide +kernel
theorem dL_law_340 : decode cL_law 340 = .ok (.iload 5, 2) := by decide +kernel
theorem dL_law_342 : decode cL_law 342 = .ok (.ifCond .ne 15, 3) := by decide +kernel
theorem dL_law_345 : decode cL_law 345 = .ok (.aload_n 3, 1) := by decide +kernel
theorem dL_law_346 : decode cL_law 346 = .ok (.iconst 0, 1) := by decide +kernel
theorem dL_law_347 : decode cL_law 347 = .ok (.laload, 1) := by decide +kernel
theorem dL_law_348 : decode cL_law 348 = .ok (.iload 6, 2) := by decide +kernel
theorem dL_law_350 : decode cL_law 350 = .ok (.i2l, 1) := by decide +kernel
theorem dL_law_351 : decode cL_law 351 = .ok (.lcmp, 1) := by decide +kernel
theorem dL_law_352 : decode cL_law 352 = .ok (.ifCond .eq 5, 3) := by decide +kernel
theorem dL_law_357 : decode cL_law 357 = .ok (.goto 1447, 3) := by decide +kernel
set_option maxHeartbeats 4000000 in
set_option maxRecDepth 100000 in
theorem lk_4 {p : Program} {l : Launch} {e : Env} {s : State} {m : MethodId} {below : List Frame} {meth : Method} {c : Code} {D : va_G} {kA : Nat → ClassId} {V : Nat → Nat} {b : Nat} {xs : Nat → Int32} {A : Nat → Prop} (hC : lw_C p l s m meth c b 8 xs D kA V A) (hA2 : ∀ q, A q → s.heap.size ≤ q) (h0 : Nat) (m0 : Nat) (o0 : Nat) (x0 : Nat) (x1 : Nat) (x2 : Nat) (x3 : Nat) (x4 : Nat) (x5 : Nat) (x6 : Nat) (x7 : Nat) (x8 : Nat) (x20 : Nat) (x26 : Nat) (x27 : Nat) (x28 : Nat) (x29 : Nat) (x30 : Nat) (x31 : Nat) (x32 : Nat) (x33 : Nat) (x34 : Nat) (x35 : Nat) (x36 : Nat) (x37 : Nat) (x38 : Nat) (x39 : Nat) (x40 : Nat) (x41 : Nat) (x42 : Nat) (x43 : Nat) (x44 : Nat) (y0 : List Value) (y9 : Nat) (y16 : Nat) (y17 : Nat) (y18 : Nat) (y19 : Nat) (hq : ∀ k, k < 121 → k < y0.length) (hq9 : y0[9]? = some (.int 0)) (hq48 : y0[48]? = some (.ref y9)) (hq55 : y0[55]? = some (.int 0)) (hq84 : y0[84]? = some (.ref y16)) (hq85 : y0[85]? = some (.ref y17)) (hq86 : y0[86]? = some (.ref y18)) (hq87 : y0[87]? = some (.ref y19)) (hq98 : y0[98]? = some (.int 0)) (hq104 : y0[104]? = some (.int 0))  {H : Heap} {locs : List Loc} {ls : Array Slot} (hl : lv_has ls 8 [(0, .ref b), (1, .ref h0), (2, .ref m0), (3, .ref o0), (4, .int 0)]) (hS : va_S A s.heap H locs) (hP : va_P D vwCl [(h0, .inr (10, [.ref x0, .int 0, .ref x1, .ref x2, .ref x3, .ref x4, .ref x5, .ref x6, .ref x7, .ref x8, .int 0, .int 3000])), (x4, .inr (1, [.ref x20])), (x20, .inl (kA 4, 8, .inr (.inr (.inr (.inr (fun i => if i < 8 then some (x20 + 1 + i) else none)))))), ((x20 + 1 + 0), .inl (kA 0, 64, .inl (fun _ => 0))), ((x20 + 1 + 1), .inl (kA 0, 64, .inl (fun _ => 0))), ((x20 + 1 + 2), .inl (kA 0, 64, .inl (fun _ => 0))), ((x20 + 1 + 3), .inl (kA 0, 64, .inl (fun _ => 0))), ((x20 + 1 + 4), .inl (kA 0, 64, .inl (fun _ => 0))), ((x20 + 1 + 5), .inl (kA 0, 64, .inl (fun _ => 0))), ((x20 + 1 + 6), .inl (kA 0, 64, .inl (fun _ => 0))), ((x20 + 1 + 7), .inl (kA 0, 64, .inl (fun _ => 0))), (x6, .inr (9, [.ref x26, .ref x27, .ref x28, .int 0, .ref x29, .ref x30, .ref x31, .ref x32, .int 0, .int 0])), (x7, .inr (5, [.ref x33, .ref x34, .ref x35, .ref x36, .ref x37, .ref x38, .ref x39, .ref x40, .ref x41, .ref x42, .ref x43, .ref x44, .int 0, .int 0, .int 0, .int (-1)])), (x37, .inl (kA 0, 5, .inl (fun _ => 0))), (m0, .inr (11, y0)), (y9, .inl (kA 0, 2, .inl (fun _ => 0))), (y16, .inl (kA 0, 128, .inl (fun _ => 0))), (y17, .inl (kA 0, 128, .inl (fun _ => 0))), (y18, .inl (kA 0, 128, .inl (fun _ => 0))), (y19, .inl (kA 0, 128, .inl (fun _ => 0))), (o0, .inl (kA 1, 1, .inr (.inl (fun _ => 0))))] H) (hD : va_D A [(h0, .inr (10, [.ref x0, .int 0, .ref x1, .ref x2, .ref x3, .ref x4, .ref x5, .ref x6, .ref x7, .ref x8, .int 0, .int 3000])), (x4, .inr (1, [.ref x20])), (x20, .inl (kA 4, 8, .inr (.inr (.inr (.inr (fun i => if i < 8 then some (x20 + 1 + i) else none)))))), ((x20 + 1 + 0), .inl (kA 0, 64, .inl (fun _ => 0))), ((x20 + 1 + 1), .inl (kA 0, 64, .inl (fun _ => 0))), ((x20 + 1 + 2), .inl (kA 0, 64, .inl (fun _ => 0))), ((x20 + 1 + 3), .inl (kA 0, 64, .inl (fun _ => 0))), ((x20 + 1 + 4), .inl (kA 0, 64, .inl (fun _ => 0))), ((x20 + 1 + 5), .inl (kA 0, 64, .inl (fun _ => 0))), ((x20 + 1 + 6), .inl (kA 0, 64, .inl (fun _ => 0))), ((x20 + 1 + 7), .inl (kA 0, 64, .inl (fun _ => 0))), (x6, .inr (9, [.ref x26, .ref x27, .ref x28, .int 0, .ref x29, .ref x30, .ref x31, .ref x32, .int 0, .int 0])), (x7, .inr (5, [.ref x33, .ref x34, .ref x35, .ref x36, .ref x37, .ref x38, .ref x39, .ref x40, .ref x41, .ref x42, .ref x43, .ref x44, .int 0, .int 0, .int 0, .int (-1)])), (x37, .inl (kA 0, 5, .inl (fun _ => 0))), (m0, .inr (11, y0)), (y9, .inl (kA 0, 2, .inl (fun _ => 0))), (y16, .inl (kA 0, 128, .inl (fun _ => 0))), (y17, .inl (kA 0, 128, .inl (fun _ => 0))), (y18, .inl (kA 0, 128, .inl (fun _ => 0))), (y19, .inl (kA 0, 128, .inl (fun _ => 0))), (o0, .inl (kA 1, 1, .inr (.inl (fun _ => 0))))]) : W p l e room_1 s m #[Value.ref b] below meth c H locs 514 172793 (lw_Z below #[Value.ref b] s) (F0 m 304 ls []) := by
  have ⟨hst, hx, hb, hr, hml, hown, hts, hG, hX, hbl, hbA, hlocks, hE, hK, hA⟩ := hC
  refine lv_aload_n hx hb dL_law_304 rfl (lv_at hl 1 rfl) ?_
  refine lv_aload_n hx hb dL_law_305 rfl (lv_at hl 0 rfl) ?_
  refine lv_iload hx hb dL_law_306 (lv_at hl 4 rfl) ?_
  refine lv_iconst (v := 1) hx hb dL_law_308 (by decide) ?_
  refine lv_iadd hx hb dL_law_309 ?_
  refine W.eq (g2 := F0 m 310 ls [.int 1, .ref b, .ref h0]) rfl ?_
  refine va_sld hx hb hX hbl hbA hS (show vp_in 1 8 by unfold vp_in; decide) dL_law_310 ?_
  refine W.eq (g2 := F0 m 311 ls [.int (xs 1), .ref h0]) rfl ?_
  refine lv_aload_n hx hb dL_law_311 rfl (lv_at hl 3 rfl) ?_
  have hPc := hP.sub (ws' := [(h0, .inr (10, [.ref x0, .int 0, .ref x1, .ref x2, .ref x3, .ref x4, .ref x5, .ref x6, .ref x7, .ref x8, .int 0, .int 3000])), (x4, .inr (1, [.ref x20])), (x20, .inl (kA 4, 8, .inr (.inr (.inr (.inr (fun i => if i < 8 then some (x20 + 1 + i) else none)))))), ((x20 + 1 + 0), .inl (kA 0, 64, .inl (fun _ => 0))), ((x20 + 1 + 1), .inl (kA 0, 64, .inl (fun _ => 0))), ((x20 + 1 + 2), .inl (kA 0, 64, .inl (fun _ => 0))), ((x20 + 1 + 3), .inl (kA 0, 64, .inl (fun _ => 0))), ((x20 + 1 + 4), .inl (kA 0, 64, .inl (fun _ => 0))), ((x20 + 1 + 5), .inl (kA 0, 64, .inl (fun _ => 0))), ((x20 + 1 + 6), .inl (kA 0, 64, .inl (fun _ => 0))), ((x20 + 1 + 7), .inl (kA 0, 64, .inl (fun _ => 0))), (x6, .inr (9, [.ref x26, .ref x27, .ref x28, .int 0, .ref x29, .ref x30, .ref x31, .ref x32, .int 0, .int 0])), (x7, .inr (5, [.ref x33, .ref x34, .ref x35, .ref x36, .ref x37, .ref x38, .ref x39, .ref x40, .ref x41, .ref x42, .ref x43, .ref x44, .int 0, .int 0, .int 0, .int (-1)])), (x37, .inl (kA 0, 5, .inl (fun _ => 0))), (o0, .inl (kA 1, 1, .inr (.inl (fun _ => 0))))]) [0, 1, 2, 3, 4, 5, 6, 7, 8, 9, 10, 11, 12, 13, 20] rfl
  have hDc := hD.sub (ws' := [(h0, .inr (10, [.ref x0, .int 0, .ref x1, .ref x2, .ref x3, .ref x4, .ref x5, .ref x6, .ref x7, .ref x8, .int 0, .int 3000])), (x4, .inr (1, [.ref x20])), (x20, .inl (kA 4, 8, .inr (.inr (.inr (.inr (fun i => if i < 8 then some (x20 + 1 + i) else none)))))), ((x20 + 1 + 0), .inl (kA 0, 64, .inl (fun _ => 0))), ((x20 + 1 + 1), .inl (kA 0, 64, .inl (fun _ => 0))), ((x20 + 1 + 2), .inl (kA 0, 64, .inl (fun _ => 0))), ((x20 + 1 + 3), .inl (kA 0, 64, .inl (fun _ => 0))), ((x20 + 1 + 4), .inl (kA 0, 64, .inl (fun _ => 0))), ((x20 + 1 + 5), .inl (kA 0, 64, .inl (fun _ => 0))), ((x20 + 1 + 6), .inl (kA 0, 64, .inl (fun _ => 0))), ((x20 + 1 + 7), .inl (kA 0, 64, .inl (fun _ => 0))), (x6, .inr (9, [.ref x26, .ref x27, .ref x28, .int 0, .ref x29, .ref x30, .ref x31, .ref x32, .int 0, .int 0])), (x7, .inr (5, [.ref x33, .ref x34, .ref x35, .ref x36, .ref x37, .ref x38, .ref x39, .ref x40, .ref x41, .ref x42, .ref x43, .ref x44, .int 0, .int 0, .int 0, .int (-1)])), (x37, .inl (kA 0, 5, .inl (fun _ => 0))), (o0, .inl (kA 1, 1, .inr (.inl (fun _ => 0))))]) [0, 1, 2, 3, 4, 5, 6, 7, 8, 9, 10, 11, 12, 13, 20] (by decide) rfl
  have hFc := va_free (wc := [(h0, .inr (10, [.ref x0, .int 0, .ref x1, .ref x2, .ref x3, .ref x4, .ref x5, .ref x6, .ref x7, .ref x8, .int 0, .int 3000])), (x4, .inr (1, [.ref x20])), (x20, .inl (kA 4, 8, .inr (.inr (.inr (.inr (fun i => if i < 8 then some (x20 + 1 + i) else none)))))), ((x20 + 1 + 0), .inl (kA 0, 64, .inl (fun _ => 0))), ((x20 + 1 + 1), .inl (kA 0, 64, .inl (fun _ => 0))), ((x20 + 1 + 2), .inl (kA 0, 64, .inl (fun _ => 0))), ((x20 + 1 + 3), .inl (kA 0, 64, .inl (fun _ => 0))), ((x20 + 1 + 4), .inl (kA 0, 64, .inl (fun _ => 0))), ((x20 + 1 + 5), .inl (kA 0, 64, .inl (fun _ => 0))), ((x20 + 1 + 6), .inl (kA 0, 64, .inl (fun _ => 0))), ((x20 + 1 + 7), .inl (kA 0, 64, .inl (fun _ => 0))), (x6, .inr (9, [.ref x26, .ref x27, .ref x28, .int 0, .ref x29, .ref x30, .ref x31, .ref x32, .int 0, .int 0])), (x7, .inr (5, [.ref x33, .ref x34, .ref x35, .ref x36, .ref x37, .ref x38, .ref x39, .ref x40, .ref x41, .ref x42, .ref x43, .ref x44, .int 0, .int 0, .int 0, .int (-1)])), (x37, .inl (kA 0, 5, .inl (fun _ => 0))), (o0, .inl (kA 1, 1, .inr (.inl (fun _ => 0))))]) hD hS hA [0, 1, 2, 3, 4, 5, 6, 7, 8, 9, 10, 11, 12, 13, 20] rfl
  refine va_calli (vx_runSW (As := [.ref h0, .int (xs 1), .ref o0]) (rest := []) ⟨hx, hb, hml, hown, hts⟩ (a156_L_scan l hst D kA V H.size h0 (xs 1) o0 x0 x1 x2 x3 x4 x5 x6 x7 x8 x20 x26 x27 x28 x29 x30 x31 x32 x33 x34 x35 x36 x37 x38 x39 x40 x41 x42 x43 x44) (vx_cwSW 3 hts (gw_SW gw_1459 gw_1460 gw_0 gw_1461) rfl rfl rfl (by decide +kernel) ⟨(Nat.le_of_ble_eq_true rfl), (Nat.le_of_ble_eq_true rfl)⟩) ⟨aP.blind, aP.pre hE hS hPc hK hDc hFc⟩ rfl rfl hl.1 rfl (lv_room (Nat.le_of_ble_eq_true rfl)) dL_law_312 ⟨(Nat.le_of_ble_eq_true rfl), (Nat.le_of_ble_eq_true rfl)⟩) hS (fun q _ h => hFc q h) hFc (fun r_1 u t H1 locs ht hvm hw hB hz1 hk1 hS => ?_)
  obtain ⟨u_2, rfl⟩ : ∃ z, z = u := ⟨u, rfl⟩
  obtain ⟨hP1, hD1⟩ := hB
  rw [ht] at hP1
  try dsimp only at hw hP1 hD1
  rcases hw with ⟨c_3, w_4, w_5⟩ | ⟨c_6, c_7, w_8, w_9⟩ | ⟨c_10, c_11, w_12, w_13⟩
  · skip
    subst w_4
    subst w_5
    obtain ⟨hP, hD⟩ := va_join (wr := [(m0, .inr (11, y0)), (y9, .inl (kA 0, 2, .inl (fun _ => 0))), (y16, .inl (kA 0, 128, .inl (fun _ => 0))), (y17, .inl (kA 0, 128, .inl (fun _ => 0))), (y18, .inl (kA 0, 128, .inl (fun _ => 0))), (y19, .inl (kA 0, 128, .inl (fun _ => 0)))]) (w1 := [(o0, .inl (kA 1, 1, .inr (.inl (fun _ => 0))))]) hP hD [0, 1, 2, 3, 4, 5, 6, 7, 8, 9, 10, 11, 12, 13, 20] [14, 15, 16, 17, 18, 19] rfl rfl (by decide) (by decide) hk1 hFc hP1 hD1
    generalize H1 = H at hP hS ⊢
    have hP : va_P D vwCl [(m0, .inr (11, y0)), (y9, .inl (kA 0, 2, .inl (fun _ => 0))), (y16, .inl (kA 0, 128, .inl (fun _ => 0))), (y17, .inl (kA 0, 128, .inl (fun _ => 0))), (y18, .inl (kA 0, 128, .inl (fun _ => 0))), (y19, .inl (kA 0, 128, .inl (fun _ => 0))), (o0, .inl (kA 1, 1, .inr (.inl (fun _ => 0))))] H := hP
    have hD : va_D A [(m0, .inr (11, y0)), (y9, .inl (kA 0, 2, .inl (fun _ => 0))), (y16, .inl (kA 0, 128, .inl (fun _ => 0))), (y17, .inl (kA 0, 128, .inl (fun _ => 0))), (y18, .inl (kA 0, 128, .inl (fun _ => 0))), (y19, .inl (kA 0, 128, .inl (fun _ => 0))), (o0, .inl (kA 1, 1, .inr (.inl (fun _ => 0))))] := hD
    refine lv_istore (lv' := [(5, .int 1), (0, .ref b), (1, .ref h0), (2, .ref m0), (3, .ref o0), (4, .int 0)]) hx hb dL_law_315 hl (by decide) rfl (fun ls hl => ?_)
    refine lv_aload_n hx hb dL_law_317 rfl (lv_at hl 3 rfl) ?_
    refine lv_aload_n hx hb dL_law_318 rfl (lv_at hl 1 rfl) ?_
    refine lv_iload hx hb dL_law_319 (lv_at hl 5 rfl) ?_
    refine lv_iconst (v := 1) hx hb dL_law_321 (by decide) ?_
    refine lv_iadd hx hb dL_law_322 ?_
    refine W.eq (g2 := F0 m 323 ls [.int 1, .ref b, .ref m0]) rfl ?_
    refine va_sld hx hb hX hbl hbA hS (show vp_in 1 8 by unfold vp_in; decide) dL_law_323 ?_
    refine W.eq (g2 := F0 m 324 ls [.int (xs 1), .ref m0]) rfl ?_
    have hPc := hP.sub (ws' := [(m0, .inr (11, y0)), (y9, .inl (kA 0, 2, .inl (fun _ => 0))), (y16, .inl (kA 0, 128, .inl (fun _ => 0))), (y17, .inl (kA 0, 128, .inl (fun _ => 0))), (y18, .inl (kA 0, 128, .inl (fun _ => 0))), (y19, .inl (kA 0, 128, .inl (fun _ => 0)))]) [0, 1, 2, 3, 4, 5] rfl
    have hDc := hD.sub (ws' := [(m0, .inr (11, y0)), (y9, .inl (kA 0, 2, .inl (fun _ => 0))), (y16, .inl (kA 0, 128, .inl (fun _ => 0))), (y17, .inl (kA 0, 128, .inl (fun _ => 0))), (y18, .inl (kA 0, 128, .inl (fun _ => 0))), (y19, .inl (kA 0, 128, .inl (fun _ => 0)))]) [0, 1, 2, 3, 4, 5] (by decide) rfl
    have hFc := va_free (wc := [(m0, .inr (11, y0)), (y9, .inl (kA 0, 2, .inl (fun _ => 0))), (y16, .inl (kA 0, 128, .inl (fun _ => 0))), (y17, .inl (kA 0, 128, .inl (fun _ => 0))), (y18, .inl (kA 0, 128, .inl (fun _ => 0))), (y19, .inl (kA 0, 128, .inl (fun _ => 0)))]) hD hS hA [0, 1, 2, 3, 4, 5] rfl
    refine va_calli (va_runV (As := [.int (xs 1)]) (rest := []) ⟨hx, hb, hml, hown, hts⟩ (a120_X12_scan l  D kA V H.size m0 (xs 1) y9 y16 y17 y18 y19 y0 (fun k hk => (hq k hk)) hq9 hq48 hq55 hq84 hq85 hq86 hq87 hq98 hq104) (cwV 1 hts (gw_V gw_2605 gw_2606 gw_2607 gw_16 gw_2608) rfl rfl rfl (by decide +kernel) ⟨(Nat.le_of_ble_eq_true rfl), (Nat.le_of_ble_eq_true rfl)⟩) ⟨aP.blind, va_recv hK hP (ci := 11) (q0 := 0) rfl rfl, aP.pre hE hS hPc hK hDc hFc⟩ rfl rfl hl.1 rfl (lv_room (Nat.le_of_ble_eq_true rfl)) dL_law_324 ⟨(Nat.le_of_ble_eq_true rfl), (Nat.le_of_ble_eq_true rfl)⟩) hS (fun q _ h => hFc q h) hFc (fun r_14 u t H1 locs ht hvm hw hB hz1 hk1 hS => ?_)
    obtain ⟨u_15, u_16, u_17, u_18⟩ := u
    obtain ⟨hP1, hD1⟩ := hB
    rw [ht] at hP1
    try dsimp only at hw hP1 hD1
    rcases hw with ⟨c_19, c_20, w_21, w_22, w_23, w_24, h_25, h_26, h_27, h_28, h_29⟩ | ⟨c_30, c_31, c_32, w_33, w_34, w_35, w_36, h_37, h_38, h_39, h_40, h_41⟩ | ⟨c_42, c_43, w_44, w_45, h_46, h_47, h_48, h_49, h_50⟩
    · skip
      subst w_21
      subst w_22
      subst w_23
      subst w_24
      obtain ⟨hP, hD⟩ := va_join (wr := [(o0, .inl (kA 1, 1, .inr (.inl (fun _ => 0))))]) (w1 := [(m0, .inr (11, u_16)), (y9, .inl (kA 0, 2, .inl (fun _ => 0))), (y16, .inl (kA 0, 128, .inl (fun _ => 0))), (y17, .inl (kA 0, 128, .inl (fun _ => 0))), (y18, .inl (kA 0, 128, .inl (fun _ => 0))), (y19, .inl (kA 0, 128, .inl (fun _ => 0)))]) hP hD [0, 1, 2, 3, 4, 5] [6] rfl rfl (by decide) (by decide) hk1 hFc hP1 hD1
      generalize H1 = H at hP hS ⊢
      have hP : va_P D vwCl [(o0, .inl (kA 1, 1, .inr (.inl (fun _ => 0)))), (m0, .inr (11, u_16)), (y9, .inl (kA 0, 2, .inl (fun _ => 0))), (y16, .inl (kA 0, 128, .inl (fun _ => 0))), (y17, .inl (kA 0, 128, .inl (fun _ => 0))), (y18, .inl (kA 0, 128, .inl (fun _ => 0))), (y19, .inl (kA 0, 128, .inl (fun _ => 0)))] H := hP
      have hD : va_D A [(o0, .inl (kA 1, 1, .inr (.inl (fun _ => 0)))), (m0, .inr (11, u_16)), (y9, .inl (kA 0, 2, .inl (fun _ => 0))), (y16, .inl (kA 0, 128, .inl (fun _ => 0))), (y17, .inl (kA 0, 128, .inl (fun _ => 0))), (y18, .inl (kA 0, 128, .inl (fun _ => 0))), (y19, .inl (kA 0, 128, .inl (fun _ => 0)))] := hD
      refine lv_istore (lv' := [(6, .int 0), (5, .int 1), (0, .ref b), (1, .ref h0), (2, .ref m0), (3, .ref o0), (4, .int 0)]) hx hb dL_law_327 hl (by decide) rfl (fun ls hl => ?_)
      refine lv_aload_n hx hb dL_law_329 rfl (lv_at hl 4 rfl) ?_
      have hPc := hP.sub (ws' := [(m0, .inr (11, u_16))]) [1] rfl
      have hDc := hD.sub (ws' := [(m0, .inr (11, u_16))]) [1] (by decide) rfl
      have hFc := va_free (wc := [(m0, .inr (11, u_16))]) hD hS hA [1] rfl
      refine va_calli (va_runV (As := []) (rest := []) ⟨hx, hb, hml, hown, hts⟩ (a174_X12_thrown l  D kA V H.size m0 u_16 (fun k hk => (h_25 k hk)) h_26) (cwV 0 hts (gw_V gw_1879 gw_1880 gw_1881 gw_16 gw_1882) rfl rfl rfl (by decide +kernel) ⟨(Nat.le_of_ble_eq_true rfl), (Nat.le_of_ble_eq_true rfl)⟩) ⟨aP.blind, va_recv hK hP (ci := 11) (q0 := 1) rfl rfl, aP.pre hE hS hPc hK hDc hFc⟩ rfl rfl hl.1 rfl (lv_room (Nat.le_of_ble_eq_true rfl)) dL_law_330 ⟨(Nat.le_of_ble_eq_true rfl), (Nat.le_of_ble_eq_true rfl)⟩) hS (fun q _ h => hFc q h) hFc (fun r_51 u t H1 locs ht hvm hw hB hz1 hk1 hS => ?_)
      obtain ⟨hP1, hD1⟩ := hB
      rw [ht] at hP1
      try dsimp only at hw hP1 hD1
      have w_52 := hw
      subst w_52
      obtain ⟨hP, hD⟩ := va_join (wr := [(o0, .inl (kA 1, 1, .inr (.inl (fun _ => 0)))), (y9, .inl (kA 0, 2, .inl (fun _ => 0))), (y16, .inl (kA 0, 128, .inl (fun _ => 0))), (y17, .inl (kA 0, 128, .inl (fun _ => 0))), (y18, .inl (kA 0, 128, .inl (fun _ => 0))), (y19, .inl (kA 0, 128, .inl (fun _ => 0)))]) (w1 := [(m0, .inr (11, u_16))]) hP hD [1] [0, 2, 3, 4, 5, 6] rfl rfl (by decide) (by decide) hk1 hFc hP1 hD1
      generalize H1 = H at hP hS ⊢
      have hP : va_P D vwCl [(o0, .inl (kA 1, 1, .inr (.inl (fun _ => 0)))), (y9, .inl (kA 0, 2, .inl (fun _ => 0))), (y16, .inl (kA 0, 128, .inl (fun _ => 0))), (y17, .inl (kA 0, 128, .inl (fun _ => 0))), (y18, .inl (kA 0, 128, .inl (fun _ => 0))), (y19, .inl (kA 0, 128, .inl (fun _ => 0))), (m0, .inr (11, u_16))] H := hP
      have hD : va_D A [(o0, .inl (kA 1, 1, .inr (.inl (fun _ => 0)))), (y9, .inl (kA 0, 2, .inl (fun _ => 0))), (y16, .inl (kA 0, 128, .inl (fun _ => 0))), (y17, .inl (kA 0, 128, .inl (fun _ => 0))), (y18, .inl (kA 0, 128, .inl (fun _ => 0))), (y19, .inl (kA 0, 128, .inl (fun _ => 0))), (m0, .inr (11, u_16))] := hD
      refine lv_iload hx hb dL_law_333 (lv_at hl 1 rfl) ?_
      refine lv_icmp_eq (tgt := 340) hx hb dL_law_335 (by decide) (fun c_53 => ?_) (fun c_53 => ?_)
      · skip
        refine lv_iload hx hb dL_law_340 (lv_at hl 1 rfl) ?_
        refine lv_if_ne (tgt := 357) hx hb dL_law_342 (by decide) (fun c_54 => ?_) (fun c_54 => ?_)
        · skip
          refine lv_goto (tgt := 1804) hx hb dL_law_357 (by decide) ?_
          exact lk_tail hC hA2 (lv_sub hl [2, 6] rfl) hS (Nat.le_of_ble_eq_true rfl) (Nat.le_of_ble_eq_true rfl)
        · exact absurd c_54 (by decide)
      · exact absurd (by decide) c_53
    · skip
      subst w_33
      subst w_34
      subst w_35
      subst w_36
      exact absurd c_3 c_30
    · skip
      subst w_44
      subst w_45
      exact absurd c_3 c_42
  · skip
    subst w_8
    subst w_9
    obtain ⟨hP, hD⟩ := va_join (wr := [(m0, .inr (11, y0)), (y9, .inl (kA 0, 2, .inl (fun _ => 0))), (y16, .inl (kA 0, 128, .inl (fun _ => 0))), (y17, .inl (kA 0, 128, .inl (fun _ => 0))), (y18, .inl (kA 0, 128, .inl (fun _ => 0))), (y19, .inl (kA 0, 128, .inl (fun _ => 0)))]) (w1 := [(o0, .inl (kA 1, 1, .inr (.inl (fun _ => 0))))]) hP hD [0, 1, 2, 3, 4, 5, 6, 7, 8, 9, 10, 11, 12, 13, 20] [14, 15, 16, 17, 18, 19] rfl rfl (by decide) (by decide) hk1 hFc hP1 hD1
    generalize H1 = H at hP hS ⊢
    have hP : va_P D vwCl [(m0, .inr (11, y0)), (y9, .inl (kA 0, 2, .inl (fun _ => 0))), (y16, .inl (kA 0, 128, .inl (fun _ => 0))), (y17, .inl (kA 0, 128, .inl (fun _ => 0))), (y18, .inl (kA 0, 128, .inl (fun _ => 0))), (y19, .inl (kA 0, 128, .inl (fun _ => 0))), (o0, .inl (kA 1, 1, .inr (.inl (fun _ => 0))))] H := hP
    have hD : va_D A [(m0, .inr (11, y0)), (y9, .inl (kA 0, 2, .inl (fun _ => 0))), (y16, .inl (kA 0, 128, .inl (fun _ => 0))), (y17, .inl (kA 0, 128, .inl (fun _ => 0))), (y18, .inl (kA 0, 128, .inl (fun _ => 0))), (y19, .inl (kA 0, 128, .inl (fun _ => 0))), (o0, .inl (kA 1, 1, .inr (.inl (fun _ => 0))))] := hD
    refine lv_istore (lv' := [(5, .int 1), (0, .ref b), (1, .ref h0), (2, .ref m0), (3, .ref o0), (4, .int 0)]) hx hb dL_law_315 hl (by decide) rfl (fun ls hl => ?_)
    refine lv_aload_n hx hb dL_law_317 rfl (lv_at hl 3 rfl) ?_
    refine lv_aload_n hx hb dL_law_318 rfl (lv_at hl 1 rfl) ?_
    refine lv_iload hx hb dL_law_319 (lv_at hl 5 rfl) ?_
    refine lv_iconst (v := 1) hx hb dL_law_321 (by decide) ?_
    refine lv_iadd hx hb dL_law_322 ?_
    refine W.eq (g2 := F0 m 323 ls [.int 1, .ref b, .ref m0]) rfl ?_
    refine va_sld hx hb hX hbl hbA hS (show vp_in 1 8 by unfold vp_in; decide) dL_law_323 ?_
    refine W.eq (g2 := F0 m 324 ls [.int (xs 1), .ref m0]) rfl ?_
    have hPc := hP.sub (ws' := [(m0, .inr (11, y0)), (y9, .inl (kA 0, 2, .inl (fun _ => 0))), (y16, .inl (kA 0, 128, .inl (fun _ => 0))), (y17, .inl (kA 0, 128, .inl (fun _ => 0))), (y18, .inl (kA 0, 128, .inl (fun _ => 0))), (y19, .inl (kA 0, 128, .inl (fun _ => 0)))]) [0, 1, 2, 3, 4, 5] rfl
    have hDc := hD.sub (ws' := [(m0, .inr (11, y0)), (y9, .inl (kA 0, 2, .inl (fun _ => 0))), (y16, .inl (kA 0, 128, .inl (fun _ => 0))), (y17, .inl (kA 0, 128, .inl (fun _ => 0))), (y18, .inl (kA 0, 128, .inl (fun _ => 0))), (y19, .inl (kA 0, 128, .inl (fun _ => 0)))]) [0, 1, 2, 3, 4, 5] (by decide) rfl
    have hFc := va_free (wc := [(m0, .inr (11, y0)), (y9, .inl (kA 0, 2, .inl (fun _ => 0))), (y16, .inl (kA 0, 128, .inl (fun _ => 0))), (y17, .inl (kA 0, 128, .inl (fun _ => 0))), (y18, .inl (kA 0, 128, .inl (fun _ => 0))), (y19, .inl (kA 0, 128, .inl (fun _ => 0)))]) hD hS hA [0, 1, 2, 3, 4, 5] rfl
    refine va_calli (va_runV (As := [.int (xs 1)]) (rest := []) ⟨hx, hb, hml, hown, hts⟩ (a120_X12_scan l  D kA V H.size m0 (xs 1) y9 y16 y17 y18 y19 y0 (fun k hk => (hq k hk)) hq9 hq48 hq55 hq84 hq85 hq86 hq87 hq98 hq104) (cwV 1 hts (gw_V gw_2605 gw_2606 gw_2607 gw_16 gw_2608) rfl rfl rfl (by decide +kernel) ⟨(Nat.le_of_ble_eq_true rfl), (Nat.le_of_ble_eq_true rfl)⟩) ⟨aP.blind, va_recv hK hP (ci := 11) (q0 := 0) rfl rfl, aP.pre hE hS hPc hK hDc hFc⟩ rfl rfl hl.1 rfl (lv_room (Nat.le_of_ble_eq_true rfl)) dL_law_324 ⟨(Nat.le_of_ble_eq_true rfl), (Nat.le_of_ble_eq_true rfl)⟩) hS (fun q _ h => hFc q h) hFc (fun r_55 u t H1 locs ht hvm hw hB hz1 hk1 hS => ?_)
    obtain ⟨u_56, u_57, u_58, u_59⟩ := u
    obtain ⟨hP1, hD1⟩ := hB
    rw [ht] at hP1
    try dsimp only at hw hP1 hD1
    rcases hw with ⟨c_60, c_61, w_62, w_63, w_64, w_65, h_66, h_67, h_68, h_69, h_70⟩ | ⟨c_71, c_72, c_73, w_74, w_75, w_76, w_77, h_78, h_79, h_80, h_81, h_82⟩ | ⟨c_83, c_84, w_85, w_86, h_87, h_88, h_89, h_90, h_91⟩
    · skip
      subst w_62
      subst w_63
      subst w_64
      subst w_65
      exact absurd c_60 c_6
    · skip
      subst w_74
      subst w_75
      subst w_76
      subst w_77
      obtain ⟨hP, hD⟩ := va_join (wr := [(o0, .inl (kA 1, 1, .inr (.inl (fun _ => 0))))]) (w1 := [(m0, .inr (11, u_57)), (y9, .inl (kA 0, 2, .inl (fun _ => 0))), (y16, .inl (kA 0, 128, .inl (fun _ => 0))), (y17, .inl (kA 0, 128, .inl (fun _ => 0))), (y18, .inl (kA 0, 128, .inl (fun _ => 0))), (y19, .inl (kA 0, 128, .inl (fun _ => 0)))]) hP hD [0, 1, 2, 3, 4, 5] [6] rfl rfl (by decide) (by decide) hk1 hFc hP1 hD1
      generalize H1 = H at hP hS ⊢
      have hP : va_P D vwCl [(o0, .inl (kA 1, 1, .inr (.inl (fun _ => 0)))), (m0, .inr (11, u_57)), (y9, .inl (kA 0, 2, .inl (fun _ => 0))), (y16, .inl (kA 0, 128, .inl (fun _ => 0))), (y17, .inl (kA 0, 128, .inl (fun _ => 0))), (y18, .inl (kA 0, 128, .inl (fun _ => 0))), (y19, .inl (kA 0, 128, .inl (fun _ => 0)))] H := hP
      have hD : va_D A [(o0, .inl (kA 1, 1, .inr (.inl (fun _ => 0)))), (m0, .inr (11, u_57)), (y9, .inl (kA 0, 2, .inl (fun _ => 0))), (y16, .inl (kA 0, 128, .inl (fun _ => 0))), (y17, .inl (kA 0, 128, .inl (fun _ => 0))), (y18, .inl (kA 0, 128, .inl (fun _ => 0))), (y19, .inl (kA 0, 128, .inl (fun _ => 0)))] := hD
      refine lv_istore (lv' := [(6, .int 0), (5, .int 1), (0, .ref b), (1, .ref h0), (2, .ref m0), (3, .ref o0), (4, .int 0)]) hx hb dL_law_327 hl (by decide) rfl (fun ls hl => ?_)
      refine lv_aload_n hx hb dL_law_329 rfl (lv_at hl 4 rfl) ?_
      have hPc := hP.sub (ws' := [(m0, .inr (11, u_57))]) [1] rfl
      have hDc := hD.sub (ws' := [(m0, .inr (11, u_57))]) [1] (by decide) rfl
      have hFc := va_free (wc := [(m0, .inr (11, u_57))]) hD hS hA [1] rfl
      refine va_calli (va_runV (As := []) (rest := []) ⟨hx, hb, hml, hown, hts⟩ (a174_X12_thrown l  D kA V H.size m0 u_57 (fun k hk => (h_78 k hk)) h_79) (cwV 0 hts (gw_V gw_1879 gw_1880 gw_1881 gw_16 gw_1882) rfl rfl rfl (by decide +kernel) ⟨(Nat.le_of_ble_eq_true rfl), (Nat.le_of_ble_eq_true rfl)⟩) ⟨aP.blind, va_recv hK hP (ci := 11) (q0 := 1) rfl rfl, aP.pre hE hS hPc hK hDc hFc⟩ rfl rfl hl.1 rfl (lv_room (Nat.le_of_ble_eq_true rfl)) dL_law_330 ⟨(Nat.le_of_ble_eq_true rfl), (Nat.le_of_ble_eq_true rfl)⟩) hS (fun q _ h => hFc q h) hFc (fun r_92 u t H1 locs ht hvm hw hB hz1 hk1 hS => ?_)
      obtain ⟨hP1, hD1⟩ := hB
      rw [ht] at hP1
      try dsimp only at hw hP1 hD1
      have w_93 := hw
      subst w_93
      obtain ⟨hP, hD⟩ := va_join (wr := [(o0, .inl (kA 1, 1, .inr (.inl (fun _ => 0)))), (y9, .inl (kA 0, 2, .inl (fun _ => 0))), (y16, .inl (kA 0, 128, .inl (fun _ => 0))), (y17, .inl (kA 0, 128, .inl (fun _ => 0))), (y18, .inl (kA 0, 128, .inl (fun _ => 0))), (y19, .inl (kA 0, 128, .inl (fun _ => 0)))]) (w1 := [(m0, .inr (11, u_57))]) hP hD [1] [0, 2, 3, 4, 5, 6] rfl rfl (by decide) (by decide) hk1 hFc hP1 hD1
      generalize H1 = H at hP hS ⊢
      have hP : va_P D vwCl [(o0, .inl (kA 1, 1, .inr (.inl (fun _ => 0)))), (y9, .inl (kA 0, 2, .inl (fun _ => 0))), (y16, .inl (kA 0, 128, .inl (fun _ => 0))), (y17, .inl (kA 0, 128, .inl (fun _ => 0))), (y18, .inl (kA 0, 128, .inl (fun _ => 0))), (y19, .inl (kA 0, 128, .inl (fun _ => 0))), (m0, .inr (11, u_57))] H := hP
      have hD : va_D A [(o0, .inl (kA 1, 1, .inr (.inl (fun _ => 0)))), (y9, .inl (kA 0, 2, .inl (fun _ => 0))), (y16, .inl (kA 0, 128, .inl (fun _ => 0))), (y17, .inl (kA 0, 128, .inl (fun _ => 0))), (y18, .inl (kA 0, 128, .inl (fun _ => 0))), (y19, .inl (kA 0, 128, .inl (fun _ => 0))), (m0, .inr (11, u_57))] := hD
      refine lv_iload hx hb dL_law_333 (lv_at hl 1 rfl) ?_
      refine lv_icmp_eq (tgt := 340) hx hb dL_law_335 (by decide) (fun c_94 => ?_) (fun c_94 => ?_)
      · skip
        refine lv_iload hx hb dL_law_340 (lv_at hl 1 rfl) ?_
        refine lv_if_ne (tgt := 357) hx hb dL_law_342 (by decide) (fun c_95 => ?_) (fun c_95 => ?_)
        · skip
          refine lv_goto (tgt := 1804) hx hb dL_law_357 (by decide) ?_
          exact lk_tail hC hA2 (lv_sub hl [2, 6] rfl) hS (Nat.le_of_ble_eq_true rfl) (Nat.le_of_ble_eq_true rfl)
        · exact absurd c_95 (by decide)
      · exact absurd (by decide) c_94
    · skip
      subst w_85
      subst w_86
      exact absurd (Int32.not_le.mp c_7) c_84
  · skip
    subst w_12
    subst w_13
    obtain ⟨hP, hD⟩ := va_join (wr := [(m0, .inr (11, y0)), (y9, .inl (kA 0, 2, .inl (fun _ => 0))), (y16, .inl (kA 0, 128, .inl (fun _ => 0))), (y17, .inl (kA 0, 128, .inl (fun _ => 0))), (y18, .inl (kA 0, 128, .inl (fun _ => 0))), (y19, .inl (kA 0, 128, .inl (fun _ => 0)))]) (w1 := [(o0, .inl (kA 1, 1, .inr (.inl (vp_updL (fun _ => 0) 0 ((0 : Int32).toInt64)))))]) hP hD [0, 1, 2, 3, 4, 5, 6, 7, 8, 9, 10, 11, 12, 13, 20] [14, 15, 16, 17, 18, 19] rfl rfl (by decide) (by decide) hk1 hFc hP1 hD1
    generalize H1 = H at hP hS ⊢
    have hP : va_P D vwCl [(m0, .inr (11, y0)), (y9, .inl (kA 0, 2, .inl (fun _ => 0))), (y16, .inl (kA 0, 128, .inl (fun _ => 0))), (y17, .inl (kA 0, 128, .inl (fun _ => 0))), (y18, .inl (kA 0, 128, .inl (fun _ => 0))), (y19, .inl (kA 0, 128, .inl (fun _ => 0))), (o0, .inl (kA 1, 1, .inr (.inl (vp_updL (fun _ => 0) 0 ((0 : Int32).toInt64)))))] H := hP
    have hD : va_D A [(m0, .inr (11, y0)), (y9, .inl (kA 0, 2, .inl (fun _ => 0))), (y16, .inl (kA 0, 128, .inl (fun _ => 0))), (y17, .inl (kA 0, 128, .inl (fun _ => 0))), (y18, .inl (kA 0, 128, .inl (fun _ => 0))), (y19, .inl (kA 0, 128, .inl (fun _ => 0))), (o0, .inl (kA 1, 1, .inr (.inl (vp_updL (fun _ => 0) 0 ((0 : Int32).toInt64)))))] := hD
    refine lv_istore (lv' := [(5, .int 0), (0, .ref b), (1, .ref h0), (2, .ref m0), (3, .ref o0), (4, .int 0)]) hx hb dL_law_315 hl (by decide) rfl (fun ls hl => ?_)
    refine lv_aload_n hx hb dL_law_317 rfl (lv_at hl 3 rfl) ?_
    refine lv_aload_n hx hb dL_law_318 rfl (lv_at hl 1 rfl) ?_
    refine lv_iload hx hb dL_law_319 (lv_at hl 5 rfl) ?_
    refine lv_iconst (v := 1) hx hb dL_law_321 (by decide) ?_
    refine lv_iadd hx hb dL_law_322 ?_
    refine W.eq (g2 := F0 m 323 ls [.int 1, .ref b, .ref m0]) rfl ?_
    refine va_sld hx hb hX hbl hbA hS (show vp_in 1 8 by unfold vp_in; decide) dL_law_323 ?_
    refine W.eq (g2 := F0 m 324 ls [.int (xs 1), .ref m0]) rfl ?_
    have hPc := hP.sub (ws' := [(m0, .inr (11, y0)), (y9, .inl (kA 0, 2, .inl (fun _ => 0))), (y16, .inl (kA 0, 128, .inl (fun _ => 0))), (y17, .inl (kA 0, 128, .inl (fun _ => 0))), (y18, .inl (kA 0, 128, .inl (fun _ => 0))), (y19, .inl (kA 0, 128, .inl (fun _ => 0)))]) [0, 1, 2, 3, 4, 5] rfl
    have hDc := hD.sub (ws' := [(m0, .inr (11, y0)), (y9, .inl (kA 0, 2, .inl (fun _ => 0))), (y16, .inl (kA 0, 128, .inl (fun _ => 0))), (y17, .inl (kA 0, 128, .inl (fun _ => 0))), (y18, .inl (kA 0, 128, .inl (fun _ => 0))), (y19, .inl (kA 0, 128, .inl (fun _ => 0)))]) [0, 1, 2, 3, 4, 5] (by decide) rfl
    have hFc := va_free (wc := [(m0, .inr (11, y0)), (y9, .inl (kA 0, 2, .inl (fun _ => 0))), (y16, .inl (kA 0, 128, .inl (fun _ => 0))), (y17, .inl (kA 0, 128, .inl (fun _ => 0))), (y18, .inl (kA 0, 128, .inl (fun _ => 0))), (y19, .inl (kA 0, 128, .inl (fun _ => 0)))]) hD hS hA [0, 1, 2, 3, 4, 5] rfl
    refine va_calli (va_runV (As := [.int (xs 1)]) (rest := []) ⟨hx, hb, hml, hown, hts⟩ (a120_X12_scan l  D kA V H.size m0 (xs 1) y9 y16 y17 y18 y19 y0 (fun k hk => (hq k hk)) hq9 hq48 hq55 hq84 hq85 hq86 hq87 hq98 hq104) (cwV 1 hts (gw_V gw_2605 gw_2606 gw_2607 gw_16 gw_2608) rfl rfl rfl (by decide +kernel) ⟨(Nat.le_of_ble_eq_true rfl), (Nat.le_of_ble_eq_true rfl)⟩) ⟨aP.blind, va_recv hK hP (ci := 11) (q0 := 0) rfl rfl, aP.pre hE hS hPc hK hDc hFc⟩ rfl rfl hl.1 rfl (lv_room (Nat.le_of_ble_eq_true rfl)) dL_law_324 ⟨(Nat.le_of_ble_eq_true rfl), (Nat.le_of_ble_eq_true rfl)⟩) hS (fun q _ h => hFc q h) hFc (fun r_96 u t H1 locs ht hvm hw hB hz1 hk1 hS => ?_)
    obtain ⟨u_97, u_98, u_99, u_100⟩ := u
    obtain ⟨hP1, hD1⟩ := hB
    rw [ht] at hP1
    try dsimp only at hw hP1 hD1
    rcases hw with ⟨c_101, c_102, w_103, w_104, w_105, w_106, h_107, h_108, h_109, h_110, h_111⟩ | ⟨c_112, c_113, c_114, w_115, w_116, w_117, w_118, h_119, h_120, h_121, h_122, h_123⟩ | ⟨c_124, c_125, w_126, w_127, h_128, h_129, h_130, h_131, h_132⟩
    · skip
      subst w_103
      subst w_104
      subst w_105
      subst w_106
      exact absurd c_101 c_10
    · skip
      subst w_115
      subst w_116
      subst w_117
      subst w_118
      exact absurd c_113 (Int32.not_lt.mpr c_11)
    · skip
      subst w_126
      subst w_127
      obtain ⟨hP, hD⟩ := va_join (wr := [(o0, .inl (kA 1, 1, .inr (.inl (vp_updL (fun _ => 0) 0 ((0 : Int32).toInt64)))))]) (w1 := [(m0, .inr (11, u_98)), (y9, .inl (kA 0, 2, .inl (fun _ => 0))), (y16, .inl (kA 0, 128, .inl u_99)), (y17, .inl (kA 0, 128, .inl u_100)), (y18, .inl (kA 0, 128, .inl (fun _ => 0))), (y19, .inl (kA 0, 128, .inl (fun _ => 0)))]) hP hD [0, 1, 2, 3, 4, 5] [6] rfl rfl (by decide) (by decide) hk1 hFc hP1 hD1
      generalize H1 = H at hP hS ⊢
      have hP : va_P D vwCl [(o0, .inl (kA 1, 1, .inr (.inl (vp_updL (fun _ => 0) 0 ((0 : Int32).toInt64))))), (m0, .inr (11, u_98)), (y9, .inl (kA 0, 2, .inl (fun _ => 0))), (y16, .inl (kA 0, 128, .inl u_99)), (y17, .inl (kA 0, 128, .inl u_100)), (y18, .inl (kA 0, 128, .inl (fun _ => 0))), (y19, .inl (kA 0, 128, .inl (fun _ => 0)))] H := hP
      have hD : va_D A [(o0, .inl (kA 1, 1, .inr (.inl (vp_updL (fun _ => 0) 0 ((0 : Int32).toInt64))))), (m0, .inr (11, u_98)), (y9, .inl (kA 0, 2, .inl (fun _ => 0))), (y16, .inl (kA 0, 128, .inl u_99)), (y17, .inl (kA 0, 128, .inl u_100)), (y18, .inl (kA 0, 128, .inl (fun _ => 0))), (y19, .inl (kA 0, 128, .inl (fun _ => 0)))] := hD
      refine lv_istore (lv' := [(6, .int 0), (5, .int 0), (0, .ref b), (1, .ref h0), (2, .ref m0), (3, .ref o0), (4, .int 0)]) hx hb dL_law_327 hl (by decide) rfl (fun ls hl => ?_)
      refine lv_aload_n hx hb dL_law_329 rfl (lv_at hl 4 rfl) ?_
      have hPc := hP.sub (ws' := [(m0, .inr (11, u_98))]) [1] rfl
      have hDc := hD.sub (ws' := [(m0, .inr (11, u_98))]) [1] (by decide) rfl
      have hFc := va_free (wc := [(m0, .inr (11, u_98))]) hD hS hA [1] rfl
      refine va_calli (va_runV (As := []) (rest := []) ⟨hx, hb, hml, hown, hts⟩ (a94_X12_thrown l  D kA V H.size m0 u_98 (fun k hk => (h_128 k hk)) h_129) (cwV 0 hts (gw_V gw_1879 gw_1880 gw_1881 gw_16 gw_1882) rfl rfl rfl (by decide +kernel) ⟨(Nat.le_of_ble_eq_true rfl), (Nat.le_of_ble_eq_true rfl)⟩) ⟨aP.blind, va_recv hK hP (ci := 11) (q0 := 1) rfl rfl, aP.pre hE hS hPc hK hDc hFc⟩ rfl rfl hl.1 rfl (lv_room (Nat.le_of_ble_eq_true rfl)) dL_law_330 ⟨(Nat.le_of_ble_eq_true rfl), (Nat.le_of_ble_eq_true rfl)⟩) hS (fun q _ h => hFc q h) hFc (fun r_133 u t H1 locs ht hvm hw hB hz1 hk1 hS => ?_)
      obtain ⟨hP1, hD1⟩ := hB
      rw [ht] at hP1
      try dsimp only at hw hP1 hD1
      have w_134 := hw
      subst w_134
      obtain ⟨hP, hD⟩ := va_join (wr := [(o0, .inl (kA 1, 1, .inr (.inl (vp_updL (fun _ => 0) 0 ((0 : Int32).toInt64))))), (y9, .inl (kA 0, 2, .inl (fun _ => 0))), (y16, .inl (kA 0, 128, .inl u_99)), (y17, .inl (kA 0, 128, .inl u_100)), (y18, .inl (kA 0, 128, .inl (fun _ => 0))), (y19, .inl (kA 0, 128, .inl (fun _ => 0)))]) (w1 := [(m0, .inr (11, u_98))]) hP hD [1] [0, 2, 3, 4, 5, 6] rfl rfl (by decide) (by decide) hk1 hFc hP1 hD1
      generalize H1 = H at hP hS ⊢
      have hP : va_P D vwCl [(o0, .inl (kA 1, 1, .inr (.inl (vp_updL (fun _ => 0) 0 ((0 : Int32).toInt64))))), (y9, .inl (kA 0, 2, .inl (fun _ => 0))), (y16, .inl (kA 0, 128, .inl u_99)), (y17, .inl (kA 0, 128, .inl u_100)), (y18, .inl (kA 0, 128, .inl (fun _ => 0))), (y19, .inl (kA 0, 128, .inl (fun _ => 0))), (m0, .inr (11, u_98))] H := hP
      have hD : va_D A [(o0, .inl (kA 1, 1, .inr (.inl (vp_updL (fun _ => 0) 0 ((0 : Int32).toInt64))))), (y9, .inl (kA 0, 2, .inl (fun _ => 0))), (y16, .inl (kA 0, 128, .inl u_99)), (y17, .inl (kA 0, 128, .inl u_100)), (y18, .inl (kA 0, 128, .inl (fun _ => 0))), (y19, .inl (kA 0, 128, .inl (fun _ => 0))), (m0, .inr (11, u_98))] := hD
      refine lv_iload hx hb dL_law_333 (lv_at hl 1 rfl) ?_
      refine lv_icmp_eq (tgt := 340) hx hb dL_law_335 (by decide) (fun c_135 => ?_) (fun c_135 => ?_)
      · skip
        refine lv_iload hx hb dL_law_340 (lv_at hl 1 rfl) ?_
        refine lv_if_ne (tgt := 357) hx hb dL_law_342 (by decide) (fun c_136 => ?_) (fun c_136 => ?_)
        · exact absurd (by decide) c_136
        · skip
          refine lv_aload_n hx hb dL_law_345 rfl (lv_at hl 5 rfl) ?_
          refine lv_iconst (v := 0) hx hb dL_law_346 (by decide) ?_
          refine va_lald hx hb hK hP 0 1 rfl rfl (show vp_in 0 1 by unfold vp_in; decide) dL_law_347 ?_
          refine W.eq (g2 := F0 m 348 ls [.long ((0 : Int32).toInt64)]) rfl ?_
          refine lv_iload hx hb dL_law_348 (lv_at hl 0 rfl) ?_
          refine lv_i2l (v := (0 : Int32).toInt64) hx hb dL_law_350 rfl ?_
          refine W.lcmp hx hb dL_law_351 ?_
          refine lv_if_eq (tgt := 357) hx hb dL_law_352 (by decide) (fun c_137 => ?_) (fun c_137 => ?_)
          · skip
            refine lv_goto (tgt := 1804) hx hb dL_law_357 (by decide) ?_
            exact lk_tail hC hA2 (lv_sub hl [2, 6] rfl) hS (Nat.le_of_ble_eq_true rfl) (Nat.le_of_ble_eq_true rfl)
          · exact absurd ((lg_cmp_eq _ _).mpr rfl) c_137
      · exact absurd (by decide) c_135
