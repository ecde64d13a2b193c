theorem dL_law_419 : decode cL_law 419 = .ok (.aload_n 1, 1) := by decide +kernel
theorem dL_law_420 : decode cL_law 420 = .ok (.aload_n 0, 1) := by decide +kernel
theorem dL_law_421 : decode cL_law 421 = .ok (.iload 4, 2) := by decide +kernel
theorem dL_law_423 : decode cL_law 423 = .ok (.iconst 1, 1) := by decide +kernel
theorem dL_law_424 : decode cL_law 424 = .ok (.iadd, 1) := by decide +kernel
theorem dL_law_425 : decode cL_law 425 = .ok (.iaload, 1) := by decide +kernel
theorem dL_law_426 : decode cL_law 426 = .ok (.aload_n 0, 1) := by decide +kernel
theorem dL_law_427 : decode cL_law 427 = .ok (.iload 4, 2) := by decide +kernel
theorem dL_law_429 : decode cL_law 429 = .ok (.iconst 2, 1) := by decide +kernel
theorem dL_law_430 : decode cL_law 430 = .ok (.iadd, 1) := by decide +kernel
theorem dL_law_431 : decode cL_law 431 = .ok (.iaload, 1) := by decide +kernel
theorem dL_law_432 : decode cL_law 432 = .ok (.aload_n 3, 1) := by decide +kernel
theorem dL_law_433 : decode cL_law 433 = .ok (.invokestatic 127, 3) := by decide +kernel
theorem dL_law_436 : decode cL_law 436 = .ok (.istore 5, 2) := by decide +kernel
theorem dL_law_438 : decode cL_law 438 = .ok (.aload_n 2, 1) := by decide +kernel
theorem dL_law_439 : decode cL_law 439 = .ok (.aload_n 0, 1) := by decide +kernel
theorem dL_law_440 : decode cL_law 440 = .ok (.iload 4, 2) := by decide +kernel
theorem dL_law_442 : decode cL_law 442 = .ok (.iconst 1, 1) := by decide +kernel
theorem dL_law_443 : decode cL_law 443 = .ok (.iadd, 1) := by decide +kernel
theorem dL_law_444 : decode cL_law 444 = .ok (.iaload, 1) := by decide +kernel
theorem dL_law_445 : decode cL_law 445 = .ok (.aload_n 0, 1) := by decide +kernel
theorem dL_law_446 : decode cL_law 446 = .ok (.iload 4, 2) := by decide +kernel
theorem dL_law_448 : decode cL_law 448 = .ok (.iconst 2, 1) := by decide +kernel
theorem dL_law_449 : decode cL_law 449 = .ok (.iadd, 1) := by decide +kernel
theorem dL_law_450 : decode cL_law 450 = .ok (.iaload, 1) := by decide +kernel
theorem dL_law_451 : decode cL_law 451 = .ok (.invokevirtual 130, 3) := by decide +kernel
theorem dL_law_454 : decode cL_law 454 = .ok (.istore 6, 2) := by decide +kernel
theorem dL_law_456 : decode cL_law 456 = .ok (.aload_n 2, 1) := by decide +kernel
theorem dL_law_457 : decode cL_law 457 = .ok (.invokevirtual 116, 3) := by decide +kernel
theorem dL_law_460 : decode cL_law 460 = .ok (.iload 5, 2) := by decide +kernel
theorem dL_law_462 : decode cL_law 462 = .ok (.if_icmp .eq 5, 3) := by decide +kernel
theorem dL_law_467 : decode cL_law 467 = .ok (.iload 5, 2) := by decide +kernel
theorem dL_law_469 : decode cL_law 469 = .ok (.ifCond .ne 15, 3) := by decide +kernel
theorem dL_law_472 : decode cL_law 472 = .ok (.aload_n 3, 1) := by decide +kernel
theorem dL_law_473 : decode cL_law 473 = .ok (.iconst 0, 1) := by decide +kernel
theorem dL_law_474 : decode cL_law 474 = .ok (.laload, 1) := by decide +kernel
theorem dL_law_475 : decode cL_law 475 = .ok (.iload 6, 2) := by decide +kernel
theorem dL_law_477 : decode cL_law 477 = .ok (.i2l, 1) := by decide +kernel
theorem dL_law_478 : decode cL_law 478 = .ok (.lcmp, 1) := by decide +kernel
theorem dL_law_479 : decode cL_law 479 = .ok (.ifCond .eq 5, 3) := by decide +kernel
theorem dL_law_484 : decode cL_law 484 = .ok (.goto 1320, 3) := by decide +kernel
set_option maxHeartbeats 4000000 in
set_option maxRecDepth 100000 in
theorem lk_7 {p : Program} {l : Launch} {e : Env} {s : State} {m : MethodId} {below : List Frame} {meth : Method} {c : Code} {D : va_G} {kA : Nat → ClassId} {V : Nat → Nat} {b : Nat} {xs : Nat → Int32} {A : Nat → Prop} (hC : lw_C p l s m meth c b 8 xs D kA V A) (hA2 : ∀ q, A q → s.heap.size ≤ q) (h0 : Nat) (m0 : Nat) (o0 : Nat) (x0 : Nat) (x1 : Nat) (x2 : Nat) (x3 : Nat) (x4 : Nat) (x5 : Nat) (x6 : Nat) (x7 : Nat) (x8 : Nat) (x20 : Nat) (y0 : List Value) (y16 : Nat) (y17 : Nat) (y18 : Nat) (y19 : Nat) (hq : ∀ k, k < 121 → k < y0.length) (hq9 : y0[9]? = some (.int 0)) (hq84 : y0[84]? = some (.ref y16)) (hq85 : y0[85]? = some (.ref y17)) (hq86 : y0[86]? = some (.ref y18)) (hq87 : y0[87]? = some (.ref y19))  {H : Heap} {locs : List Loc} {ls : Array Slot} (hl : lv_has ls 8 [(0, .ref b), (1, .ref h0), (2, .ref m0), (3, .ref o0), (4, .int 0)]) (hS : va_S A s.heap H locs) (hP : va_P D vwCl [(h0, .inr (10, [.ref x0, .int 0, .ref x1, .ref x2, .ref x3, .ref x4, .ref x5, .ref x6, .ref x7, .ref x8, .int 0, .int 3000])), (x4, .inr (1, [.ref x20])), (x20, .inl (kA 4, 8, .inr (.inr (.inr (.inr (fun i => if i < 8 then some (x20 + 1 + i) else none)))))), ((x20 + 1 + 0), .inl (kA 0, 64, .inl (fun _ => 0))), ((x20 + 1 + 1), .inl (kA 0, 64, .inl (fun _ => 0))), ((x20 + 1 + 2), .inl (kA 0, 64, .inl (fun _ => 0))), ((x20 + 1 + 3), .inl (kA 0, 64, .inl (fun _ => 0))), ((x20 + 1 + 4), .inl (kA 0, 64, .inl (fun _ => 0))), ((x20 + 1 + 5), .inl (kA 0, 64, .inl (fun _ => 0))), ((x20 + 1 + 6), .inl (kA 0, 64, .inl (fun _ => 0))), ((x20 + 1 + 7), .inl (kA 0, 64, .inl (fun _ => 0))), (m0, .inr (11, y0)), (y16, .inl (kA 0, 128, .inl (fun _ => 0))), (y17, .inl (kA 0, 128, .inl (fun _ => 0))), (y18, .inl (kA 0, 128, .inl (fun _ => 0))), (y19, .inl (kA 0, 128, .inl (fun _ => 0))), (o0, .inl (kA 1, 1, .inr (.inl (fun _ => 0))))] H) (hD : va_D A [(h0, .inr (10, [.ref x0, .int 0, .ref x1, .ref x2, .ref x3, .ref x4, .ref x5, .ref x6, .ref x7, .ref x8, .int 0, .int 3000])), (x4, .inr (1, [.ref x20])), (x20, .inl (kA 4, 8, .inr (.inr (.inr (.inr (fun i => if i < 8 then some (x20 + 1 + i) else none)))))), ((x20 + 1 + 0), .inl (kA 0, 64, .inl (fun _ => 0))), ((x20 + 1 + 1), .inl (kA 0, 64, .inl (fun _ => 0))), ((x20 + 1 + 2), .inl (kA 0, 64, .inl (fun _ => 0))), ((x20 + 1 + 3), .inl (kA 0, 64, .inl (fun _ => 0))), ((x20 + 1 + 4), .inl (kA 0, 64, .inl (fun _ => 0))), ((x20 + 1 + 5), .inl (kA 0, 64, .inl (fun _ => 0))), ((x20 + 1 + 6), .inl (kA 0, 64, .inl (fun _ => 0))), ((x20 + 1 + 7), .inl (kA 0, 64, .inl (fun _ => 0))), (m0, .inr (11, y0)), (y16, .inl (kA 0, 128, .inl (fun _ => 0))), (y17, .inl (kA 0, 128, .inl (fun _ => 0))), (y18, .inl (kA 0, 128, .inl (fun _ => 0))), (y19, .inl (kA 0, 128, .inl (fun _ => 0))), (o0, .inl (kA 1, 1, .inr (.inl (fun _ => 0))))]) : W p l e room_1 s m #[Value.ref b] below meth c H locs 514 172793 (lw_Z below #[Value.ref b] s) (F0 m 419 ls []) := by
  have ⟨hst, hx, hb, hr, hml, hown, hts, hG, hX, hbl, hbA, hlocks, hE, hK, hA⟩ := hC
  refine lv_aload_n hx hb dL_law_419 rfl (lv_at hl 1 rfl) ?_
  refine lv_aload_n hx hb dL_law_420 rfl (lv_at hl 0 rfl) ?_
  refine lv_iload hx hb dL_law_421 (lv_at hl 4 rfl) ?_
  refine lv_iconst (v := 1) hx hb dL_law_423 (by decide) ?_
  refine lv_iadd hx hb dL_law_424 ?_
  refine W.eq (g2 := F0 m 425 ls [.int 1, .ref b, .ref h0]) rfl ?_
  refine va_sld hx hb hX hbl hbA hS (show vp_in 1 8 by unfold vp_in; decide) dL_law_425 ?_
  refine W.eq (g2 := F0 m 426 ls [.int (xs 1), .ref h0]) rfl ?_
  refine lv_aload_n hx hb dL_law_426 rfl (lv_at hl 0 rfl) ?_
  refine lv_iload hx hb dL_law_427 (lv_at hl 4 rfl) ?_
  refine lv_iconst (v := 2) hx hb dL_law_429 (by decide) ?_
  refine lv_iadd hx hb dL_law_430 ?_
  refine W.eq (g2 := F0 m 431 ls [.int 2, .ref b, .int (xs 1), .ref h0]) rfl ?_
  refine va_sld hx hb hX hbl hbA hS (show vp_in 2 8 by unfold vp_in; decide) dL_law_431 ?_
  refine W.eq (g2 := F0 m 432 ls [.int (xs 2), .int (xs 1), .ref h0]) rfl ?_
  refine lv_aload_n hx hb dL_law_432 rfl (lv_at hl 3 rfl) ?_
  have hPc := hP.sub (ws' := [(h0, .inr (10, [.ref x0, .int 0, .ref x1, .ref x2, .ref x3, .ref x4, .ref x5, .ref x6, .ref x7, .ref x8, .int 0, .int 3000])), (x4, .inr (1, [.ref x20])), (x20, .inl (kA 4, 8, .inr (.inr (.inr (.inr (fun i => if i < 8 then some (x20 + 1 + i) else none)))))), ((x20 + 1 + 0), .inl (kA 0, 64, .inl (fun _ => 0))), ((x20 + 1 + 1), .inl (kA 0, 64, .inl (fun _ => 0))), ((x20 + 1 + 2), .inl (kA 0, 64, .inl (fun _ => 0))), ((x20 + 1 + 3), .inl (kA 0, 64, .inl (fun _ => 0))), ((x20 + 1 + 4), .inl (kA 0, 64, .inl (fun _ => 0))), ((x20 + 1 + 5), .inl (kA 0, 64, .inl (fun _ => 0))), ((x20 + 1 + 6), .inl (kA 0, 64, .inl (fun _ => 0))), ((x20 + 1 + 7), .inl (kA 0, 64, .inl (fun _ => 0))), (o0, .inl (kA 1, 1, .inr (.inl (fun _ => 0))))]) [0, 1, 2, 3, 4, 5, 6, 7, 8, 9, 10, 16] rfl
  have hDc := hD.sub (ws' := [(h0, .inr (10, [.ref x0, .int 0, .ref x1, .ref x2, .ref x3, .ref x4, .ref x5, .ref x6, .ref x7, .ref x8, .int 0, .int 3000])), (x4, .inr (1, [.ref x20])), (x20, .inl (kA 4, 8, .inr (.inr (.inr (.inr (fun i => if i < 8 then some (x20 + 1 + i) else none)))))), ((x20 + 1 + 0), .inl (kA 0, 64, .inl (fun _ => 0))), ((x20 + 1 + 1), .inl (kA 0, 64, .inl (fun _ => 0))), ((x20 + 1 + 2), .inl (kA 0, 64, .inl (fun _ => 0))), ((x20 + 1 + 3), .inl (kA 0, 64, .inl (fun _ => 0))), ((x20 + 1 + 4), .inl (kA 0, 64, .inl (fun _ => 0))), ((x20 + 1 + 5), .inl (kA 0, 64, .inl (fun _ => 0))), ((x20 + 1 + 6), .inl (kA 0, 64, .inl (fun _ => 0))), ((x20 + 1 + 7), .inl (kA 0, 64, .inl (fun _ => 0))), (o0, .inl (kA 1, 1, .inr (.inl (fun _ => 0))))]) [0, 1, 2, 3, 4, 5, 6, 7, 8, 9, 10, 16] (by decide) rfl
  have hFc := va_free (wc := [(h0, .inr (10, [.ref x0, .int 0, .ref x1, .ref x2, .ref x3, .ref x4, .ref x5, .ref x6, .ref x7, .ref x8, .int 0, .int 3000])), (x4, .inr (1, [.ref x20])), (x20, .inl (kA 4, 8, .inr (.inr (.inr (.inr (fun i => if i < 8 then some (x20 + 1 + i) else none)))))), ((x20 + 1 + 0), .inl (kA 0, 64, .inl (fun _ => 0))), ((x20 + 1 + 1), .inl (kA 0, 64, .inl (fun _ => 0))), ((x20 + 1 + 2), .inl (kA 0, 64, .inl (fun _ => 0))), ((x20 + 1 + 3), .inl (kA 0, 64, .inl (fun _ => 0))), ((x20 + 1 + 4), .inl (kA 0, 64, .inl (fun _ => 0))), ((x20 + 1 + 5), .inl (kA 0, 64, .inl (fun _ => 0))), ((x20 + 1 + 6), .inl (kA 0, 64, .inl (fun _ => 0))), ((x20 + 1 + 7), .inl (kA 0, 64, .inl (fun _ => 0))), (o0, .inl (kA 1, 1, .inr (.inl (fun _ => 0))))]) hD hS hA [0, 1, 2, 3, 4, 5, 6, 7, 8, 9, 10, 16] rfl
  refine va_calli (vx_runSW (As := [.ref h0, .int (xs 1), .int (xs 2), .ref o0]) (rest := []) ⟨hx, hb, hml, hown, hts⟩ (a158_L_look l hst D kA V H.size h0 (xs 1) (xs 2) o0 x0 x1 x2 x3 x4 x5 x6 x7 x8 x20) (vx_cwSW 4 hts (gw_SW gw_1652 gw_1653 gw_0 gw_1654) rfl rfl rfl (by decide +kernel) ⟨(Nat.le_of_ble_eq_true rfl), (Nat.le_of_ble_eq_true rfl)⟩) ⟨aP.blind, aP.pre hE hS hPc hK hDc hFc⟩ rfl rfl hl.1 rfl (lv_room (Nat.le_of_ble_eq_true rfl)) dL_law_433 ⟨(Nat.le_of_ble_eq_true rfl), (Nat.le_of_ble_eq_true rfl)⟩) hS (fun q _ h => hFc q h) hFc (fun r_1 u t H1 locs ht hvm hw hB hz1 hk1 hS => ?_)
  obtain ⟨u_2, rfl⟩ : ∃ z, z = u := ⟨u, rfl⟩
  obtain ⟨hP1, hD1⟩ := hB
  rw [ht] at hP1
  try dsimp only at hw hP1 hD1
  rcases hw with ⟨c_3, w_4, w_5⟩ | ⟨c_6, c_7, c_8, w_9, w_10⟩ | ⟨c_11, c_12, c_13, c_14, w_15, w_16⟩ | ⟨c_17, c_18, w_19, w_20⟩ | ⟨c_21, c_22, c_23, c_24, w_25, w_26⟩
  · skip
    subst w_4
    subst w_5
    obtain ⟨hP, hD⟩ := va_join (wr := [(m0, .inr (11, y0)), (y16, .inl (kA 0, 128, .inl (fun _ => 0))), (y17, .inl (kA 0, 128, .inl (fun _ => 0))), (y18, .inl (kA 0, 128, .inl (fun _ => 0))), (y19, .inl (kA 0, 128, .inl (fun _ => 0)))]) (w1 := [(o0, .inl (kA 1, 1, .inr (.inl (fun _ => 0))))]) hP hD [0, 1, 2, 3, 4, 5, 6, 7, 8, 9, 10, 16] [11, 12, 13, 14, 15] rfl rfl (by decide) (by decide) hk1 hFc hP1 hD1
    generalize H1 = H at hP hS ⊢
    have hP : va_P D vwCl [(m0, .inr (11, y0)), (y16, .inl (kA 0, 128, .inl (fun _ => 0))), (y17, .inl (kA 0, 128, .inl (fun _ => 0))), (y18, .inl (kA 0, 128, .inl (fun _ => 0))), (y19, .inl (kA 0, 128, .inl (fun _ => 0))), (o0, .inl (kA 1, 1, .inr (.inl (fun _ => 0))))] H := hP
    have hD : va_D A [(m0, .inr (11, y0)), (y16, .inl (kA 0, 128, .inl (fun _ => 0))), (y17, .inl (kA 0, 128, .inl (fun _ => 0))), (y18, .inl (kA 0, 128, .inl (fun _ => 0))), (y19, .inl (kA 0, 128, .inl (fun _ => 0))), (o0, .inl (kA 1, 1, .inr (.inl (fun _ => 0))))] := hD
    refine lv_istore (lv' := [(5, .int 1), (0, .ref b), (1, .ref h0), (2, .ref m0), (3, .ref o0), (4, .int 0)]) hx hb dL_law_436 hl (by decide) rfl (fun ls hl => ?_)
    refine lv_aload_n hx hb dL_law_438 rfl (lv_at hl 3 rfl) ?_
    refine lv_aload_n hx hb dL_law_439 rfl (lv_at hl 1 rfl) ?_
    refine lv_iload hx hb dL_law_440 (lv_at hl 5 rfl) ?_
    refine lv_iconst (v := 1) hx hb dL_law_442 (by decide) ?_
    refine lv_iadd hx hb dL_law_443 ?_
    refine W.eq (g2 := F0 m 444 ls [.int 1, .ref b, .ref m0]) rfl ?_
    refine va_sld hx hb hX hbl hbA hS (show vp_in 1 8 by unfold vp_in; decide) dL_law_444 ?_
    refine W.eq (g2 := F0 m 445 ls [.int (xs 1), .ref m0]) rfl ?_
    refine lv_aload_n hx hb dL_law_445 rfl (lv_at hl 1 rfl) ?_
    refine lv_iload hx hb dL_law_446 (lv_at hl 5 rfl) ?_
    refine lv_iconst (v := 2) hx hb dL_law_448 (by decide) ?_
    refine lv_iadd hx hb dL_law_449 ?_
    refine W.eq (g2 := F0 m 450 ls [.int 2, .ref b, .int (xs 1), .ref m0]) rfl ?_
    refine va_sld hx hb hX hbl hbA hS (show vp_in 2 8 by unfold vp_in; decide) dL_law_450 ?_
    refine W.eq (g2 := F0 m 451 ls [.int (xs 2), .int (xs 1), .ref m0]) rfl ?_
    have hPc := hP.sub (ws' := [(m0, .inr (11, y0)), (y16, .inl (kA 0, 128, .inl (fun _ => 0))), (y17, .inl (kA 0, 128, .inl (fun _ => 0))), (y18, .inl (kA 0, 128, .inl (fun _ => 0))), (y19, .inl (kA 0, 128, .inl (fun _ => 0)))]) [0, 1, 2, 3, 4] rfl
    have hDc := hD.sub (ws' := [(m0, .inr (11, y0)), (y16, .inl (kA 0, 128, .inl (fun _ => 0))), (y17, .inl (kA 0, 128, .inl (fun _ => 0))), (y18, .inl (kA 0, 128, .inl (fun _ => 0))), (y19, .inl (kA 0, 128, .inl (fun _ => 0)))]) [0, 1, 2, 3, 4] (by decide) rfl
    have hFc := va_free (wc := [(m0, .inr (11, y0)), (y16, .inl (kA 0, 128, .inl (fun _ => 0))), (y17, .inl (kA 0, 128, .inl (fun _ => 0))), (y18, .inl (kA 0, 128, .inl (fun _ => 0))), (y19, .inl (kA 0, 128, .inl (fun _ => 0)))]) hD hS hA [0, 1, 2, 3, 4] rfl
    refine va_calli (va_runV (As := [.int (xs 1), .int (xs 2)]) (rest := []) ⟨hx, hb, hml, hown, hts⟩ (a128_X12_look l  D kA V H.size m0 (xs 1) (xs 2) y16 y17 y18 y19 y0 (fun k hk => (hq k hk)) hq9 hq84 hq85 hq86 hq87) (cwV 2 hts (gw_V gw_2680 gw_2681 gw_2682 gw_16 gw_2683) rfl rfl rfl (by decide +kernel) ⟨(Nat.le_of_ble_eq_true rfl), (Nat.le_of_ble_eq_true rfl)⟩) ⟨aP.blind, va_recv hK hP (ci := 11) (q0 := 0) rfl rfl, aP.pre hE hS hPc hK hDc hFc⟩ rfl rfl hl.1 rfl (lv_room (Nat.le_of_ble_eq_true rfl)) dL_law_451 ⟨(Nat.le_of_ble_eq_true rfl), (Nat.le_of_ble_eq_true rfl)⟩) hS (fun q _ h => hFc q h) hFc (fun r_27 u t H1 locs ht hvm hw hB hz1 hk1 hS => ?_)
    obtain ⟨u_28, rfl⟩ : ∃ z, z = u := ⟨u, rfl⟩
    obtain ⟨hP1, hD1⟩ := hB
    rw [ht] at hP1
    try dsimp only at hw hP1 hD1
    rcases hw with ⟨c_29, w_30, w_31⟩ | ⟨c_32, c_33, w_34, w_35⟩ | ⟨c_36, c_37, c_38, w_39, w_40⟩ | ⟨c_41, c_42, c_43, c_44, w_45, w_46⟩ | ⟨c_47, c_48, c_49, c_50, w_51, w_52⟩
    · skip
      subst w_30
      subst w_31
      obtain ⟨hP, hD⟩ := va_join (wr := [(o0, .inl (kA 1, 1, .inr (.inl (fun _ => 0))))]) (w1 := [(m0, .inr (11, y0.set 9 (.int 1))), (y16, .inl (kA 0, 128, .inl (fun _ => 0))), (y17, .inl (kA 0, 128, .inl (fun _ => 0))), (y18, .inl (kA 0, 128, .inl (fun _ => 0))), (y19, .inl (kA 0, 128, .inl (fun _ => 0)))]) hP hD [0, 1, 2, 3, 4] [5] rfl rfl (by decide) (by decide) hk1 hFc hP1 hD1
      generalize H1 = H at hP hS ⊢
      have hP : va_P D vwCl [(o0, .inl (kA 1, 1, .inr (.inl (fun _ => 0)))), (m0, .inr (11, y0.set 9 (.int 1))), (y16, .inl (kA 0, 128, .inl (fun _ => 0))), (y17, .inl (kA 0, 128, .inl (fun _ => 0))), (y18, .inl (kA 0, 128, .inl (fun _ => 0))), (y19, .inl (kA 0, 128, .inl (fun _ => 0)))] H := hP
      have hD : va_D A [(o0, .inl (kA 1, 1, .inr (.inl (fun _ => 0)))), (m0, .inr (11, y0.set 9 (.int 1))), (y16, .inl (kA 0, 128, .inl (fun _ => 0))), (y17, .inl (kA 0, 128, .inl (fun _ => 0))), (y18, .inl (kA 0, 128, .inl (fun _ => 0))), (y19, .inl (kA 0, 128, .inl (fun _ => 0)))] := hD
      refine lv_istore (lv' := [(6, .int 0), (5, .int 1), (0, .ref b), (1, .ref h0), (2, .ref m0), (3, .ref o0), (4, .int 0)]) hx hb dL_law_454 hl (by decide) rfl (fun ls hl => ?_)
      refine lv_aload_n hx hb dL_law_456 rfl (lv_at hl 4 rfl) ?_
      have hPc := hP.sub (ws' := [(m0, .inr (11, y0.set 9 (.int 1)))]) [1] rfl
      have hDc := hD.sub (ws' := [(m0, .inr (11, y0.set 9 (.int 1)))]) [1] (by decide) rfl
      have hFc := va_free (wc := [(m0, .inr (11, y0.set 9 (.int 1)))]) hD hS hA [1] rfl
      refine va_calli (va_runV (As := []) (rest := []) ⟨hx, hb, hml, hown, hts⟩ (a174_X12_thrown l  D kA V H.size m0 (y0.set 9 (.int 1)) (fun k hk => (by rw [List.length_set]; exact (hq k hk))) (List.getElem?_set_self (hq 9 (by decide)))) (cwV 0 hts (gw_V gw_1879 gw_1880 gw_1881 gw_16 gw_1882) rfl rfl rfl (by decide +kernel) ⟨(Nat.le_of_ble_eq_true rfl), (Nat.le_of_ble_eq_true rfl)⟩) ⟨aP.blind, va_recv hK hP (ci := 11) (q0 := 1) rfl rfl, aP.pre hE hS hPc hK hDc hFc⟩ rfl rfl hl.1 rfl (lv_room (Nat.le_of_ble_eq_true rfl)) dL_law_457 ⟨(Nat.le_of_ble_eq_true rfl), (Nat.le_of_ble_eq_true rfl)⟩) hS (fun q _ h => hFc q h) hFc (fun r_53 u t H1 locs ht hvm hw hB hz1 hk1 hS => ?_)
      obtain ⟨hP1, hD1⟩ := hB
      rw [ht] at hP1
      try dsimp only at hw hP1 hD1
      have w_54 := hw
      subst w_54
      obtain ⟨hP, hD⟩ := va_join (wr := [(o0, .inl (kA 1, 1, .inr (.inl (fun _ => 0)))), (y16, .inl (kA 0, 128, .inl (fun _ => 0))), (y17, .inl (kA 0, 128, .inl (fun _ => 0))), (y18, .inl (kA 0, 128, .inl (fun _ => 0))), (y19, .inl (kA 0, 128, .inl (fun _ => 0)))]) (w1 := [(m0, .inr (11, (y0.set 9 (.int 1))))]) hP hD [1] [0, 2, 3, 4, 5] rfl rfl (by decide) (by decide) hk1 hFc hP1 hD1
      generalize H1 = H at hP hS ⊢
      have hP : va_P D vwCl [(o0, .inl (kA 1, 1, .inr (.inl (fun _ => 0)))), (y16, .inl (kA 0, 128, .inl (fun _ => 0))), (y17, .inl (kA 0, 128, .inl (fun _ => 0))), (y18, .inl (kA 0, 128, .inl (fun _ => 0))), (y19, .inl (kA 0, 128, .inl (fun _ => 0))), (m0, .inr (11, (y0.set 9 (.int 1))))] H := hP
      have hD : va_D A [(o0, .inl (kA 1, 1, .inr (.inl (fun _ => 0)))), (y16, .inl (kA 0, 128, .inl (fun _ => 0))), (y17, .inl (kA 0, 128, .inl (fun _ => 0))), (y18, .inl (kA 0, 128, .inl (fun _ => 0))), (y19, .inl (kA 0, 128, .inl (fun _ => 0))), (m0, .inr (11, (y0.set 9 (.int 1))))] := hD
      refine lv_iload hx hb dL_law_460 (lv_at hl 1 rfl) ?_
      refine lv_icmp_eq (tgt := 467) hx hb dL_law_462 (by decide) (fun c_55 => ?_) (fun c_55 => ?_)
      · skip
        refine lv_iload hx hb dL_law_467 (lv_at hl 1 rfl) ?_
        refine lv_if_ne (tgt := 484) hx hb dL_law_469 (by decide) (fun c_56 => ?_) (fun c_56 => ?_)
        · skip
          refine lv_goto (tgt := 1804) hx hb dL_law_484 (by decide) ?_
          exact lk_tail hC hA2 (lv_sub hl [2, 6] rfl) hS (Nat.le_of_ble_eq_true rfl) (Nat.le_of_ble_eq_true rfl)
        · exact absurd c_56 (by decide)
      · exact absurd (by decide) c_55
    · skip
      subst w_34
      subst w_35
      exact absurd c_3 c_32
    · skip
      subst w_39
      subst w_40
      exact absurd c_3 c_36
    · skip
      subst w_45
      subst w_46
      exact absurd c_3 c_41
    · skip
      subst w_51
      subst w_52
      exact absurd c_3 c_47
  · skip
    subst w_9
    subst w_10
    obtain ⟨hP, hD⟩ := va_join (wr := [(m0, .inr (11, y0)), (y16, .inl (kA 0, 128, .inl (fun _ => 0))), (y17, .inl (kA 0, 128, .inl (fun _ => 0))), (y18, .inl (kA 0, 128, .inl (fun _ => 0))), (y19, .inl (kA 0, 128, .inl (fun _ => 0)))]) (w1 := [(o0, .inl (kA 1, 1, .inr (.inl (fun _ => 0))))]) hP hD [0, 1, 2, 3, 4, 5, 6, 7, 8, 9, 10, 16] [11, 12, 13, 14, 15] rfl rfl (by decide) (by decide) hk1 hFc hP1 hD1
    generalize H1 = H at hP hS ⊢
    have hP : va_P D vwCl [(m0, .inr (11, y0)), (y16, .inl (kA 0, 128, .inl (fun _ => 0))), (y17, .inl (kA 0, 128, .inl (fun _ => 0))), (y18, .inl (kA 0, 128, .inl (fun _ => 0))), (y19, .inl (kA 0, 128, .inl (fun _ => 0))), (o0, .inl (kA 1, 1, .inr (.inl (fun _ => 0))))] H := hP
    have hD : va_D A [(m0, .inr (11, y0)), (y16, .inl (kA 0, 128, .inl (fun _ => 0))), (y17, .inl (kA 0, 128, .inl (fun _ => 0))), (y18, .inl (kA 0, 128, .inl (fun _ => 0))), (y19, .inl (kA 0, 128, .inl (fun _ => 0))), (o0, .inl (kA 1, 1, .inr (.inl (fun _ => 0))))] := hD
    refine lv_istore (lv' := [(5, .int 2), (0, .ref b), (1, .ref h0), (2, .ref m0), (3, .ref o0), (4, .int 0)]) hx hb dL_law_436 hl (by decide) rfl (fun ls hl => ?_)
    refine lv_aload_n hx hb dL_law_438 rfl (lv_at hl 3 rfl) ?_
    refine lv_aload_n hx hb dL_law_439 rfl (lv_at hl 1 rfl) ?_
    refine lv_iload hx hb dL_law_440 (lv_at hl 5 rfl) ?_
    refine lv_iconst (v := 1) hx hb dL_law_442 (by decide) ?_
    refine lv_iadd hx hb dL_law_443 ?_
    refine W.eq (g2 := F0 m 444 ls [.int 1, .ref b, .ref m0]) rfl ?_
    refine va_sld hx hb hX hbl hbA hS (show vp_in 1 8 by unfold vp_in; decide) dL_law_444 ?_
    refine W.eq (g2 := F0 m 445 ls [.int (xs 1), .ref m0]) rfl ?_
    refine lv_aload_n hx hb dL_law_445 rfl (lv_at hl 1 rfl) ?_
    refine lv_iload hx hb dL_law_446 (lv_at hl 5 rfl) ?_
    refine lv_iconst (v := 2) hx hb dL_law_448 (by decide) ?_
    refine lv_iadd hx hb dL_law_449 ?_
    refine W.eq (g2 := F0 m 450 ls [.int 2, .ref b, .int (xs 1), .ref m0]) rfl ?_
    refine va_sld hx hb hX hbl hbA hS (show vp_in 2 8 by unfold vp_in; decide) dL_law_450 ?_
    refine W.eq (g2 := F0 m 451 ls [.int (xs 2), .int (xs 1), .ref m0]) rfl ?_
    have hPc := hP.sub (ws' := [(m0, .inr (11, y0)), (y16, .inl (kA 0, 128, .inl (fun _ => 0))), (y17, .inl (kA 0, 128, .inl (fun _ => 0))), (y18, .inl (kA 0, 128, .inl (fun _ => 0))), (y19, .inl (kA 0, 128, .inl (fun _ => 0)))]) [0, 1, 2, 3, 4] rfl
    have hDc := hD.sub (ws' := [(m0, .inr (11, y0)), (y16, .inl (kA 0, 128, .inl (fun _ => 0))), (y17, .inl (kA 0, 128, .inl (fun _ => 0))), (y18, .inl (kA 0, 128, .inl (fun _ => 0))), (y19, .inl (kA 0, 128, .inl (fun _ => 0)))]) [0, 1, 2, 3, 4] (by decide) rfl
    have hFc := va_free (wc := [(m0, .inr (11, y0)), (y16, .inl (kA 0, 128, .inl (fun _ => 0))), (y17, .inl (kA 0, 128, .inl (fun _ => 0))), (y18, .inl (kA 0, 128, .inl (fun _ => 0))), (y19, .inl (kA 0, 128, .inl (fun _ => 0)))]) hD hS hA [0, 1, 2, 3, 4] rfl
    refine va_calli (va_runV (As := [.int (xs 1), .int (xs 2)]) (rest := []) ⟨hx, hb, hml, hown, hts⟩ (a128_X12_look l  D kA V H.size m0 (xs 1) (xs 2) y16 y17 y18 y19 y0 (fun k hk => (hq k hk)) hq9 hq84 hq85 hq86 hq87) (cwV 2 hts (gw_V gw_2680 gw_2681 gw_2682 gw_16 gw_2683) rfl rfl rfl (by decide +kernel) ⟨(Nat.le_of_ble_eq_true rfl), (Nat.le_of_ble_eq_true rfl)⟩) ⟨aP.blind, va_recv hK hP (ci := 11) (q0 := 0) rfl rfl, aP.pre hE hS hPc hK hDc hFc⟩ rfl rfl hl.1 rfl (lv_room (Nat.le_of_ble_eq_true rfl)) dL_law_451 ⟨(Nat.le_of_ble_eq_true rfl), (Nat.le_of_ble_eq_true rfl)⟩) hS (fun q _ h => hFc q h) hFc (fun r_57 u t H1 locs ht hvm hw hB hz1 hk1 hS => ?_)
    obtain ⟨u_58, rfl⟩ : ∃ z, z = u := ⟨u, rfl⟩
    obtain ⟨hP1, hD1⟩ := hB
    rw [ht] at hP1
    try dsimp only at hw hP1 hD1
    rcases hw with ⟨c_59, w_60, w_61⟩ | ⟨c_62, c_63, w_64, w_65⟩ | ⟨c_66, c_67, c_68, w_69, w_70⟩ | ⟨c_71, c_72, c_73, c_74, w_75, w_76⟩ | ⟨c_77, c_78, c_79, c_80, w_81, w_82⟩
    · skip
      subst w_60
      subst w_61
      exact absurd c_59 c_6
    · skip
      subst w_64
      subst w_65
      exact absurd c_63 (Int32.not_lt.mpr c_7)
    · skip
      subst w_69
      subst w_70
      obtain ⟨hP, hD⟩ := va_join (wr := [(o0, .inl (kA 1, 1, .inr (.inl (fun _ => 0))))]) (w1 := [(m0, .inr (11, (y0.set 9 (.int 0)).set 9 (.int 2))), (y16, .inl (kA 0, 128, .inl (fun _ => 0))), (y17, .inl (kA 0, 128, .inl (fun _ => 0))), (y18, .inl (kA 0, 128, .inl (fun _ => 0))), (y19, .inl (kA 0, 128, .inl (fun _ => 0)))]) hP hD [0, 1, 2, 3, 4] [5] rfl rfl (by decide) (by decide) hk1 hFc hP1 hD1
      generalize H1 = H at hP hS ⊢
      have hP : va_P D vwCl [(o0, .inl (kA 1, 1, .inr (.inl (fun _ => 0)))), (m0, .inr (11, (y0.set 9 (.int 0)).set 9 (.int 2))), (y16, .inl (kA 0, 128, .inl (fun _ => 0))), (y17, .inl (kA 0, 128, .inl (fun _ => 0))), (y18, .inl (kA 0, 128, .inl (fun _ => 0))), (y19, .inl (kA 0, 128, .inl (fun _ => 0)))] H := hP
      have hD : va_D A [(o0, .inl (kA 1, 1, .inr (.inl (fun _ => 0)))), (m0, .inr (11, (y0.set 9 (.int 0)).set 9 (.int 2))), (y16, .inl (kA 0, 128, .inl (fun _ => 0))), (y17, .inl (kA 0, 128, .inl (fun _ => 0))), (y18, .inl (kA 0, 128, .inl (fun _ => 0))), (y19, .inl (kA 0, 128, .inl (fun _ => 0)))] := hD
      refine lv_istore (lv' := [(6, .int 0), (5, .int 2), (0, .ref b), (1, .ref h0), (2, .ref m0), (3, .ref o0), (4, .int 0)]) hx hb dL_law_454 hl (by decide) rfl (fun ls hl => ?_)
      refine lv_aload_n hx hb dL_law_456 rfl (lv_at hl 4 rfl) ?_
      have hPc := hP.sub (ws' := [(m0, .inr (11, (y0.set 9 (.int 0)).set 9 (.int 2)))]) [1] rfl
      have hDc := hD.sub (ws' := [(m0, .inr (11, (y0.set 9 (.int 0)).set 9 (.int 2)))]) [1] (by decide) rfl
      have hFc := va_free (wc := [(m0, .inr (11, (y0.set 9 (.int 0)).set 9 (.int 2)))]) hD hS hA [1] rfl
      refine va_calli (va_runV (As := []) (rest := []) ⟨hx, hb, hml, hown, hts⟩ (a175_X12_thrown l  D kA V H.size m0 ((y0.set 9 (.int 0)).set 9 (.int 2)) (fun k hk => (by rw [List.length_set]; exact (by rw [List.length_set]; exact (hq k hk)))) (List.getElem?_set_self (by rw [List.length_set]; exact (hq 9 (by decide))))) (cwV 0 hts (gw_V gw_1879 gw_1880 gw_1881 gw_16 gw_1882) rfl rfl rfl (by decide +kernel) ⟨(Nat.le_of_ble_eq_true rfl), (Nat.le_of_ble_eq_true rfl)⟩) ⟨aP.blind, va_recv hK hP (ci := 11) (q0 := 1) rfl rfl, aP.pre hE hS hPc hK hDc hFc⟩ rfl rfl hl.1 rfl (lv_room (Nat.le_of_ble_eq_true rfl)) dL_law_457 ⟨(Nat.le_of_ble_eq_true rfl), (Nat.le_of_ble_eq_true rfl)⟩) hS (fun q _ h => hFc q h) hFc (fun r_83 u t H1 locs ht hvm hw hB hz1 hk1 hS => ?_)
      obtain ⟨hP1, hD1⟩ := hB
      rw [ht] at hP1
      try dsimp only at hw hP1 hD1
      have w_84 := hw
      subst w_84
      obtain ⟨hP, hD⟩ := va_join (wr := [(o0, .inl (kA 1, 1, .inr (.inl (fun _ => 0)))), (y16, .inl (kA 0, 128, .inl (fun _ => 0))), (y17, .inl (kA 0, 128, .inl (fun _ => 0))), (y18, .inl (kA 0, 128, .inl (fun _ => 0))), (y19, .inl (kA 0, 128, .inl (fun _ => 0)))]) (w1 := [(m0, .inr (11, ((y0.set 9 (.int 0)).set 9 (.int 2))))]) hP hD [1] [0, 2, 3, 4, 5] rfl rfl (by decide) (by decide) hk1 hFc hP1 hD1
      generalize H1 = H at hP hS ⊢
      have hP : va_P D vwCl [(o0, .inl (kA 1, 1, .inr (.inl (fun _ => 0)))), (y16, .inl (kA 0, 128, .inl (fun _ => 0))), (y17, .inl (kA 0, 128, .inl (fun _ => 0))), (y18, .inl (kA 0, 128, .inl (fun _ => 0))), (y19, .inl (kA 0, 128, .inl (fun _ => 0))), (m0, .inr (11, ((y0.set 9 (.int 0)).set 9 (.int 2))))] H := hP
      have hD : va_D A [(o0, .inl (kA 1, 1, .inr (.inl (fun _ => 0)))), (y16, .inl (kA 0, 128, .inl (fun _ => 0))), (y17, .inl (kA 0, 128, .inl (fun _ => 0))), (y18, .inl (kA 0, 128, .inl (fun _ => 0))), (y19, .inl (kA 0, 128, .inl (fun _ => 0))), (m0, .inr (11, ((y0.set 9 (.int 0)).set 9 (.int 2))))] := hD
      refine lv_iload hx hb dL_law_460 (lv_at hl 1 rfl) ?_
      refine lv_icmp_eq (tgt := 467) hx hb dL_law_462 (by decide) (fun c_85 => ?_) (fun c_85 => ?_)
      · skip
        refine lv_iload hx hb dL_law_467 (lv_at hl 1 rfl) ?_
        refine lv_if_ne (tgt := 484) hx hb dL_law_469 (by decide) (fun c_86 => ?_) (fun c_86 => ?_)
        · skip
          refine lv_goto (tgt := 1804) hx hb dL_law_484 (by decide) ?_
          exact lk_tail hC hA2 (lv_sub hl [2, 6] rfl) hS (Nat.le_of_ble_eq_true rfl) (Nat.le_of_ble_eq_true rfl)
        · exact absurd c_86 (by decide)
      · exact absurd (by decide) c_85
    · skip
      subst w_75
      subst w_76
      exact absurd c_8 c_73
    · skip
      subst w_81
      subst w_82
      exact absurd c_8 c_79
  · skip
    subst w_15
    subst w_16
    obtain ⟨hP, hD⟩ := va_join (wr := [(m0, .inr (11, y0)), (y16, .inl (kA 0, 128, .inl (fun _ => 0))), (y17, .inl (kA 0, 128, .inl (fun _ => 0))), (y18, .inl (kA 0, 128, .inl (fun _ => 0))), (y19, .inl (kA 0, 128, .inl (fun _ => 0)))]) (w1 := [(o0, .inl (kA 1, 1, .inr (.inl (fun _ => 0))))]) hP hD [0, 1, 2, 3, 4, 5, 6, 7, 8, 9, 10, 16] [11, 12, 13, 14, 15] rfl rfl (by decide) (by decide) hk1 hFc hP1 hD1
    generalize H1 = H at hP hS ⊢
    have hP : va_P D vwCl [(m0, .inr (11, y0)), (y16, .inl (kA 0, 128, .inl (fun _ => 0))), (y17, .inl (kA 0, 128, .inl (fun _ => 0))), (y18, .inl (kA 0, 128, .inl (fun _ => 0))), (y19, .inl (kA 0, 128, .inl (fun _ => 0))), (o0, .inl (kA 1, 1, .inr (.inl (fun _ => 0))))] H := hP
    have hD : va_D A [(m0, .inr (11, y0)), (y16, .inl (kA 0, 128, .inl (fun _ => 0))), (y17, .inl (kA 0, 128, .inl (fun _ => 0))), (y18, .inl (kA 0, 128, .inl (fun _ => 0))), (y19, .inl (kA 0, 128, .inl (fun _ => 0))), (o0, .inl (kA 1, 1, .inr (.inl (fun _ => 0))))] := hD
    refine lv_istore (lv' := [(5, .int 2), (0, .ref b), (1, .ref h0), (2, .ref m0), (3, .ref o0), (4, .int 0)]) hx hb dL_law_436 hl (by decide) rfl (fun ls hl => ?_)
    refine lv_aload_n hx hb dL_law_438 rfl (lv_at hl 3 rfl) ?_
    refine lv_aload_n hx hb dL_law_439 rfl (lv_at hl 1 rfl) ?_
    refine lv_iload hx hb dL_law_440 (lv_at hl 5 rfl) ?_
    refine lv_iconst (v := 1) hx hb dL_law_442 (by decide) ?_
    refine lv_iadd hx hb dL_law_443 ?_
    refine W.eq (g2 := F0 m 444 ls [.int 1, .ref b, .ref m0]) rfl ?_
    refine va_sld hx hb hX hbl hbA hS (show vp_in 1 8 by unfold vp_in; decide) dL_law_444 ?_
    refine W.eq (g2 := F0 m 445 ls [.int (xs 1), .ref m0]) rfl ?_
    refine lv_aload_n hx hb dL_law_445 rfl (lv_at hl 1 rfl) ?_
    refine lv_iload hx hb dL_law_446 (lv_at hl 5 rfl) ?_
    refine lv_iconst (v := 2) hx hb dL_law_448 (by decide) ?_
    refine lv_iadd hx hb dL_law_449 ?_
    refine W.eq (g2 := F0 m 450 ls [.int 2, .ref b, .int (xs 1), .ref m0]) rfl ?_
    refine va_sld hx hb hX hbl hbA hS (show vp_in 2 8 by unfold vp_in; decide) dL_law_450 ?_
    refine W.eq (g2 := F0 m 451 ls [.int (xs 2), .int (xs 1), .ref m0]) rfl ?_
    have hPc := hP.sub (ws' := [(m0, .inr (11, y0)), (y16, .inl (kA 0, 128, .inl (fun _ => 0))), (y17, .inl (kA 0, 128, .inl (fun _ => 0))), (y18, .inl (kA 0, 128, .inl (fun _ => 0))), (y19, .inl (kA 0, 128, .inl (fun _ => 0)))]) [0, 1, 2, 3, 4] rfl
    have hDc := hD.sub (ws' := [(m0, .inr (11, y0)), (y16, .inl (kA 0, 128, .inl (fun _ => 0))), (y17, .inl (kA 0, 128, .inl (fun _ => 0))), (y18, .inl (kA 0, 128, .inl (fun _ => 0))), (y19, .inl (kA 0, 128, .inl (fun _ => 0)))]) [0, 1, 2, 3, 4] (by decide) rfl
    have hFc := va_free (wc := [(m0, .inr (11, y0)), (y16, .inl (kA 0, 128, .inl (fun _ => 0))), (y17, .inl (kA 0, 128, .inl (fun _ => 0))), (y18, .inl (kA 0, 128, .inl (fun _ => 0))), (y19, .inl (kA 0, 128, .inl (fun _ => 0)))]) hD hS hA [0, 1, 2, 3, 4] rfl
    refine va_calli (va_runV (As := [.int (xs 1), .int (xs 2)]) (rest := []) ⟨hx, hb, hml, hown, hts⟩ (a128_X12_look l  D kA V H.size m0 (xs 1) (xs 2) y16 y17 y18 y19 y0 (fun k hk => (hq k hk)) hq9 hq84 hq85 hq86 hq87) (cwV 2 hts (gw_V gw_2680 gw_2681 gw_2682 gw_16 gw_2683) rfl rfl rfl (by decide +kernel) ⟨(Nat.le_of_ble_eq_true rfl), (Nat.le_of_ble_eq_true rfl)⟩) ⟨aP.blind, va_recv hK hP (ci := 11) (q0 := 0) rfl rfl, aP.pre hE hS hPc hK hDc hFc⟩ rfl rfl hl.1 rfl (lv_room (Nat.le_of_ble_eq_true rfl)) dL_law_451 ⟨(Nat.le_of_ble_eq_true rfl), (Nat.le_of_ble_eq_true rfl)⟩) hS (fun q _ h => hFc q h) hFc (fun r_87 u t H1 locs ht hvm hw hB hz1 hk1 hS => ?_)
    obtain ⟨u_88, rfl⟩ : ∃ z, z = u := ⟨u, rfl⟩
    obtain ⟨hP1, hD1⟩ := hB
    rw [ht] at hP1
    try dsimp only at hw hP1 hD1
    rcases hw with ⟨c_89, w_90, w_91⟩ | ⟨c_92, c_93, w_94, w_95⟩ | ⟨c_96, c_97, c_98, w_99, w_100⟩ | ⟨c_101, c_102, c_103, c_104, w_105, w_106⟩ | ⟨c_107, c_108, c_109, c_110, w_111, w_112⟩
    · skip
      subst w_90
      subst w_91
      exact absurd c_89 c_11
    · skip
      subst w_94
      subst w_95
      exact absurd c_93 (Int32.not_lt.mpr c_12)
    · skip
      subst w_99
      subst w_100
      exact absurd c_98 c_13
    · skip
      subst w_105
      subst w_106
      obtain ⟨hP, hD⟩ := va_join (wr := [(o0, .inl (kA 1, 1, .inr (.inl (fun _ => 0))))]) (w1 := [(m0, .inr (11, (y0.set 9 (.int 0)).set 9 (.int 2))), (y16, .inl (kA 0, 128, .inl (fun _ => 0))), (y17, .inl (kA 0, 128, .inl (fun _ => 0))), (y18, .inl (kA 0, 128, .inl (fun _ => 0))), (y19, .inl (kA 0, 128, .inl (fun _ => 0)))]) hP hD [0, 1, 2, 3, 4] [5] rfl rfl (by decide) (by decide) hk1 hFc hP1 hD1
      generalize H1 = H at hP hS ⊢
      have hP : va_P D vwCl [(o0, .inl (kA 1, 1, .inr (.inl (fun _ => 0)))), (m0, .inr (11, (y0.set 9 (.int 0)).set 9 (.int 2))), (y16, .inl (kA 0, 128, .inl (fun _ => 0))), (y17, .inl (kA 0, 128, .inl (fun _ => 0))), (y18, .inl (kA 0, 128, .inl (fun _ => 0))), (y19, .inl (kA 0, 128, .inl (fun _ => 0)))] H := hP
      have hD : va_D A [(o0, .inl (kA 1, 1, .inr (.inl (fun _ => 0)))), (m0, .inr (11, (y0.set 9 (.int 0)).set 9 (.int 2))), (y16, .inl (kA 0, 128, .inl (fun _ => 0))), (y17, .inl (kA 0, 128, .inl (fun _ => 0))), (y18, .inl (kA 0, 128, .inl (fun _ => 0))), (y19, .inl (kA 0, 128, .inl (fun _ => 0)))] := hD
      refine lv_istore (lv' := [(6, .int 0), (5, .int 2), (0, .ref b), (1, .ref h0), (2, .ref m0), (3, .ref o0), (4, .int 0)]) hx hb dL_law_454 hl (by decide) rfl (fun ls hl => ?_)
      refine lv_aload_n hx hb dL_law_456 rfl (lv_at hl 4 rfl) ?_
      have hPc := hP.sub (ws' := [(m0, .inr (11, (y0.set 9 (.int 0)).set 9 (.int 2)))]) [1] rfl
      have hDc := hD.sub (ws' := [(m0, .inr (11, (y0.set 9 (.int 0)).set 9 (.int 2)))]) [1] (by decide) rfl
      have hFc := va_free (wc := [(m0, .inr (11, (y0.set 9 (.int 0)).set 9 (.int 2)))]) hD hS hA [1] rfl
      refine va_calli (va_runV (As := []) (rest := []) ⟨hx, hb, hml, hown, hts⟩ (a175_X12_thrown l  D kA V H.size m0 ((y0.set 9 (.int 0)).set 9 (.int 2)) (fun k hk => (by rw [List.length_set]; exact (by rw [List.length_set]; exact (hq k hk)))) (List.getElem?_set_self (by rw [List.length_set]; exact (hq 9 (by decide))))) (cwV 0 hts (gw_V gw_1879 gw_1880 gw_1881 gw_16 gw_1882) rfl rfl rfl (by decide +kernel) ⟨(Nat.le_of_ble_eq_true rfl), (Nat.le_of_ble_eq_true rfl)⟩) ⟨aP.blind, va_recv hK hP (ci := 11) (q0 := 1) rfl rfl, aP.pre hE hS hPc hK hDc hFc⟩ rfl rfl hl.1 rfl (lv_room (Nat.le_of_ble_eq_true rfl)) dL_law_457 ⟨(Nat.le_of_ble_eq_true rfl), (Nat.le_of_ble_eq_true rfl)⟩) hS (fun q _ h => hFc q h) hFc (fun r_113 u t H1 locs ht hvm hw hB hz1 hk1 hS => ?_)
      obtain ⟨hP1, hD1⟩ := hB
      rw [ht] at hP1
      try dsimp only at hw hP1 hD1
      have w_114 := hw
      subst w_114
      obtain ⟨hP, hD⟩ := va_join (wr := [(o0, .inl (kA 1, 1, .inr (.inl (fun _ => 0)))), (y16, .inl (kA 0, 128, .inl (fun _ => 0))), (y17, .inl (kA 0, 128, .inl (fun _ => 0))), (y18, .inl (kA 0, 128, .inl (fun _ => 0))), (y19, .inl (kA 0, 128, .inl (fun _ => 0)))]) (w1 := [(m0, .inr (11, ((y0.set 9 (.int 0)).set 9 (.int 2))))]) hP hD [1] [0, 2, 3, 4, 5] rfl rfl (by decide) (by decide) hk1 hFc hP1 hD1
      generalize H1 = H at hP hS ⊢
      have hP : va_P D vwCl [(o0, .inl (kA 1, 1, .inr (.inl (fun _ => 0)))), (y16, .inl (kA 0, 128, .inl (fun _ => 0))), (y17, .inl (kA 0, 128, .inl (fun _ => 0))), (y18, .inl (kA 0, 128, .inl (fun _ => 0))), (y19, .inl (kA 0, 128, .inl (fun _ => 0))), (m0, .inr (11, ((y0.set 9 (.int 0)).set 9 (.int 2))))] H := hP
      have hD : va_D A [(o0, .inl (kA 1, 1, .inr (.inl (fun _ => 0)))), (y16, .inl (kA 0, 128, .inl (fun _ => 0))), (y17, .inl (kA 0, 128, .inl (fun _ => 0))), (y18, .inl (kA 0, 128, .inl (fun _ => 0))), (y19, .inl (kA 0, 128, .inl (fun _ => 0))), (m0, .inr (11, ((y0.set 9 (.int 0)).set 9 (.int 2))))] := hD
      refine lv_iload hx hb dL_law_460 (lv_at hl 1 rfl) ?_
      refine lv_icmp_eq (tgt := 467) hx hb dL_law_462 (by decide) (fun c_115 => ?_) (fun c_115 => ?_)
      · skip
        refine lv_iload hx hb dL_law_467 (lv_at hl 1 rfl) ?_
        refine lv_if_ne (tgt := 484) hx hb dL_law_469 (by decide) (fun c_116 => ?_) (fun c_116 => ?_)
        · skip
          refine lv_goto (tgt := 1804) hx hb dL_law_484 (by decide) ?_
          exact lk_tail hC hA2 (lv_sub hl [2, 6] rfl) hS (Nat.le_of_ble_eq_true rfl) (Nat.le_of_ble_eq_true rfl)
        · exact absurd c_116 (by decide)
      · exact absurd (by decide) c_115
    · skip
      subst w_111
      subst w_112
      exact False.elim (by have a1 := (ixL (n := 63) (Int32.not_lt.mp c_110) (by decide)); have a2 := (iyB (n := 64) (Int32.not_lt.mp c_14) (by decide)); omega)
  · skip
    subst w_19
    subst w_20
    obtain ⟨hP, hD⟩ := va_join (wr := [(m0, .inr (11, y0)), (y16, .inl (kA 0, 128, .inl (fun _ => 0))), (y17, .inl (kA 0, 128, .inl (fun _ => 0))), (y18, .inl (kA 0, 128, .inl (fun _ => 0))), (y19, .inl (kA 0, 128, .inl (fun _ => 0)))]) (w1 := [(o0, .inl (kA 1, 1, .inr (.inl (fun _ => 0))))]) hP hD [0, 1, 2, 3, 4, 5, 6, 7, 8, 9, 10, 16] [11, 12, 13, 14, 15] rfl rfl (by decide) (by decide) hk1 hFc hP1 hD1
    generalize H1 = H at hP hS ⊢
    have hP : va_P D vwCl [(m0, .inr (11, y0)), (y16, .inl (kA 0, 128, .inl (fun _ => 0))), (y17, .inl (kA 0, 128, .inl (fun _ => 0))), (y18, .inl (kA 0, 128, .inl (fun _ => 0))), (y19, .inl (kA 0, 128, .inl (fun _ => 0))), (o0, .inl (kA 1, 1, .inr (.inl (fun _ => 0))))] H := hP
    have hD : va_D A [(m0, .inr (11, y0)), (y16, .inl (kA 0, 128, .inl (fun _ => 0))), (y17, .inl (kA 0, 128, .inl (fun _ => 0))), (y18, .inl (kA 0, 128, .inl (fun _ => 0))), (y19, .inl (kA 0, 128, .inl (fun _ => 0))), (o0, .inl (kA 1, 1, .inr (.inl (fun _ => 0))))] := hD
    refine lv_istore (lv' := [(5, .int 1), (0, .ref b), (1, .ref h0), (2, .ref m0), (3, .ref o0), (4, .int 0)]) hx hb dL_law_436 hl (by decide) rfl (fun ls hl => ?_)
    refine lv_aload_n hx hb dL_law_438 rfl (lv_at hl 3 rfl) ?_
    refine lv_aload_n hx hb dL_law_439 rfl (lv_at hl 1 rfl) ?_
    refine lv_iload hx hb dL_law_440 (lv_at hl 5 rfl) ?_
    refine lv_iconst (v := 1) hx hb dL_law_442 (by decide) ?_
    refine lv_iadd hx hb dL_law_443 ?_
    refine W.eq (g2 := F0 m 444 ls [.int 1, .ref b, .ref m0]) rfl ?_
    refine va_sld hx hb hX hbl hbA hS (show vp_in 1 8 by unfold vp_in; decide) dL_law_444 ?_
    refine W.eq (g2 := F0 m 445 ls [.int (xs 1), .ref m0]) rfl ?_
    refine lv_aload_n hx hb dL_law_445 rfl (lv_at hl 1 rfl) ?_
    refine lv_iload hx hb dL_law_446 (lv_at hl 5 rfl) ?_
    refine lv_iconst (v := 2) hx hb dL_law_448 (by decide) ?_
    refine lv_iadd hx hb dL_law_449 ?_
    refine W.eq (g2 := F0 m 450 ls [.int 2, .ref b, .int (xs 1), .ref m0]) rfl ?_
    refine va_sld hx hb hX hbl hbA hS (show vp_in 2 8 by unfold vp_in; decide) dL_law_450 ?_
    refine W.eq (g2 := F0 m 451 ls [.int (xs 2), .int (xs 1), .ref m0]) rfl ?_
    have hPc := hP.sub (ws' := [(m0, .inr (11, y0)), (y16, .inl (kA 0, 128, .inl (fun _ => 0))), (y17, .inl (kA 0, 128, .inl (fun _ => 0))), (y18, .inl (kA 0, 128, .inl (fun _ => 0))), (y19, .inl (kA 0, 128, .inl (fun _ => 0)))]) [0, 1, 2, 3, 4] rfl
    have hDc := hD.sub (ws' := [(m0, .inr (11, y0)), (y16, .inl (kA 0, 128, .inl (fun _ => 0))), (y17, .inl (kA 0, 128, .inl (fun _ => 0))), (y18, .inl (kA 0, 128, .inl (fun _ => 0))), (y19, .inl (kA 0, 128, .inl (fun _ => 0)))]) [0, 1, 2, 3, 4] (by decide) rfl
    have hFc := va_free (wc := [(m0, .inr (11, y0)), (y16, .inl (kA 0, 128, .inl (fun _ => 0))), (y17, .inl (kA 0, 128, .inl (fun _ => 0))), (y18, .inl (kA 0, 128, .inl (fun _ => 0))), (y19, .inl (kA 0, 128, .inl (fun _ => 0)))]) hD hS hA [0, 1, 2, 3, 4] rfl
    refine va_calli (va_runV (As := [.int (xs 1), .int (xs 2)]) (rest := []) ⟨hx, hb, hml, hown, hts⟩ (a128_X12_look l  D kA V H.size m0 (xs 1) (xs 2) y16 y17 y18 y19 y0 (fun k hk => (hq k hk)) hq9 hq84 hq85 hq86 hq87) (cwV 2 hts (gw_V gw_2680 gw_2681 gw_2682 gw_16 gw_2683) rfl rfl rfl (by decide +kernel) ⟨(Nat.le_of_ble_eq_true rfl), (Nat.le_of_ble_eq_true rfl)⟩) ⟨aP.blind, va_recv hK hP (ci := 11) (q0 := 0) rfl rfl, aP.pre hE hS hPc hK hDc hFc⟩ rfl rfl hl.1 rfl (lv_room (Nat.le_of_ble_eq_true rfl)) dL_law_451 ⟨(Nat.le_of_ble_eq_true rfl), (Nat.le_of_ble_eq_true rfl)⟩) hS (fun q _ h => hFc q h) hFc (fun r_117 u t H1 locs ht hvm hw hB hz1 hk1 hS => ?_)
    obtain ⟨u_118, rfl⟩ : ∃ z, z = u := ⟨u, rfl⟩
    obtain ⟨hP1, hD1⟩ := hB
    rw [ht] at hP1
    try dsimp only at hw hP1 hD1
    rcases hw with ⟨c_119, w_120, w_121⟩ | ⟨c_122, c_123, w_124, w_125⟩ | ⟨c_126, c_127, c_128, w_129, w_130⟩ | ⟨c_131, c_132, c_133, c_134, w_135, w_136⟩ | ⟨c_137, c_138, c_139, c_140, w_141, w_142⟩
    · skip
      subst w_120
      subst w_121
      exact absurd c_119 c_17
    · skip
      subst w_124
      subst w_125
      obtain ⟨hP, hD⟩ := va_join (wr := [(o0, .inl (kA 1, 1, .inr (.inl (fun _ => 0))))]) (w1 := [(m0, .inr (11, y0.set 9 (.int 1))), (y16, .inl (kA 0, 128, .inl (fun _ => 0))), (y17, .inl (kA 0, 128, .inl (fun _ => 0))), (y18, .inl (kA 0, 128, .inl (fun _ => 0))), (y19, .inl (kA 0, 128, .inl (fun _ => 0)))]) hP hD [0, 1, 2, 3, 4] [5] rfl rfl (by decide) (by decide) hk1 hFc hP1 hD1
      generalize H1 = H at hP hS ⊢
      have hP : va_P D vwCl [(o0, .inl (kA 1, 1, .inr (.inl (fun _ => 0)))), (m0, .inr (11, y0.set 9 (.int 1))), (y16, .inl (kA 0, 128, .inl (fun _ => 0))), (y17, .inl (kA 0, 128, .inl (fun _ => 0))), (y18, .inl (kA 0, 128, .inl (fun _ => 0))), (y19, .inl (kA 0, 128, .inl (fun _ => 0)))] H := hP
      have hD : va_D A [(o0, .inl (kA 1, 1, .inr (.inl (fun _ => 0)))), (m0, .inr (11, y0.set 9 (.int 1))), (y16, .inl (kA 0, 128, .inl (fun _ => 0))), (y17, .inl (kA 0, 128, .inl (fun _ => 0))), (y18, .inl (kA 0, 128, .inl (fun _ => 0))), (y19, .inl (kA 0, 128, .inl (fun _ => 0)))] := hD
      refine lv_istore (lv' := [(6, .int 0), (5, .int 1), (0, .ref b), (1, .ref h0), (2, .ref m0), (3, .ref o0), (4, .int 0)]) hx hb dL_law_454 hl (by decide) rfl (fun ls hl => ?_)
      refine lv_aload_n hx hb dL_law_456 rfl (lv_at hl 4 rfl) ?_
      have hPc := hP.sub (ws' := [(m0, .inr (11, y0.set 9 (.int 1)))]) [1] rfl
      have hDc := hD.sub (ws' := [(m0, .inr (11, y0.set 9 (.int 1)))]) [1] (by decide) rfl
      have hFc := va_free (wc := [(m0, .inr (11, y0.set 9 (.int 1)))]) hD hS hA [1] rfl
      refine va_calli (va_runV (As := []) (rest := []) ⟨hx, hb, hml, hown, hts⟩ (a174_X12_thrown l  D kA V H.size m0 (y0.set 9 (.int 1)) (fun k hk => (by rw [List.length_set]; exact (hq k hk))) (List.getElem?_set_self (hq 9 (by decide)))) (cwV 0 hts (gw_V gw_1879 gw_1880 gw_1881 gw_16 gw_1882) rfl rfl rfl (by decide +kernel) ⟨(Nat.le_of_ble_eq_true rfl), (Nat.le_of_ble_eq_true rfl)⟩) ⟨aP.blind, va_recv hK hP (ci := 11) (q0 := 1) rfl rfl, aP.pre hE hS hPc hK hDc hFc⟩ rfl rfl hl.1 rfl (lv_room (Nat.le_of_ble_eq_true rfl)) dL_law_457 ⟨(Nat.le_of_ble_eq_true rfl), (Nat.le_of_ble_eq_true rfl)⟩) hS (fun q _ h => hFc q h) hFc (fun r_143 u t H1 locs ht hvm hw hB hz1 hk1 hS => ?_)
      obtain ⟨hP1, hD1⟩ := hB
      rw [ht] at hP1
      try dsimp only at hw hP1 hD1
      have w_144 := hw
      subst w_144
      obtain ⟨hP, hD⟩ := va_join (wr := [(o0, .inl (kA 1, 1, .inr (.inl (fun _ => 0)))), (y16, .inl (kA 0, 128, .inl (fun _ => 0))), (y17, .inl (kA 0, 128, .inl (fun _ => 0))), (y18, .inl (kA 0, 128, .inl (fun _ => 0))), (y19, .inl (kA 0, 128, .inl (fun _ => 0)))]) (w1 := [(m0, .inr (11, (y0.set 9 (.int 1))))]) hP hD [1] [0, 2, 3, 4, 5] rfl rfl (by decide) (by decide) hk1 hFc hP1 hD1
      generalize H1 = H at hP hS ⊢
      have hP : va_P D vwCl [(o0, .inl (kA 1, 1, .inr (.inl (fun _ => 0)))), (y16, .inl (kA 0, 128, .inl (fun _ => 0))), (y17, .inl (kA 0, 128, .inl (fun _ => 0))), (y18, .inl (kA 0, 128, .inl (fun _ => 0))), (y19, .inl (kA 0, 128, .inl (fun _ => 0))), (m0, .inr (11, (y0.set 9 (.int 1))))] H := hP
      have hD : va_D A [(o0, .inl (kA 1, 1, .inr (.inl (fun _ => 0)))), (y16, .inl (kA 0, 128, .inl (fun _ => 0))), (y17, .inl (kA 0, 128, .inl (fun _ => 0))), (y18, .inl (kA 0, 128, .inl (fun _ => 0))), (y19, .inl (kA 0, 128, .inl (fun _ => 0))), (m0, .inr (11, (y0.set 9 (.int 1))))] := hD
      refine lv_iload hx hb dL_law_460 (lv_at hl 1 rfl) ?_
      refine lv_icmp_eq (tgt := 467) hx hb dL_law_462 (by decide) (fun c_145 => ?_) (fun c_145 => ?_)
      · skip
        refine lv_iload hx hb dL_law_467 (lv_at hl 1 rfl) ?_
        refine lv_if_ne (tgt := 484) hx hb dL_law_469 (by decide) (fun c_146 => ?_) (fun c_146 => ?_)
        · skip
          refine lv_goto (tgt := 1804) hx hb dL_law_484 (by decide) ?_
          exact lk_tail hC hA2 (lv_sub hl [2, 6] rfl) hS (Nat.le_of_ble_eq_true rfl) (Nat.le_of_ble_eq_true rfl)
        · exact absurd c_146 (by decide)
      · exact absurd (by decide) c_145
    · skip
      subst w_129
      subst w_130
      exact absurd (Int32.not_le.mp c_18) c_127
    · skip
      subst w_135
      subst w_136
      exact absurd (Int32.not_le.mp c_18) c_132
    · skip
      subst w_141
      subst w_142
      exact absurd (Int32.not_le.mp c_18) c_138
  · skip
    subst w_25
    subst w_26
    obtain ⟨hP, hD⟩ := va_join (wr := [(m0, .inr (11, y0)), (y16, .inl (kA 0, 128, .inl (fun _ => 0))), (y17, .inl (kA 0, 128, .inl (fun _ => 0))), (y18, .inl (kA 0, 128, .inl (fun _ => 0))), (y19, .inl (kA 0, 128, .inl (fun _ => 0)))]) (w1 := [(o0, .inl (kA 1, 1, .inr (.inl (vp_updL (fun _ => 0) 0 ((0 : Int32).toInt64)))))]) hP hD [0, 1, 2, 3, 4, 5, 6, 7, 8, 9, 10, 16] [11, 12, 13, 14, 15] rfl rfl (by decide) (by decide) hk1 hFc hP1 hD1
    generalize H1 = H at hP hS ⊢
    have hP : va_P D vwCl [(m0, .inr (11, y0)), (y16, .inl (kA 0, 128, .inl (fun _ => 0))), (y17, .inl (kA 0, 128, .inl (fun _ => 0))), (y18, .inl (kA 0, 128, .inl (fun _ => 0))), (y19, .inl (kA 0, 128, .inl (fun _ => 0))), (o0, .inl (kA 1, 1, .inr (.inl (vp_updL (fun _ => 0) 0 ((0 : Int32).toInt64)))))] H := hP
    have hD : va_D A [(m0, .inr (11, y0)), (y16, .inl (kA 0, 128, .inl (fun _ => 0))), (y17, .inl (kA 0, 128, .inl (fun _ => 0))), (y18, .inl (kA 0, 128, .inl (fun _ => 0))), (y19, .inl (kA 0, 128, .inl (fun _ => 0))), (o0, .inl (kA 1, 1, .inr (.inl (vp_updL (fun _ => 0) 0 ((0 : Int32).toInt64)))))] := hD
    refine lv_istore (lv' := [(5, .int 0), (0, .ref b), (1, .ref h0), (2, .ref m0), (3, .ref o0), (4, .int 0)]) hx hb dL_law_436 hl (by decide) rfl (fun ls hl => ?_)
    refine lv_aload_n hx hb dL_law_438 rfl (lv_at hl 3 rfl) ?_
    refine lv_aload_n hx hb dL_law_439 rfl (lv_at hl 1 rfl) ?_
    refine lv_iload hx hb dL_law_440 (lv_at hl 5 rfl) ?_
    refine lv_iconst (v := 1) hx hb dL_law_442 (by decide) ?_
    refine lv_iadd hx hb dL_law_443 ?_
    refine W.eq (g2 := F0 m 444 ls [.int 1, .ref b, .ref m0]) rfl ?_
    refine va_sld hx hb hX hbl hbA hS (show vp_in 1 8 by unfold vp_in; decide) dL_law_444 ?_
    refine W.eq (g2 := F0 m 445 ls [.int (xs 1), .ref m0]) rfl ?_
    refine lv_aload_n hx hb dL_law_445 rfl (lv_at hl 1 rfl) ?_
    refine lv_iload hx hb dL_law_446 (lv_at hl 5 rfl) ?_
    refine lv_iconst (v := 2) hx hb dL_law_448 (by decide) ?_
    refine lv_iadd hx hb dL_law_449 ?_
    refine W.eq (g2 := F0 m 450 ls [.int 2, .ref b, .int (xs 1), .ref m0]) rfl ?_
    refine va_sld hx hb hX hbl hbA hS (show vp_in 2 8 by unfold vp_in; decide) dL_law_450 ?_
    refine W.eq (g2 := F0 m 451 ls [.int (xs 2), .int (xs 1), .ref m0]) rfl ?_
    have hPc := hP.sub (ws' := [(m0, .inr (11, y0)), (y16, .inl (kA 0, 128, .inl (fun _ => 0))), (y17, .inl (kA 0, 128, .inl (fun _ => 0))), (y18, .inl (kA 0, 128, .inl (fun _ => 0))), (y19, .inl (kA 0, 128, .inl (fun _ => 0)))]) [0, 1, 2, 3, 4] rfl
    have hDc := hD.sub (ws' := [(m0, .inr (11, y0)), (y16, .inl (kA 0, 128, .inl (fun _ => 0))), (y17, .inl (kA 0, 128, .inl (fun _ => 0))), (y18, .inl (kA 0, 128, .inl (fun _ => 0))), (y19, .inl (kA 0, 128, .inl (fun _ => 0)))]) [0, 1, 2, 3, 4] (by decide) rfl
    have hFc := va_free (wc := [(m0, .inr (11, y0)), (y16, .inl (kA 0, 128, .inl (fun _ => 0))), (y17, .inl (kA 0, 128, .inl (fun _ => 0))), (y18, .inl (kA 0, 128, .inl (fun _ => 0))), (y19, .inl (kA 0, 128, .inl (fun _ => 0)))]) hD hS hA [0, 1, 2, 3, 4] rfl
    refine va_calli (va_runV (As := [.int (xs 1), .int (xs 2)]) (rest := []) ⟨hx, hb, hml, hown, hts⟩ (a128_X12_look l  D kA V H.size m0 (xs 1) (xs 2) y16 y17 y18 y19 y0 (fun k hk => (hq k hk)) hq9 hq84 hq85 hq86 hq87) (cwV 2 hts (gw_V gw_2680 gw_2681 gw_2682 gw_16 gw_2683) rfl rfl rfl (by decide +kernel) ⟨(Nat.le_of_ble_eq_true rfl), (Nat.le_of_ble_eq_true rfl)⟩) ⟨aP.blind, va_recv hK hP (ci := 11) (q0 := 0) rfl rfl, aP.pre hE hS hPc hK hDc hFc⟩ rfl rfl hl.1 rfl (lv_room (Nat.le_of_ble_eq_true rfl)) dL_law_451 ⟨(Nat.le_of_ble_eq_true rfl), (Nat.le_of_ble_eq_true rfl)⟩) hS (fun q _ h => hFc q h) hFc (fun r_147 u t H1 locs ht hvm hw hB hz1 hk1 hS => ?_)
    obtain ⟨u_148, rfl⟩ : ∃ z, z = u := ⟨u, rfl⟩
    obtain ⟨hP1, hD1⟩ := hB
    rw [ht] at hP1
    try dsimp only at hw hP1 hD1
    rcases hw with ⟨c_149, w_150, w_151⟩ | ⟨c_152, c_153, w_154, w_155⟩ | ⟨c_156, c_157, c_158, w_159, w_160⟩ | ⟨c_161, c_162, c_163, c_164, w_165, w_166⟩ | ⟨c_167, c_168, c_169, c_170, w_171, w_172⟩
    · skip
      subst w_150
      subst w_151
      exact absurd c_149 c_21
    · skip
      subst w_154
      subst w_155
      exact absurd c_153 (Int32.not_lt.mpr c_22)
    · skip
      subst w_159
      subst w_160
      exact absurd c_158 c_23
    · skip
      subst w_165
      subst w_166
      exact False.elim (by have a1 := (iyS (n := 63) c_164 (by decide)); have a2 := (ixA (n := 64) c_24 (by decide)); omega)
    · skip
      subst w_171
      subst w_172
      obtain ⟨hP, hD⟩ := va_join (wr := [(o0, .inl (kA 1, 1, .inr (.inl (vp_updL (fun _ => 0) 0 ((0 : Int32).toInt64)))))]) (w1 := [(m0, .inr (11, (y0.set 9 (.int 0)).set 9 (.int 0))), (y16, .inl (kA 0, 128, .inl (fun _ => 0))), (y17, .inl (kA 0, 128, .inl (fun _ => 0))), (y18, .inl (kA 0, 128, .inl (fun _ => 0))), (y19, .inl (kA 0, 128, .inl (fun _ => 0)))]) hP hD [0, 1, 2, 3, 4] [5] rfl rfl (by decide) (by decide) hk1 hFc hP1 hD1
      generalize H1 = H at hP hS ⊢
      have hP : va_P D vwCl [(o0, .inl (kA 1, 1, .inr (.inl (vp_updL (fun _ => 0) 0 ((0 : Int32).toInt64))))), (m0, .inr (11, (y0.set 9 (.int 0)).set 9 (.int 0))), (y16, .inl (kA 0, 128, .inl (fun _ => 0))), (y17, .inl (kA 0, 128, .inl (fun _ => 0))), (y18, .inl (kA 0, 128, .inl (fun _ => 0))), (y19, .inl (kA 0, 128, .inl (fun _ => 0)))] H := hP
      have hD : va_D A [(o0, .inl (kA 1, 1, .inr (.inl (vp_updL (fun _ => 0) 0 ((0 : Int32).toInt64))))), (m0, .inr (11, (y0.set 9 (.int 0)).set 9 (.int 0))), (y16, .inl (kA 0, 128, .inl (fun _ => 0))), (y17, .inl (kA 0, 128, .inl (fun _ => 0))), (y18, .inl (kA 0, 128, .inl (fun _ => 0))), (y19, .inl (kA 0, 128, .inl (fun _ => 0)))] := hD
      refine lv_istore (lv' := [(6, .int 0), (5, .int 0), (0, .ref b), (1, .ref h0), (2, .ref m0), (3, .ref o0), (4, .int 0)]) hx hb dL_law_454 hl (by decide) rfl (fun ls hl => ?_)
      refine lv_aload_n hx hb dL_law_456 rfl (lv_at hl 4 rfl) ?_
      have hPc := hP.sub (ws' := [(m0, .inr (11, (y0.set 9 (.int 0)).set 9 (.int 0)))]) [1] rfl
      have hDc := hD.sub (ws' := [(m0, .inr (11, (y0.set 9 (.int 0)).set 9 (.int 0)))]) [1] (by decide) rfl
      have hFc := va_free (wc := [(m0, .inr (11, (y0.set 9 (.int 0)).set 9 (.int 0)))]) hD hS hA [1] rfl
      refine va_calli (va_runV (As := []) (rest := []) ⟨hx, hb, hml, hown, hts⟩ (a94_X12_thrown l  D kA V H.size m0 ((y0.set 9 (.int 0)).set 9 (.int 0)) (fun k hk => (by rw [List.length_set]; exact (by rw [List.length_set]; exact (hq k hk)))) (List.getElem?_set_self (by rw [List.length_set]; exact (hq 9 (by decide))))) (cwV 0 hts (gw_V gw_1879 gw_1880 gw_1881 gw_16 gw_1882) rfl rfl rfl (by decide +kernel) ⟨(Nat.le_of_ble_eq_true rfl), (Nat.le_of_ble_eq_true rfl)⟩) ⟨aP.blind, va_recv hK hP (ci := 11) (q0 := 1) rfl rfl, aP.pre hE hS hPc hK hDc hFc⟩ rfl rfl hl.1 rfl (lv_room (Nat.le_of_ble_eq_true rfl)) dL_law_457 ⟨(Nat.le_of_ble_eq_true rfl), (Nat.le_of_ble_eq_true rfl)⟩) hS (fun q _ h => hFc q h) hFc (fun r_173 u t H1 locs ht hvm hw hB hz1 hk1 hS => ?_)
      obtain ⟨hP1, hD1⟩ := hB
      rw [ht] at hP1
      try dsimp only at hw hP1 hD1
      have w_174 := hw
      subst w_174
      obtain ⟨hP, hD⟩ := va_join (wr := [(o0, .inl (kA 1, 1, .inr (.inl (vp_updL (fun _ => 0) 0 ((0 : Int32).toInt64))))), (y16, .inl (kA 0, 128, .inl (fun _ => 0))), (y17, .inl (kA 0, 128, .inl (fun _ => 0))), (y18, .inl (kA 0, 128, .inl (fun _ => 0))), (y19, .inl (kA 0, 128, .inl (fun _ => 0)))]) (w1 := [(m0, .inr (11, ((y0.set 9 (.int 0)).set 9 (.int 0))))]) hP hD [1] [0, 2, 3, 4, 5] rfl rfl (by decide) (by decide) hk1 hFc hP1 hD1
      generalize H1 = H at hP hS ⊢
      have hP : va_P D vwCl [(o0, .inl (kA 1, 1, .inr (.inl (vp_updL (fun _ => 0) 0 ((0 : Int32).toInt64))))), (y16, .inl (kA 0, 128, .inl (fun _ => 0))), (y17, .inl (kA 0, 128, .inl (fun _ => 0))), (y18, .inl (kA 0, 128, .inl (fun _ => 0))), (y19, .inl (kA 0, 128, .inl (fun _ => 0))), (m0, .inr (11, ((y0.set 9 (.int 0)).set 9 (.int 0))))] H := hP
      have hD : va_D A [(o0, .inl (kA 1, 1, .inr (.inl (vp_updL (fun _ => 0) 0 ((0 : Int32).toInt64))))), (y16, .inl (kA 0, 128, .inl (fun _ => 0))), (y17, .inl (kA 0, 128, .inl (fun _ => 0))), (y18, .inl (kA 0, 128, .inl (fun _ => 0))), (y19, .inl (kA 0, 128, .inl (fun _ => 0))), (m0, .inr (11, ((y0.set 9 (.int 0)).set 9 (.int 0))))] := hD
      refine lv_iload hx hb dL_law_460 (lv_at hl 1 rfl) ?_
      refine lv_icmp_eq (tgt := 467) hx hb dL_law_462 (by decide) (fun c_175 => ?_) (fun c_175 => ?_)
      · skip
        refine lv_iload hx hb dL_law_467 (lv_at hl 1 rfl) ?_
        refine lv_if_ne (tgt := 484) hx hb dL_law_469 (by decide) (fun c_176 => ?_) (fun c_176 => ?_)
        · exact absurd (by decide) c_176
        · skip
          refine lv_aload_n hx hb dL_law_472 rfl (lv_at hl 5 rfl) ?_
          refine lv_iconst (v := 0) hx hb dL_law_473 (by decide) ?_
          refine va_lald hx hb hK hP 0 1 rfl rfl (show vp_in 0 1 by unfold vp_in; decide) dL_law_474 ?_
          refine W.eq (g2 := F0 m 475 ls [.long ((0 : Int32).toInt64)]) rfl ?_
          refine lv_iload hx hb dL_law_475 (lv_at hl 0 rfl) ?_
          refine lv_i2l (v := (0 : Int32).toInt64) hx hb dL_law_477 rfl ?_
          refine W.lcmp hx hb dL_law_478 ?_
          refine lv_if_eq (tgt := 484) hx hb dL_law_479 (by decide) (fun c_177 => ?_) (fun c_177 => ?_)
          · skip
            refine lv_goto (tgt := 1804) hx hb dL_law_484 (by decide) ?_
            exact lk_tail hC hA2 (lv_sub hl [2, 6] rfl) hS (Nat.le_of_ble_eq_true rfl) (Nat.le_of_ble_eq_true rfl)
          · exact absurd ((lg_cmp_eq _ _).mpr rfl) c_177
      · exact absurd (by decide) c_175
