theorem dL_law_487 : decode cL_law 487 = .ok (.aload_n 1, 1) := by decide +kernel
theorem dL_law_488 : decode cL_law 488 = .ok (.aload_n 0, 1) := by decide +kernel
theorem dL_law_489 : decode cL_law 489 = .ok (.iload 4, 2) := by decide +kernel
theorem dL_law_491 : decode cL_law 491 = .ok (.iconst 1, 1) := by decide +kernel
theorem dL_law_492 : decode cL_law 492 = .ok (.iadd, 1) := by decide +kernel
theorem dL_law_493 : decode cL_law 493 = .ok (.iaload, 1) := by decide +kernel
theorem dL_law_494 : decode cL_law 494 = .ok (.ifCond .eq 7, 3) := by decide +kernel
theorem dL_law_497 : decode cL_law 497 = .ok (.iconst 1, 1) := by decide +kernel
theorem dL_law_498 : decode cL_law 498 = .ok (.goto 4, 3) := by decide +kernel
theorem dL_law_501 : decode cL_law 501 = .ok (.iconst 0, 1) := by decide +kernel
theorem dL_law_502 : decode cL_law 502 = .ok (.aload_n 0, 1) := by decide +kernel
theorem dL_law_503 : decode cL_law 503 = .ok (.iload 4, 2) := by decide +kernel
theorem dL_law_505 : decode cL_law 505 = .ok (.iconst 2, 1) := by decide +kernel
theorem dL_law_506 : decode cL_law 506 = .ok (.iadd, 1) := by decide +kernel
theorem dL_law_507 : decode cL_law 507 = .ok (.iaload, 1) := by decide +kernel
theorem dL_law_508 : decode cL_law 508 = .ok (.aload_n 0, 1) := by decide +kernel
theorem dL_law_509 : decode cL_law 509 = .ok (.iload 4, 2) := by decide +kernel
theorem dL_law_511 : decode cL_law 511 = .ok (.iconst 3, 1) := by decide +kernel
theorem dL_law_512 : decode cL_law 512 = .ok (.iadd, 1) := by decide +kernel
theorem dL_law_513 : decode cL_law 513 = .ok (.iaload, 1) := by decide +kernel
theorem dL_law_514 : decode cL_law 514 = .ok (.aload_n 0, 1) := by decide +kernel
theorem dL_law_515 : decode cL_law 515 = .ok (.iload 4, 2) := by decide +kernel
theorem dL_law_517 : decode cL_law 517 = .ok (.iconst 4, 1) := by decide +kernel
theorem dL_law_518 : decode cL_law 518 = .ok (.iadd, 1) := by decide +kernel
theorem dL_law_519 : decode cL_law 519 = .ok (.iaload, 1) := by decide +kernel
theorem dL_law_520 : decode cL_law 520 = .ok (.invokestatic 131, 3) := by decide +kernel
theorem dL_law_523 : decode cL_law 523 = .ok (.istore 5, 2) := by decide +kernel
theorem dL_law_525 : decode cL_law 525 = .ok (.aload_n 2, 1) := by decide +kernel
theorem dL_law_526 : decode cL_law 526 = .ok (.aload_n 0, 1) := by decide +kernel
theorem dL_law_527 : decode cL_law 527 = .ok (.iload 4, 2) := by decide +kernel
theorem dL_law_529 : decode cL_law 529 = .ok (.iconst 1, 1) := by decide +kernel
theorem dL_law_530 : decode cL_law 530 = .ok (.iadd, 1) := by decide +kernel
theorem dL_law_531 : decode cL_law 531 = .ok (.iaload, 1) := by decide +kernel
theorem dL_law_532 : decode cL_law 532 = .ok (.ifCond .eq 7, 3) := by decide +kernel
theorem dL_law_535 : decode cL_law 535 = .ok (.iconst 1, 1) := by decide +kernel
theorem dL_law_536 : decode cL_law 536 = .ok (.goto 4, 3) := by decide +kernel
theorem dL_law_539 : decode cL_law 539 = .ok (.iconst 0, 1) := by decide +kernel
theorem dL_law_540 : decode cL_law 540 = .ok (.aload_n 0, 1) := by decide +kernel
theorem dL_law_541 : decode cL_law 541 = .ok (.iload 4, 2) := by decide +kernel
theorem dL_law_543 : decode cL_law 543 = .ok (.iconst 2, 1) := by decide +kernel
theorem dL_law_544 : decode cL_law 544 = .ok (.iadd, 1) := by decide +kernel
theorem dL_law_545 : decode cL_law 545 = .ok (.iaload, 1) := by decide +kernel
theorem dL_law_546 : decode cL_law 546 = .ok (.aload_n 0, 1) := by decide +kernel
theorem dL_law_547 : decode cL_law 547 = .ok (.iload 4, 2) := by decide +kernel
theorem dL_law_549 : decode cL_law 549 = .ok (.iconst 3, 1) := by decide +kernel
theorem dL_law_550 : decode cL_law 550 = .ok (.iadd, 1) := by decide +kernel
theorem dL_law_551 : decode cL_law 551 = .ok (.iaload, 1) := by decide +kernel
theorem dL_law_552 : decode cL_law 552 = .ok (.aload_n 0, 1) := by decide +kernel
theorem dL_law_553 : decode cL_law 553 = .ok (.iload 4, 2) := by decide +kernel
theorem dL_law_555 : decode cL_law 555 = .ok (.iconst 4, 1) := by decide +kernel
theorem dL_law_556 : decode cL_law 556 = .ok (.iadd, 1) := by decide +kernel
theorem dL_law_557 : decode cL_law 557 = .ok (.iaload, 1) := by decide +kernel
theorem dL_law_558 : decode cL_law 558 = .ok (.invokevirtual 134, 3) := by decide +kernel
theorem dL_law_561 : decode cL_law 561 = .ok (.aload_n 2, 1) := by decide +kernel
theorem dL_law_562 : decode cL_law 562 = .ok (.invokevirtual 116, 3) := by decide +kernel
theorem dL_law_565 : decode cL_law 565 = .ok (.iload 5, 2) := by decide +kernel
theorem dL_law_567 : decode cL_law 567 = .ok (.if_icmp .eq 5, 3) := by decide +kernel
theorem dL_law_572 : decode cL_law 572 = .ok (.goto 1232, 3) := by decide +kernel
set_option maxHeartbeats 4000000 in
set_option maxRecDepth 100000 in
theorem lk_8 {p : Program} {l : Launch} {e : Env} {s : State} {m : MethodId} {below : List Frame} {meth : Method} {c : Code} {D : va_G} {kA : Nat → ClassId} {V : Nat → Nat} {b : Nat} {xs : Nat → Int32} {A : Nat → Prop} (hC : lw_C p l s m meth c b 8 xs D kA V A) (hA2 : ∀ q, A q → s.heap.size ≤ q) (h0 : Nat) (m0 : Nat) (o0 : Nat) (x0 : Nat) (x1 : Nat) (x2 : Nat) (x3 : Nat) (x4 : Nat) (x5 : Nat) (x6 : Nat) (x7 : Nat) (x8 : Nat) (x20 : Nat) (y0 : List Value) (y18 : Nat) (y19 : Nat) (hq : ∀ k, k < 121 → k < y0.length) (hq9 : y0[9]? = some (.int 0)) (hq86 : y0[86]? = some (.ref y18)) (hq87 : y0[87]? = some (.ref y19))  {H : Heap} {locs : List Loc} {ls : Array Slot} (hl : lv_has ls 8 [(0, .ref b), (1, .ref h0), (2, .ref m0), (3, .ref o0), (4, .int 0)]) (hS : va_S A s.heap H locs) (hP : va_P D vwCl [(h0, .inr (10, [.ref x0, .int 0, .ref x1, .ref x2, .ref x3, .ref x4, .ref x5, .ref x6, .ref x7, .ref x8, .int 0, .int 3000])), (x4, .inr (1, [.ref x20])), (x20, .inl (kA 4, 8, .inr (.inr (.inr (.inr (fun i => if i < 8 then some (x20 + 1 + i) else none)))))), ((x20 + 1 + 4), .inl (kA 0, 64, .inl (fun _ => 0))), ((x20 + 1 + 5), .inl (kA 0, 64, .inl (fun _ => 0))), ((x20 + 1 + 6), .inl (kA 0, 64, .inl (fun _ => 0))), ((x20 + 1 + 7), .inl (kA 0, 64, .inl (fun _ => 0))), (m0, .inr (11, y0)), (y18, .inl (kA 0, 128, .inl (fun _ => 0))), (y19, .inl (kA 0, 128, .inl (fun _ => 0)))] H) (hD : va_D A [(h0, .inr (10, [.ref x0, .int 0, .ref x1, .ref x2, .ref x3, .ref x4, .ref x5, .ref x6, .ref x7, .ref x8, .int 0, .int 3000])), (x4, .inr (1, [.ref x20])), (x20, .inl (kA 4, 8, .inr (.inr (.inr (.inr (fun i => if i < 8 then some (x20 + 1 + i) else none)))))), ((x20 + 1 + 4), .inl (kA 0, 64, .inl (fun _ => 0))), ((x20 + 1 + 5), .inl (kA 0, 64, .inl (fun _ => 0))), ((x20 + 1 + 6), .inl (kA 0, 64, .inl (fun _ => 0))), ((x20 + 1 + 7), .inl (kA 0, 64, .inl (fun _ => 0))), (m0, .inr (11, y0)), (y18, .inl (kA 0, 128, .inl (fun _ => 0))), (y19, .inl (kA 0, 128, .inl (fun _ => 0)))]) : W p l e room_1 s m #[Value.ref b] below meth c H locs 514 172793 (lw_Z below #[Value.ref b] s) (F0 m 487 ls []) := by
  have ⟨hst, hx, hb, hr, hml, hown, hts, hG, hX, hbl, hbA, hlocks, hE, hK, hA⟩ := hC
  refine lv_aload_n hx hb dL_law_487 rfl (lv_at hl 1 rfl) ?_
  refine lv_aload_n hx hb dL_law_488 rfl (lv_at hl 0 rfl) ?_
  refine lv_iload hx hb dL_law_489 (lv_at hl 4 rfl) ?_
  refine lv_iconst (v := 1) hx hb dL_law_491 (by decide) ?_
  refine lv_iadd hx hb dL_law_492 ?_
  refine W.eq (g2 := F0 m 493 ls [.int 1, .ref b, .ref h0]) rfl ?_
  refine va_sld hx hb hX hbl hbA hS (show vp_in 1 8 by unfold vp_in; decide) dL_law_493 ?_
  refine W.eq (g2 := F0 m 494 ls [.int (xs 1), .ref h0]) rfl ?_
  refine lv_if_eq (tgt := 501) hx hb dL_law_494 (by decide) (fun c_1 => ?_) (fun c_1 => ?_)
  · skip
    refine lv_iconst (v := 0) hx hb dL_law_501 (by decide) ?_
    refine lv_aload_n hx hb dL_law_502 rfl (lv_at hl 0 rfl) ?_
    refine lv_iload hx hb dL_law_503 (lv_at hl 4 rfl) ?_
    refine lv_iconst (v := 2) hx hb dL_law_505 (by decide) ?_
    refine lv_iadd hx hb dL_law_506 ?_
    refine W.eq (g2 := F0 m 507 ls [.int 2, .ref b, .int 0, .ref h0]) rfl ?_
    refine va_sld hx hb hX hbl hbA hS (show vp_in 2 8 by unfold vp_in; decide) dL_law_507 ?_
    refine W.eq (g2 := F0 m 508 ls [.int (xs 2), .int 0, .ref h0]) rfl ?_
    refine lv_aload_n hx hb dL_law_508 rfl (lv_at hl 0 rfl) ?_
    refine lv_iload hx hb dL_law_509 (lv_at hl 4 rfl) ?_
    refine lv_iconst (v := 3) hx hb dL_law_511 (by decide) ?_
    refine lv_iadd hx hb dL_law_512 ?_
    refine W.eq (g2 := F0 m 513 ls [.int 3, .ref b, .int (xs 2), .int 0, .ref h0]) rfl ?_
    refine va_sld hx hb hX hbl hbA hS (show vp_in 3 8 by unfold vp_in; decide) dL_law_513 ?_
    refine W.eq (g2 := F0 m 514 ls [.int (xs 3), .int (xs 2), .int 0, .ref h0]) rfl ?_
    refine lv_aload_n hx hb dL_law_514 rfl (lv_at hl 0 rfl) ?_
    refine lv_iload hx hb dL_law_515 (lv_at hl 4 rfl) ?_
    refine lv_iconst (v := 4) hx hb dL_law_517 (by decide) ?_
    refine lv_iadd hx hb dL_law_518 ?_
    refine W.eq (g2 := F0 m 519 ls [.int 4, .ref b, .int (xs 3), .int (xs 2), .int 0, .ref h0]) rfl ?_
    refine va_sld hx hb hX hbl hbA hS (show vp_in 4 8 by unfold vp_in; decide) dL_law_519 ?_
    refine W.eq (g2 := F0 m 520 ls [.int (xs 4), .int (xs 3), .int (xs 2), .int 0, .ref h0]) rfl ?_
    have hPc := hP.sub (ws' := [(h0, .inr (10, [.ref x0, .int 0, .ref x1, .ref x2, .ref x3, .ref x4, .ref x5, .ref x6, .ref x7, .ref x8, .int 0, .int 3000])), (x4, .inr (1, [.ref x20])), (x20, .inl (kA 4, 8, .inr (.inr (.inr (.inr (fun i => if i < 8 then some (x20 + 1 + i) else none)))))), ((x20 + 1 + 4), .inl (kA 0, 64, .inl (fun _ => 0))), ((x20 + 1 + 5), .inl (kA 0, 64, .inl (fun _ => 0))), ((x20 + 1 + 6), .inl (kA 0, 64, .inl (fun _ => 0))), ((x20 + 1 + 7), .inl (kA 0, 64, .inl (fun _ => 0)))]) [0, 1, 2, 3, 4, 5, 6] rfl
    have hDc := hD.sub (ws' := [(h0, .inr (10, [.ref x0, .int 0, .ref x1, .ref x2, .ref x3, .ref x4, .ref x5, .ref x6, .ref x7, .ref x8, .int 0, .int 3000])), (x4, .inr (1, [.ref x20])), (x20, .inl (kA 4, 8, .inr (.inr (.inr (.inr (fun i => if i < 8 then some (x20 + 1 + i) else none)))))), ((x20 + 1 + 4), .inl (kA 0, 64, .inl (fun _ => 0))), ((x20 + 1 + 5), .inl (kA 0, 64, .inl (fun _ => 0))), ((x20 + 1 + 6), .inl (kA 0, 64, .inl (fun _ => 0))), ((x20 + 1 + 7), .inl (kA 0, 64, .inl (fun _ => 0)))]) [0, 1, 2, 3, 4, 5, 6] (by decide) rfl
    have hFc := va_free (wc := [(h0, .inr (10, [.ref x0, .int 0, .ref x1, .ref x2, .ref x3, .ref x4, .ref x5, .ref x6, .ref x7, .ref x8, .int 0, .int 3000])), (x4, .inr (1, [.ref x20])), (x20, .inl (kA 4, 8, .inr (.inr (.inr (.inr (fun i => if i < 8 then some (x20 + 1 + i) else none)))))), ((x20 + 1 + 4), .inl (kA 0, 64, .inl (fun _ => 0))), ((x20 + 1 + 5), .inl (kA 0, 64, .inl (fun _ => 0))), ((x20 + 1 + 6), .inl (kA 0, 64, .inl (fun _ => 0))), ((x20 + 1 + 7), .inl (kA 0, 64, .inl (fun _ => 0)))]) hD hS hA [0, 1, 2, 3, 4, 5, 6] rfl
    refine va_calli (vx_runSW (As := [.ref h0, .int 0, .int (xs 2), .int (xs 3), .int (xs 4)]) (rest := []) ⟨hx, hb, hml, hown, hts⟩ (a159_L_force l hst D kA V H.size h0 0 (xs 2) (xs 3) (xs 4) x0 x1 x2 x3 x4 x5 x6 x7 x8 x20) (vx_cwSW 5 hts (gw_SW gw_1660 gw_1661 gw_0 gw_1662) rfl rfl rfl (by decide +kernel) ⟨(Nat.le_of_ble_eq_true rfl), (Nat.le_of_ble_eq_true rfl)⟩) ⟨aP.blind, aP.pre hE hS hPc hK hDc hFc⟩ rfl rfl hl.1 rfl (lv_room (Nat.le_of_ble_eq_true rfl)) dL_law_520 ⟨(Nat.le_of_ble_eq_true rfl), (Nat.le_of_ble_eq_true rfl)⟩) hS (fun q _ h => hFc q h) hFc (fun r_2 u t H1 locs ht hvm hw hB hz1 hk1 hS => ?_)
    obtain ⟨hP1, hD1⟩ := hB
    rw [ht] at hP1
    try dsimp only at hw hP1 hD1
    rcases hw with ⟨c_3, w_4⟩ | ⟨c_5, c_6, w_7⟩ | ⟨c_8, c_9, c_10, c_11, w_12⟩ | ⟨c_13, c_14, c_15, c_16, w_17⟩
    · skip
      subst w_4
      obtain ⟨hP, hD⟩ := va_join (wr := [(m0, .inr (11, y0)), (y18, .inl (kA 0, 128, .inl (fun _ => 0))), (y19, .inl (kA 0, 128, .inl (fun _ => 0)))]) (w1 := []) hP hD [0, 1, 2, 3, 4, 5, 6] [7, 8, 9] rfl rfl (by decide) (by decide) hk1 hFc hP1 hD1
      generalize H1 = H at hP hS ⊢
      have hP : va_P D vwCl [(m0, .inr (11, y0)), (y18, .inl (kA 0, 128, .inl (fun _ => 0))), (y19, .inl (kA 0, 128, .inl (fun _ => 0)))] H := hP
      have hD : va_D A [(m0, .inr (11, y0)), (y18, .inl (kA 0, 128, .inl (fun _ => 0))), (y19, .inl (kA 0, 128, .inl (fun _ => 0)))] := hD
      refine lv_istore (lv' := [(5, .int 1), (0, .ref b), (1, .ref h0), (2, .ref m0), (3, .ref o0), (4, .int 0)]) hx hb dL_law_523 hl (by decide) rfl (fun ls hl => ?_)
      refine lv_aload_n hx hb dL_law_525 rfl (lv_at hl 3 rfl) ?_
      refine lv_aload_n hx hb dL_law_526 rfl (lv_at hl 1 rfl) ?_
      refine lv_iload hx hb dL_law_527 (lv_at hl 5 rfl) ?_
      refine lv_iconst (v := 1) hx hb dL_law_529 (by decide) ?_
      refine lv_iadd hx hb dL_law_530 ?_
      refine W.eq (g2 := F0 m 531 ls [.int 1, .ref b, .ref m0]) rfl ?_
      refine va_sld hx hb hX hbl hbA hS (show vp_in 1 8 by unfold vp_in; decide) dL_law_531 ?_
      refine W.eq (g2 := F0 m 532 ls [.int (xs 1), .ref m0]) rfl ?_
      refine lv_if_eq (tgt := 539) hx hb dL_law_532 (by decide) (fun c_18 => ?_) (fun c_18 => ?_)
      · skip
        refine lv_iconst (v := 0) hx hb dL_law_539 (by decide) ?_
        refine lv_aload_n hx hb dL_law_540 rfl (lv_at hl 1 rfl) ?_
        refine lv_iload hx hb dL_law_541 (lv_at hl 5 rfl) ?_
        refine lv_iconst (v := 2) hx hb dL_law_543 (by decide) ?_
        refine lv_iadd hx hb dL_law_544 ?_
        refine W.eq (g2 := F0 m 545 ls [.int 2, .ref b, .int 0, .ref m0]) rfl ?_
        refine va_sld hx hb hX hbl hbA hS (show vp_in 2 8 by unfold vp_in; decide) dL_law_545 ?_
        refine W.eq (g2 := F0 m 546 ls [.int (xs 2), .int 0, .ref m0]) rfl ?_
        refine lv_aload_n hx hb dL_law_546 rfl (lv_at hl 1 rfl) ?_
        refine lv_iload hx hb dL_law_547 (lv_at hl 5 rfl) ?_
        refine lv_iconst (v := 3) hx hb dL_law_549 (by decide) ?_
        refine lv_iadd hx hb dL_law_550 ?_
        refine W.eq (g2 := F0 m 551 ls [.int 3, .ref b, .int (xs 2), .int 0, .ref m0]) rfl ?_
        refine va_sld hx hb hX hbl hbA hS (show vp_in 3 8 by unfold vp_in; decide) dL_law_551 ?_
        refine W.eq (g2 := F0 m 552 ls [.int (xs 3), .int (xs 2), .int 0, .ref m0]) rfl ?_
        refine lv_aload_n hx hb dL_law_552 rfl (lv_at hl 1 rfl) ?_
        refine lv_iload hx hb dL_law_553 (lv_at hl 5 rfl) ?_
        refine lv_iconst (v := 4) hx hb dL_law_555 (by decide) ?_
        refine lv_iadd hx hb dL_law_556 ?_
        refine W.eq (g2 := F0 m 557 ls [.int 4, .ref b, .int (xs 3), .int (xs 2), .int 0, .ref m0]) rfl ?_
        refine va_sld hx hb hX hbl hbA hS (show vp_in 4 8 by unfold vp_in; decide) dL_law_557 ?_
        refine W.eq (g2 := F0 m 558 ls [.int (xs 4), .int (xs 3), .int (xs 2), .int 0, .ref m0]) rfl ?_
        have hPc := hP.sub (ws' := [(m0, .inr (11, y0)), (y18, .inl (kA 0, 128, .inl (fun _ => 0))), (y19, .inl (kA 0, 128, .inl (fun _ => 0)))]) [0, 1, 2] rfl
        have hDc := hD.sub (ws' := [(m0, .inr (11, y0)), (y18, .inl (kA 0, 128, .inl (fun _ => 0))), (y19, .inl (kA 0, 128, .inl (fun _ => 0)))]) [0, 1, 2] (by decide) rfl
        have hFc := va_free (wc := [(m0, .inr (11, y0)), (y18, .inl (kA 0, 128, .inl (fun _ => 0))), (y19, .inl (kA 0, 128, .inl (fun _ => 0)))]) hD hS hA [0, 1, 2] rfl
        refine va_callv (va_runV (As := [.int 0, .int (xs 2), .int (xs 3), .int (xs 4)]) (rest := []) ⟨hx, hb, hml, hown, hts⟩ (a129_X12_force l  D kA V H.size m0 0 (xs 2) (xs 3) (xs 4) y18 y19 y0 (fun k hk => (hq k hk)) hq9 hq86 hq87) (cwV 4 hts (gw_V gw_2684 gw_2685 gw_2686 gw_16 gw_2687) rfl rfl rfl (by decide +kernel) ⟨(Nat.le_of_ble_eq_true rfl), (Nat.le_of_ble_eq_true rfl)⟩) ⟨aP.blind, va_recv hK hP (ci := 11) (q0 := 0) rfl rfl, aP.pre hE hS hPc hK hDc hFc⟩ rfl rfl hl.1 rfl (lv_room (Nat.le_of_ble_eq_true rfl)) dL_law_558 ⟨(Nat.le_of_ble_eq_true rfl), (Nat.le_of_ble_eq_true rfl)⟩) hS (fun q _ h => hFc q h) hFc (fun u t H1 locs ht hvm hw hB hz1 hk1 hS => ?_)
        obtain ⟨u_20, u_21, u_22⟩ := u
        obtain ⟨hP1, hD1⟩ := hB
        rw [ht] at hP1
        try dsimp only at hw hP1 hD1
        rcases hw with ⟨c_23, w_24, w_25, w_26⟩ | ⟨c_27, c_28, w_29, w_30, w_31⟩ | ⟨c_32, c_33, c_34, w_35⟩ | ⟨c_36, c_37, c_38, w_39⟩
        · skip
          subst w_24
          subst w_25
          subst w_26
          obtain ⟨hP, hD⟩ := va_join (wr := []) (w1 := [(m0, .inr (11, y0.set 9 (.int 1))), (y18, .inl (kA 0, 128, .inl (fun _ => 0))), (y19, .inl (kA 0, 128, .inl (fun _ => 0)))]) hP hD [0, 1, 2] [] rfl rfl (by decide) (by decide) hk1 hFc hP1 hD1
          generalize H1 = H at hP hS ⊢
          have hP : va_P D vwCl [(m0, .inr (11, y0.set 9 (.int 1))), (y18, .inl (kA 0, 128, .inl (fun _ => 0))), (y19, .inl (kA 0, 128, .inl (fun _ => 0)))] H := hP
          have hD : va_D A [(m0, .inr (11, y0.set 9 (.int 1))), (y18, .inl (kA 0, 128, .inl (fun _ => 0))), (y19, .inl (kA 0, 128, .inl (fun _ => 0)))] := hD
          refine lv_aload_n hx hb dL_law_561 rfl (lv_at hl 3 rfl) ?_
          have hPc := hP.sub (ws' := [(m0, .inr (11, y0.set 9 (.int 1)))]) [0] rfl
          have hDc := hD.sub (ws' := [(m0, .inr (11, y0.set 9 (.int 1)))]) [0] (by decide) rfl
          have hFc := va_free (wc := [(m0, .inr (11, y0.set 9 (.int 1)))]) hD hS hA [0] rfl
          refine va_calli (va_runV (As := []) (rest := []) ⟨hx, hb, hml, hown, hts⟩ (a174_X12_thrown l  D kA V H.size m0 (y0.set 9 (.int 1)) (fun k hk => (by rw [List.length_set]; exact (hq k hk))) (List.getElem?_set_self (hq 9 (by decide)))) (cwV 0 hts (gw_V gw_1879 gw_1880 gw_1881 gw_16 gw_1882) rfl rfl rfl (by decide +kernel) ⟨(Nat.le_of_ble_eq_true rfl), (Nat.le_of_ble_eq_true rfl)⟩) ⟨aP.blind, va_recv hK hP (ci := 11) (q0 := 0) rfl rfl, aP.pre hE hS hPc hK hDc hFc⟩ rfl rfl hl.1 rfl (lv_room (Nat.le_of_ble_eq_true rfl)) dL_law_562 ⟨(Nat.le_of_ble_eq_true rfl), (Nat.le_of_ble_eq_true rfl)⟩) hS (fun q _ h => hFc q h) hFc (fun r_40 u t H1 locs ht hvm hw hB hz1 hk1 hS => ?_)
          obtain ⟨hP1, hD1⟩ := hB
          rw [ht] at hP1
          try dsimp only at hw hP1 hD1
          have w_41 := hw
          subst w_41
          obtain ⟨hP, hD⟩ := va_join (wr := [(y18, .inl (kA 0, 128, .inl (fun _ => 0))), (y19, .inl (kA 0, 128, .inl (fun _ => 0)))]) (w1 := [(m0, .inr (11, (y0.set 9 (.int 1))))]) hP hD [0] [1, 2] rfl rfl (by decide) (by decide) hk1 hFc hP1 hD1
          generalize H1 = H at hP hS ⊢
          have hP : va_P D vwCl [(y18, .inl (kA 0, 128, .inl (fun _ => 0))), (y19, .inl (kA 0, 128, .inl (fun _ => 0))), (m0, .inr (11, (y0.set 9 (.int 1))))] H := hP
          have hD : va_D A [(y18, .inl (kA 0, 128, .inl (fun _ => 0))), (y19, .inl (kA 0, 128, .inl (fun _ => 0))), (m0, .inr (11, (y0.set 9 (.int 1))))] := hD
          refine lv_iload hx hb dL_law_565 (lv_at hl 0 rfl) ?_
          refine lv_icmp_eq (tgt := 572) hx hb dL_law_567 (by decide) (fun c_42 => ?_) (fun c_42 => ?_)
          · skip
            refine lv_goto (tgt := 1804) hx hb dL_law_572 (by decide) ?_
            exact lk_tail hC hA2 (lv_sub hl [1, 5] rfl) hS (Nat.le_of_ble_eq_true rfl) (Nat.le_of_ble_eq_true rfl)
          · exact absurd (by decide) c_42
        · skip
          subst w_29
          subst w_30
          subst w_31
          exact absurd c_3 c_27
        · skip
          subst w_35
          exact absurd c_3 c_32
        · skip
          subst w_39
          exact absurd c_3 c_36
      · exact absurd c_1 c_18
    · skip
      subst w_7
      obtain ⟨hP, hD⟩ := va_join (wr := [(m0, .inr (11, y0)), (y18, .inl (kA 0, 128, .inl (fun _ => 0))), (y19, .inl (kA 0, 128, .inl (fun _ => 0)))]) (w1 := []) hP hD [0, 1, 2, 3, 4, 5, 6] [7, 8, 9] rfl rfl (by decide) (by decide) hk1 hFc hP1 hD1
      generalize H1 = H at hP hS ⊢
      have hP : va_P D vwCl [(m0, .inr (11, y0)), (y18, .inl (kA 0, 128, .inl (fun _ => 0))), (y19, .inl (kA 0, 128, .inl (fun _ => 0)))] H := hP
      have hD : va_D A [(m0, .inr (11, y0)), (y18, .inl (kA 0, 128, .inl (fun _ => 0))), (y19, .inl (kA 0, 128, .inl (fun _ => 0)))] := hD
      refine lv_istore (lv' := [(5, .int 1), (0, .ref b), (1, .ref h0), (2, .ref m0), (3, .ref o0), (4, .int 0)]) hx hb dL_law_523 hl (by decide) rfl (fun ls hl => ?_)
      refine lv_aload_n hx hb dL_law_525 rfl (lv_at hl 3 rfl) ?_
      refine lv_aload_n hx hb dL_law_526 rfl (lv_at hl 1 rfl) ?_
      refine lv_iload hx hb dL_law_527 (lv_at hl 5 rfl) ?_
      refine lv_iconst (v := 1) hx hb dL_law_529 (by decide) ?_
      refine lv_iadd hx hb dL_law_530 ?_
      refine W.eq (g2 := F0 m 531 ls [.int 1, .ref b, .ref m0]) rfl ?_
      refine va_sld hx hb hX hbl hbA hS (show vp_in 1 8 by unfold vp_in; decide) dL_law_531 ?_
      refine W.eq (g2 := F0 m 532 ls [.int (xs 1), .ref m0]) rfl ?_
      refine lv_if_eq (tgt := 539) hx hb dL_law_532 (by decide) (fun c_43 => ?_) (fun c_43 => ?_)
      · skip
        refine lv_iconst (v := 0) hx hb dL_law_539 (by decide) ?_
        refine lv_aload_n hx hb dL_law_540 rfl (lv_at hl 1 rfl) ?_
        refine lv_iload hx hb dL_law_541 (lv_at hl 5 rfl) ?_
        refine lv_iconst (v := 2) hx hb dL_law_543 (by decide) ?_
        refine lv_iadd hx hb dL_law_544 ?_
        refine W.eq (g2 := F0 m 545 ls [.int 2, .ref b, .int 0, .ref m0]) rfl ?_
        refine va_sld hx hb hX hbl hbA hS (show vp_in 2 8 by unfold vp_in; decide) dL_law_545 ?_
        refine W.eq (g2 := F0 m 546 ls [.int (xs 2), .int 0, .ref m0]) rfl ?_
        refine lv_aload_n hx hb dL_law_546 rfl (lv_at hl 1 rfl) ?_
        refine lv_iload hx hb dL_law_547 (lv_at hl 5 rfl) ?_
        refine lv_iconst (v := 3) hx hb dL_law_549 (by decide) ?_
        refine lv_iadd hx hb dL_law_550 ?_
        refine W.eq (g2 := F0 m 551 ls [.int 3, .ref b, .int (xs 2), .int 0, .ref m0]) rfl ?_
        refine va_sld hx hb hX hbl hbA hS (show vp_in 3 8 by unfold vp_in; decide) dL_law_551 ?_
        refine W.eq (g2 := F0 m 552 ls [.int (xs 3), .int (xs 2), .int 0, .ref m0]) rfl ?_
        refine lv_aload_n hx hb dL_law_552 rfl (lv_at hl 1 rfl) ?_
        refine lv_iload hx hb dL_law_553 (lv_at hl 5 rfl) ?_
        refine lv_iconst (v := 4) hx hb dL_law_555 (by decide) ?_
        refine lv_iadd hx hb dL_law_556 ?_
        refine W.eq (g2 := F0 m 557 ls [.int 4, .ref b, .int (xs 3), .int (xs 2), .int 0, .ref m0]) rfl ?_
        refine va_sld hx hb hX hbl hbA hS (show vp_in 4 8 by unfold vp_in; decide) dL_law_557 ?_
        refine W.eq (g2 := F0 m 558 ls [.int (xs 4), .int (xs 3), .int (xs 2), .int 0, .ref m0]) rfl ?_
        have hPc := hP.sub (ws' := [(m0, .inr (11, y0)), (y18, .inl (kA 0, 128, .inl (fun _ => 0))), (y19, .inl (kA 0, 128, .inl (fun _ => 0)))]) [0, 1, 2] rfl
        have hDc := hD.sub (ws' := [(m0, .inr (11, y0)), (y18, .inl (kA 0, 128, .inl (fun _ => 0))), (y19, .inl (kA 0, 128, .inl (fun _ => 0)))]) [0, 1, 2] (by decide) rfl
        have hFc := va_free (wc := [(m0, .inr (11, y0)), (y18, .inl (kA 0, 128, .inl (fun _ => 0))), (y19, .inl (kA 0, 128, .inl (fun _ => 0)))]) hD hS hA [0, 1, 2] rfl
        refine va_callv (va_runV (As := [.int 0, .int (xs 2), .int (xs 3), .int (xs 4)]) (rest := []) ⟨hx, hb, hml, hown, hts⟩ (a129_X12_force l  D kA V H.size m0 0 (xs 2) (xs 3) (xs 4) y18 y19 y0 (fun k hk => (hq k hk)) hq9 hq86 hq87) (cwV 4 hts (gw_V gw_2684 gw_2685 gw_2686 gw_16 gw_2687) rfl rfl rfl (by decide +kernel) ⟨(Nat.le_of_ble_eq_true rfl), (Nat.le_of_ble_eq_true rfl)⟩) ⟨aP.blind, va_recv hK hP (ci := 11) (q0 := 0) rfl rfl, aP.pre hE hS hPc hK hDc hFc⟩ rfl rfl hl.1 rfl (lv_room (Nat.le_of_ble_eq_true rfl)) dL_law_558 ⟨(Nat.le_of_ble_eq_true rfl), (Nat.le_of_ble_eq_true rfl)⟩) hS (fun q _ h => hFc q h) hFc (fun u t H1 locs ht hvm hw hB hz1 hk1 hS => ?_)
        obtain ⟨u_45, u_46, u_47⟩ := u
        obtain ⟨hP1, hD1⟩ := hB
        rw [ht] at hP1
        try dsimp only at hw hP1 hD1
        rcases hw with ⟨c_48, w_49, w_50, w_51⟩ | ⟨c_52, c_53, w_54, w_55, w_56⟩ | ⟨c_57, c_58, c_59, w_60⟩ | ⟨c_61, c_62, c_63, w_64⟩
        · skip
          subst w_49
          subst w_50
          subst w_51
          exact absurd c_48 c_5
        · skip
          subst w_54
          subst w_55
          subst w_56
          obtain ⟨hP, hD⟩ := va_join (wr := []) (w1 := [(m0, .inr (11, y0.set 9 (.int 1))), (y18, .inl (kA 0, 128, .inl (fun _ => 0))), (y19, .inl (kA 0, 128, .inl (fun _ => 0)))]) hP hD [0, 1, 2] [] rfl rfl (by decide) (by decide) hk1 hFc hP1 hD1
          generalize H1 = H at hP hS ⊢
          have hP : va_P D vwCl [(m0, .inr (11, y0.set 9 (.int 1))), (y18, .inl (kA 0, 128, .inl (fun _ => 0))), (y19, .inl (kA 0, 128, .inl (fun _ => 0)))] H := hP
          have hD : va_D A [(m0, .inr (11, y0.set 9 (.int 1))), (y18, .inl (kA 0, 128, .inl (fun _ => 0))), (y19, .inl (kA 0, 128, .inl (fun _ => 0)))] := hD
          refine lv_aload_n hx hb dL_law_561 rfl (lv_at hl 3 rfl) ?_
          have hPc := hP.sub (ws' := [(m0, .inr (11, y0.set 9 (.int 1)))]) [0] rfl
          have hDc := hD.sub (ws' := [(m0, .inr (11, y0.set 9 (.int 1)))]) [0] (by decide) rfl
          have hFc := va_free (wc := [(m0, .inr (11, y0.set 9 (.int 1)))]) hD hS hA [0] rfl
          refine va_calli (va_runV (As := []) (rest := []) ⟨hx, hb, hml, hown, hts⟩ (a174_X12_thrown l  D kA V H.size m0 (y0.set 9 (.int 1)) (fun k hk => (by rw [List.length_set]; exact (hq k hk))) (List.getElem?_set_self (hq 9 (by decide)))) (cwV 0 hts (gw_V gw_1879 gw_1880 gw_1881 gw_16 gw_1882) rfl rfl rfl (by decide +kernel) ⟨(Nat.le_of_ble_eq_true rfl), (Nat.le_of_ble_eq_true rfl)⟩) ⟨aP.blind, va_recv hK hP (ci := 11) (q0 := 0) rfl rfl, aP.pre hE hS hPc hK hDc hFc⟩ rfl rfl hl.1 rfl (lv_room (Nat.le_of_ble_eq_true rfl)) dL_law_562 ⟨(Nat.le_of_ble_eq_true rfl), (Nat.le_of_ble_eq_true rfl)⟩) hS (fun q _ h => hFc q h) hFc (fun r_65 u t H1 locs ht hvm hw hB hz1 hk1 hS => ?_)
          obtain ⟨hP1, hD1⟩ := hB
          rw [ht] at hP1
          try dsimp only at hw hP1 hD1
          have w_66 := hw
          subst w_66
          obtain ⟨hP, hD⟩ := va_join (wr := [(y18, .inl (kA 0, 128, .inl (fun _ => 0))), (y19, .inl (kA 0, 128, .inl (fun _ => 0)))]) (w1 := [(m0, .inr (11, (y0.set 9 (.int 1))))]) hP hD [0] [1, 2] rfl rfl (by decide) (by decide) hk1 hFc hP1 hD1
          generalize H1 = H at hP hS ⊢
          have hP : va_P D vwCl [(y18, .inl (kA 0, 128, .inl (fun _ => 0))), (y19, .inl (kA 0, 128, .inl (fun _ => 0))), (m0, .inr (11, (y0.set 9 (.int 1))))] H := hP
          have hD : va_D A [(y18, .inl (kA 0, 128, .inl (fun _ => 0))), (y19, .inl (kA 0, 128, .inl (fun _ => 0))), (m0, .inr (11, (y0.set 9 (.int 1))))] := hD
          refine lv_iload hx hb dL_law_565 (lv_at hl 0 rfl) ?_
          refine lv_icmp_eq (tgt := 572) hx hb dL_law_567 (by decide) (fun c_67 => ?_) (fun c_67 => ?_)
          · skip
            refine lv_goto (tgt := 1804) hx hb dL_law_572 (by decide) ?_
            exact lk_tail hC hA2 (lv_sub hl [1, 5] rfl) hS (Nat.le_of_ble_eq_true rfl) (Nat.le_of_ble_eq_true rfl)
          · exact absurd (by decide) c_67
        · skip
          subst w_60
          exact False.elim (by have a1 := (ixL (n := 63) (Int32.not_lt.mp c_58) (by decide)); have a2 := (iyB (n := 64) (Int32.not_lt.mp c_6) (by decide)); omega)
        · skip
          subst w_64
          exact False.elim (by have a1 := (ixL (n := 63) (Int32.not_lt.mp c_62) (by decide)); have a2 := (iyB (n := 64) (Int32.not_lt.mp c_6) (by decide)); omega)
      · exact absurd c_1 c_43
    · skip
      subst w_12
      obtain ⟨hP, hD⟩ := va_join (wr := [(m0, .inr (11, y0)), (y18, .inl (kA 0, 128, .inl (fun _ => 0))), (y19, .inl (kA 0, 128, .inl (fun _ => 0)))]) (w1 := []) hP hD [0, 1, 2, 3, 4, 5, 6] [7, 8, 9] rfl rfl (by decide) (by decide) hk1 hFc hP1 hD1
      generalize H1 = H at hP hS ⊢
      have hP : va_P D vwCl [(m0, .inr (11, y0)), (y18, .inl (kA 0, 128, .inl (fun _ => 0))), (y19, .inl (kA 0, 128, .inl (fun _ => 0)))] H := hP
      have hD : va_D A [(m0, .inr (11, y0)), (y18, .inl (kA 0, 128, .inl (fun _ => 0))), (y19, .inl (kA 0, 128, .inl (fun _ => 0)))] := hD
      refine lv_istore (lv' := [(5, .int 0), (0, .ref b), (1, .ref h0), (2, .ref m0), (3, .ref o0), (4, .int 0)]) hx hb dL_law_523 hl (by decide) rfl (fun ls hl => ?_)
      refine lv_aload_n hx hb dL_law_525 rfl (lv_at hl 3 rfl) ?_
      refine lv_aload_n hx hb dL_law_526 rfl (lv_at hl 1 rfl) ?_
      refine lv_iload hx hb dL_law_527 (lv_at hl 5 rfl) ?_
      refine lv_iconst (v := 1) hx hb dL_law_529 (by decide) ?_
      refine lv_iadd hx hb dL_law_530 ?_
      refine W.eq (g2 := F0 m 531 ls [.int 1, .ref b, .ref m0]) rfl ?_
      refine va_sld hx hb hX hbl hbA hS (show vp_in 1 8 by unfold vp_in; decide) dL_law_531 ?_
      refine W.eq (g2 := F0 m 532 ls [.int (xs 1), .ref m0]) rfl ?_
      refine lv_if_eq (tgt := 539) hx hb dL_law_532 (by decide) (fun c_68 => ?_) (fun c_68 => ?_)
      · skip
        refine lv_iconst (v := 0) hx hb dL_law_539 (by decide) ?_
        refine lv_aload_n hx hb dL_law_540 rfl (lv_at hl 1 rfl) ?_
        refine lv_iload hx hb dL_law_541 (lv_at hl 5 rfl) ?_
        refine lv_iconst (v := 2) hx hb dL_law_543 (by decide) ?_
        refine lv_iadd hx hb dL_law_544 ?_
        refine W.eq (g2 := F0 m 545 ls [.int 2, .ref b, .int 0, .ref m0]) rfl ?_
        refine va_sld hx hb hX hbl hbA hS (show vp_in 2 8 by unfold vp_in; decide) dL_law_545 ?_
        refine W.eq (g2 := F0 m 546 ls [.int (xs 2), .int 0, .ref m0]) rfl ?_
        refine lv_aload_n hx hb dL_law_546 rfl (lv_at hl 1 rfl) ?_
        refine lv_iload hx hb dL_law_547 (lv_at hl 5 rfl) ?_
        refine lv_iconst (v := 3) hx hb dL_law_549 (by decide) ?_
        refine lv_iadd hx hb dL_law_550 ?_
        refine W.eq (g2 := F0 m 551 ls [.int 3, .ref b, .int (xs 2), .int 0, .ref m0]) rfl ?_
        refine va_sld hx hb hX hbl hbA hS (show vp_in 3 8 by unfold vp_in; decide) dL_law_551 ?_
        refine W.eq (g2 := F0 m 552 ls [.int (xs 3), .int (xs 2), .int 0, .ref m0]) rfl ?_
        refine lv_aload_n hx hb dL_law_552 rfl (lv_at hl 1 rfl) ?_
        refine lv_iload hx hb dL_law_553 (lv_at hl 5 rfl) ?_
        refine lv_iconst (v := 4) hx hb dL_law_555 (by decide) ?_
        refine lv_iadd hx hb dL_law_556 ?_
        refine W.eq (g2 := F0 m 557 ls [.int 4, .ref b, .int (xs 3), .int (xs 2), .int 0, .ref m0]) rfl ?_
        refine va_sld hx hb hX hbl hbA hS (show vp_in 4 8 by unfold vp_in; decide) dL_law_557 ?_
        refine W.eq (g2 := F0 m 558 ls [.int (xs 4), .int (xs 3), .int (xs 2), .int 0, .ref m0]) rfl ?_
        have hPc := hP.sub (ws' := [(m0, .inr (11, y0)), (y18, .inl (kA 0, 128, .inl (fun _ => 0))), (y19, .inl (kA 0, 128, .inl (fun _ => 0)))]) [0, 1, 2] rfl
        have hDc := hD.sub (ws' := [(m0, .inr (11, y0)), (y18, .inl (kA 0, 128, .inl (fun _ => 0))), (y19, .inl (kA 0, 128, .inl (fun _ => 0)))]) [0, 1, 2] (by decide) rfl
        have hFc := va_free (wc := [(m0, .inr (11, y0)), (y18, .inl (kA 0, 128, .inl (fun _ => 0))), (y19, .inl (kA 0, 128, .inl (fun _ => 0)))]) hD hS hA [0, 1, 2] rfl
        refine va_callv (va_runV (As := [.int 0, .int (xs 2), .int (xs 3), .int (xs 4)]) (rest := []) ⟨hx, hb, hml, hown, hts⟩ (a129_X12_force l  D kA V H.size m0 0 (xs 2) (xs 3) (xs 4) y18 y19 y0 (fun k hk => (hq k hk)) hq9 hq86 hq87) (cwV 4 hts (gw_V gw_2684 gw_2685 gw_2686 gw_16 gw_2687) rfl rfl rfl (by decide +kernel) ⟨(Nat.le_of_ble_eq_true rfl), (Nat.le_of_ble_eq_true rfl)⟩) ⟨aP.blind, va_recv hK hP (ci := 11) (q0 := 0) rfl rfl, aP.pre hE hS hPc hK hDc hFc⟩ rfl rfl hl.1 rfl (lv_room (Nat.le_of_ble_eq_true rfl)) dL_law_558 ⟨(Nat.le_of_ble_eq_true rfl), (Nat.le_of_ble_eq_true rfl)⟩) hS (fun q _ h => hFc q h) hFc (fun u t H1 locs ht hvm hw hB hz1 hk1 hS => ?_)
        obtain ⟨u_70, u_71, u_72⟩ := u
        obtain ⟨hP1, hD1⟩ := hB
        rw [ht] at hP1
        try dsimp only at hw hP1 hD1
        rcases hw with ⟨c_73, w_74, w_75, w_76⟩ | ⟨c_77, c_78, w_79, w_80, w_81⟩ | ⟨c_82, c_83, c_84, w_85⟩ | ⟨c_86, c_87, c_88, w_89⟩
        · skip
          subst w_74
          subst w_75
          subst w_76
          exact absurd c_73 c_8
        · skip
          subst w_79
          subst w_80
          subst w_81
          exact False.elim (by have a1 := (iyS (n := 63) c_78 (by decide)); have a2 := (ixA (n := 64) c_9 (by decide)); omega)
        · skip
          subst w_85
          obtain ⟨hP, hD⟩ := va_join (wr := []) (w1 := [(m0, .inr (11, y0.set 9 (.int 0))), (y18, .inl (kA 0, 128, .inl u_71)), (y19, .inl (kA 0, 128, .inl u_72))]) hP hD [0, 1, 2] [] rfl rfl (by decide) (by decide) hk1 hFc hP1 hD1
          generalize H1 = H at hP hS ⊢
          have hP : va_P D vwCl [(m0, .inr (11, y0.set 9 (.int 0))), (y18, .inl (kA 0, 128, .inl u_71)), (y19, .inl (kA 0, 128, .inl u_72))] H := hP
          have hD : va_D A [(m0, .inr (11, y0.set 9 (.int 0))), (y18, .inl (kA 0, 128, .inl u_71)), (y19, .inl (kA 0, 128, .inl u_72))] := hD
          refine lv_aload_n hx hb dL_law_561 rfl (lv_at hl 3 rfl) ?_
          have hPc := hP.sub (ws' := [(m0, .inr (11, y0.set 9 (.int 0)))]) [0] rfl
          have hDc := hD.sub (ws' := [(m0, .inr (11, y0.set 9 (.int 0)))]) [0] (by decide) rfl
          have hFc := va_free (wc := [(m0, .inr (11, y0.set 9 (.int 0)))]) hD hS hA [0] rfl
          refine va_calli (va_runV (As := []) (rest := []) ⟨hx, hb, hml, hown, hts⟩ (a94_X12_thrown l  D kA V H.size m0 (y0.set 9 (.int 0)) (fun k hk => (by rw [List.length_set]; exact (hq k hk))) (List.getElem?_set_self (hq 9 (by decide)))) (cwV 0 hts (gw_V gw_1879 gw_1880 gw_1881 gw_16 gw_1882) rfl rfl rfl (by decide +kernel) ⟨(Nat.le_of_ble_eq_true rfl), (Nat.le_of_ble_eq_true rfl)⟩) ⟨aP.blind, va_recv hK hP (ci := 11) (q0 := 0) rfl rfl, aP.pre hE hS hPc hK hDc hFc⟩ rfl rfl hl.1 rfl (lv_room (Nat.le_of_ble_eq_true rfl)) dL_law_562 ⟨(Nat.le_of_ble_eq_true rfl), (Nat.le_of_ble_eq_true rfl)⟩) hS (fun q _ h => hFc q h) hFc (fun r_90 u t H1 locs ht hvm hw hB hz1 hk1 hS => ?_)
          obtain ⟨hP1, hD1⟩ := hB
          rw [ht] at hP1
          try dsimp only at hw hP1 hD1
          have w_91 := hw
          subst w_91
          obtain ⟨hP, hD⟩ := va_join (wr := [(y18, .inl (kA 0, 128, .inl u_71)), (y19, .inl (kA 0, 128, .inl u_72))]) (w1 := [(m0, .inr (11, (y0.set 9 (.int 0))))]) hP hD [0] [1, 2] rfl rfl (by decide) (by decide) hk1 hFc hP1 hD1
          generalize H1 = H at hP hS ⊢
          have hP : va_P D vwCl [(y18, .inl (kA 0, 128, .inl u_71)), (y19, .inl (kA 0, 128, .inl u_72)), (m0, .inr (11, (y0.set 9 (.int 0))))] H := hP
          have hD : va_D A [(y18, .inl (kA 0, 128, .inl u_71)), (y19, .inl (kA 0, 128, .inl u_72)), (m0, .inr (11, (y0.set 9 (.int 0))))] := hD
          refine lv_iload hx hb dL_law_565 (lv_at hl 0 rfl) ?_
          refine lv_icmp_eq (tgt := 572) hx hb dL_law_567 (by decide) (fun c_92 => ?_) (fun c_92 => ?_)
          · skip
            refine lv_goto (tgt := 1804) hx hb dL_law_572 (by decide) ?_
            exact lk_tail hC hA2 (lv_sub hl [1, 5] rfl) hS (Nat.le_of_ble_eq_true rfl) (Nat.le_of_ble_eq_true rfl)
          · exact absurd (by decide) c_92
        · skip
          subst w_89
          exact absurd c_10 c_88
      · exact absurd c_1 c_68
    · skip
      subst w_17
      exact absurd c_15 (by decide)
  · skip
    refine lv_iconst (v := 1) hx hb dL_law_497 (by decide) ?_
    refine lv_goto (tgt := 502) hx hb dL_law_498 (by decide) ?_
    refine lv_aload_n hx hb dL_law_502 rfl (lv_at hl 0 rfl) ?_
    refine lv_iload hx hb dL_law_503 (lv_at hl 4 rfl) ?_
    refine lv_iconst (v := 2) hx hb dL_law_505 (by decide) ?_
    refine lv_iadd hx hb dL_law_506 ?_
    refine W.eq (g2 := F0 m 507 ls [.int 2, .ref b, .int 1, .ref h0]) rfl ?_
    refine va_sld hx hb hX hbl hbA hS (show vp_in 2 8 by unfold vp_in; decide) dL_law_507 ?_
    refine W.eq (g2 := F0 m 508 ls [.int (xs 2), .int 1, .ref h0]) rfl ?_
    refine lv_aload_n hx hb dL_law_508 rfl (lv_at hl 0 rfl) ?_
    refine lv_iload hx hb dL_law_509 (lv_at hl 4 rfl) ?_
    refine lv_iconst (v := 3) hx hb dL_law_511 (by decide) ?_
    refine lv_iadd hx hb dL_law_512 ?_
    refine W.eq (g2 := F0 m 513 ls [.int 3, .ref b, .int (xs 2), .int 1, .ref h0]) rfl ?_
    refine va_sld hx hb hX hbl hbA hS (show vp_in 3 8 by unfold vp_in; decide) dL_law_513 ?_
    refine W.eq (g2 := F0 m 514 ls [.int (xs 3), .int (xs 2), .int 1, .ref h0]) rfl ?_
    refine lv_aload_n hx hb dL_law_514 rfl (lv_at hl 0 rfl) ?_
    refine lv_iload hx hb dL_law_515 (lv_at hl 4 rfl) ?_
    refine lv_iconst (v := 4) hx hb dL_law_517 (by decide) ?_
    refine lv_iadd hx hb dL_law_518 ?_
    refine W.eq (g2 := F0 m 519 ls [.int 4, .ref b, .int (xs 3), .int (xs 2), .int 1, .ref h0]) rfl ?_
    refine va_sld hx hb hX hbl hbA hS (show vp_in 4 8 by unfold vp_in; decide) dL_law_519 ?_
    refine W.eq (g2 := F0 m 520 ls [.int (xs 4), .int (xs 3), .int (xs 2), .int 1, .ref h0]) rfl ?_
    have hPc := hP.sub (ws' := [(h0, .inr (10, [.ref x0, .int 0, .ref x1, .ref x2, .ref x3, .ref x4, .ref x5, .ref x6, .ref x7, .ref x8, .int 0, .int 3000])), (x4, .inr (1, [.ref x20])), (x20, .inl (kA 4, 8, .inr (.inr (.inr (.inr (fun i => if i < 8 then some (x20 + 1 + i) else none)))))), ((x20 + 1 + 4), .inl (kA 0, 64, .inl (fun _ => 0))), ((x20 + 1 + 5), .inl (kA 0, 64, .inl (fun _ => 0))), ((x20 + 1 + 6), .inl (kA 0, 64, .inl (fun _ => 0))), ((x20 + 1 + 7), .inl (kA 0, 64, .inl (fun _ => 0)))]) [0, 1, 2, 3, 4, 5, 6] rfl
    have hDc := hD.sub (ws' := [(h0, .inr (10, [.ref x0, .int 0, .ref x1, .ref x2, .ref x3, .ref x4, .ref x5, .ref x6, .ref x7, .ref x8, .int 0, .int 3000])), (x4, .inr (1, [.ref x20])), (x20, .inl (kA 4, 8, .inr (.inr (.inr (.inr (fun i => if i < 8 then some (x20 + 1 + i) else none)))))), ((x20 + 1 + 4), .inl (kA 0, 64, .inl (fun _ => 0))), ((x20 + 1 + 5), .inl (kA 0, 64, .inl (fun _ => 0))), ((x20 + 1 + 6), .inl (kA 0, 64, .inl (fun _ => 0))), ((x20 + 1 + 7), .inl (kA 0, 64, .inl (fun _ => 0)))]) [0, 1, 2, 3, 4, 5, 6] (by decide) rfl
    have hFc := va_free (wc := [(h0, .inr (10, [.ref x0, .int 0, .ref x1, .ref x2, .ref x3, .ref x4, .ref x5, .ref x6, .ref x7, .ref x8, .int 0, .int 3000])), (x4, .inr (1, [.ref x20])), (x20, .inl (kA 4, 8, .inr (.inr (.inr (.inr (fun i => if i < 8 then some (x20 + 1 + i) else none)))))), ((x20 + 1 + 4), .inl (kA 0, 64, .inl (fun _ => 0))), ((x20 + 1 + 5), .inl (kA 0, 64, .inl (fun _ => 0))), ((x20 + 1 + 6), .inl (kA 0, 64, .inl (fun _ => 0))), ((x20 + 1 + 7), .inl (kA 0, 64, .inl (fun _ => 0)))]) hD hS hA [0, 1, 2, 3, 4, 5, 6] rfl
    refine va_calli (vx_runSW (As := [.ref h0, .int 1, .int (xs 2), .int (xs 3), .int (xs 4)]) (rest := []) ⟨hx, hb, hml, hown, hts⟩ (a159_L_force l hst D kA V H.size h0 1 (xs 2) (xs 3) (xs 4) x0 x1 x2 x3 x4 x5 x6 x7 x8 x20) (vx_cwSW 5 hts (gw_SW gw_1660 gw_1661 gw_0 gw_1662) rfl rfl rfl (by decide +kernel) ⟨(Nat.le_of_ble_eq_true rfl), (Nat.le_of_ble_eq_true rfl)⟩) ⟨aP.blind, aP.pre hE hS hPc hK hDc hFc⟩ rfl rfl hl.1 rfl (lv_room (Nat.le_of_ble_eq_true rfl)) dL_law_520 ⟨(Nat.le_of_ble_eq_true rfl), (Nat.le_of_ble_eq_true rfl)⟩) hS (fun q _ h => hFc q h) hFc (fun r_93 u t H1 locs ht hvm hw hB hz1 hk1 hS => ?_)
    obtain ⟨hP1, hD1⟩ := hB
    rw [ht] at hP1
    try dsimp only at hw hP1 hD1
    rcases hw with ⟨c_94, w_95⟩ | ⟨c_96, c_97, w_98⟩ | ⟨c_99, c_100, c_101, c_102, w_103⟩ | ⟨c_104, c_105, c_106, c_107, w_108⟩
    · skip
      subst w_95
      obtain ⟨hP, hD⟩ := va_join (wr := [(m0, .inr (11, y0)), (y18, .inl (kA 0, 128, .inl (fun _ => 0))), (y19, .inl (kA 0, 128, .inl (fun _ => 0)))]) (w1 := []) hP hD [0, 1, 2, 3, 4, 5, 6] [7, 8, 9] rfl rfl (by decide) (by decide) hk1 hFc hP1 hD1
      generalize H1 = H at hP hS ⊢
      have hP : va_P D vwCl [(m0, .inr (11, y0)), (y18, .inl (kA 0, 128, .inl (fun _ => 0))), (y19, .inl (kA 0, 128, .inl (fun _ => 0)))] H := hP
      have hD : va_D A [(m0, .inr (11, y0)), (y18, .inl (kA 0, 128, .inl (fun _ => 0))), (y19, .inl (kA 0, 128, .inl (fun _ => 0)))] := hD
      refine lv_istore (lv' := [(5, .int 1), (0, .ref b), (1, .ref h0), (2, .ref m0), (3, .ref o0), (4, .int 0)]) hx hb dL_law_523 hl (by decide) rfl (fun ls hl => ?_)
      refine lv_aload_n hx hb dL_law_525 rfl (lv_at hl 3 rfl) ?_
      refine lv_aload_n hx hb dL_law_526 rfl (lv_at hl 1 rfl) ?_
      refine lv_iload hx hb dL_law_527 (lv_at hl 5 rfl) ?_
      refine lv_iconst (v := 1) hx hb dL_law_529 (by decide) ?_
      refine lv_iadd hx hb dL_law_530 ?_
      refine W.eq (g2 := F0 m 531 ls [.int 1, .ref b, .ref m0]) rfl ?_
      refine va_sld hx hb hX hbl hbA hS (show vp_in 1 8 by unfold vp_in; decide) dL_law_531 ?_
      refine W.eq (g2 := F0 m 532 ls [.int (xs 1), .ref m0]) rfl ?_
      refine lv_if_eq (tgt := 539) hx hb dL_law_532 (by decide) (fun c_109 => ?_) (fun c_109 => ?_)
      · exact absurd c_109 c_1
      · skip
        refine lv_iconst (v := 1) hx hb dL_law_535 (by decide) ?_
        refine lv_goto (tgt := 540) hx hb dL_law_536 (by decide) ?_
        refine lv_aload_n hx hb dL_law_540 rfl (lv_at hl 1 rfl) ?_
        refine lv_iload hx hb dL_law_541 (lv_at hl 5 rfl) ?_
        refine lv_iconst (v := 2) hx hb dL_law_543 (by decide) ?_
        refine lv_iadd hx hb dL_law_544 ?_
        refine W.eq (g2 := F0 m 545 ls [.int 2, .ref b, .int 1, .ref m0]) rfl ?_
        refine va_sld hx hb hX hbl hbA hS (show vp_in 2 8 by unfold vp_in; decide) dL_law_545 ?_
        refine W.eq (g2 := F0 m 546 ls [.int (xs 2), .int 1, .ref m0]) rfl ?_
        refine lv_aload_n hx hb dL_law_546 rfl (lv_at hl 1 rfl) ?_
        refine lv_iload hx hb dL_law_547 (lv_at hl 5 rfl) ?_
        refine lv_iconst (v := 3) hx hb dL_law_549 (by decide) ?_
        refine lv_iadd hx hb dL_law_550 ?_
        refine W.eq (g2 := F0 m 551 ls [.int 3, .ref b, .int (xs 2), .int 1, .ref m0]) rfl ?_
        refine va_sld hx hb hX hbl hbA hS (show vp_in 3 8 by unfold vp_in; decide) dL_law_551 ?_
        refine W.eq (g2 := F0 m 552 ls [.int (xs 3), .int (xs 2), .int 1, .ref m0]) rfl ?_
        refine lv_aload_n hx hb dL_law_552 rfl (lv_at hl 1 rfl) ?_
        refine lv_iload hx hb dL_law_553 (lv_at hl 5 rfl) ?_
        refine lv_iconst (v := 4) hx hb dL_law_555 (by decide) ?_
        refine lv_iadd hx hb dL_law_556 ?_
        refine W.eq (g2 := F0 m 557 ls [.int 4, .ref b, .int (xs 3), .int (xs 2), .int 1, .ref m0]) rfl ?_
        refine va_sld hx hb hX hbl hbA hS (show vp_in 4 8 by unfold vp_in; decide) dL_law_557 ?_
        refine W.eq (g2 := F0 m 558 ls [.int (xs 4), .int (xs 3), .int (xs 2), .int 1, .ref m0]) rfl ?_
        have hPc := hP.sub (ws' := [(m0, .inr (11, y0)), (y18, .inl (kA 0, 128, .inl (fun _ => 0))), (y19, .inl (kA 0, 128, .inl (fun _ => 0)))]) [0, 1, 2] rfl
        have hDc := hD.sub (ws' := [(m0, .inr (11, y0)), (y18, .inl (kA 0, 128, .inl (fun _ => 0))), (y19, .inl (kA 0, 128, .inl (fun _ => 0)))]) [0, 1, 2] (by decide) rfl
        have hFc := va_free (wc := [(m0, .inr (11, y0)), (y18, .inl (kA 0, 128, .inl (fun _ => 0))), (y19, .inl (kA 0, 128, .inl (fun _ => 0)))]) hD hS hA [0, 1, 2] rfl
        refine va_callv (va_runV (As := [.int 1, .int (xs 2), .int (xs 3), .int (xs 4)]) (rest := []) ⟨hx, hb, hml, hown, hts⟩ (a129_X12_force l  D kA V H.size m0 1 (xs 2) (xs 3) (xs 4) y18 y19 y0 (fun k hk => (hq k hk)) hq9 hq86 hq87) (cwV 4 hts (gw_V gw_2684 gw_2685 gw_2686 gw_16 gw_2687) rfl rfl rfl (by decide +kernel) ⟨(Nat.le_of_ble_eq_true rfl), (Nat.le_of_ble_eq_true rfl)⟩) ⟨aP.blind, va_recv hK hP (ci := 11) (q0 := 0) rfl rfl, aP.pre hE hS hPc hK hDc hFc⟩ rfl rfl hl.1 rfl (lv_room (Nat.le_of_ble_eq_true rfl)) dL_law_558 ⟨(Nat.le_of_ble_eq_true rfl), (Nat.le_of_ble_eq_true rfl)⟩) hS (fun q _ h => hFc q h) hFc (fun u t H1 locs ht hvm hw hB hz1 hk1 hS => ?_)
        obtain ⟨u_111, u_112, u_113⟩ := u
        obtain ⟨hP1, hD1⟩ := hB
        rw [ht] at hP1
        try dsimp only at hw hP1 hD1
        rcases hw with ⟨c_114, w_115, w_116, w_117⟩ | ⟨c_118, c_119, w_120, w_121, w_122⟩ | ⟨c_123, c_124, c_125, w_126⟩ | ⟨c_127, c_128, c_129, w_130⟩
        · skip
          subst w_115
          subst w_116
          subst w_117
          obtain ⟨hP, hD⟩ := va_join (wr := []) (w1 := [(m0, .inr (11, y0.set 9 (.int 1))), (y18, .inl (kA 0, 128, .inl (fun _ => 0))), (y19, .inl (kA 0, 128, .inl (fun _ => 0)))]) hP hD [0, 1, 2] [] rfl rfl (by decide) (by decide) hk1 hFc hP1 hD1
          generalize H1 = H at hP hS ⊢
          have hP : va_P D vwCl [(m0, .inr (11, y0.set 9 (.int 1))), (y18, .inl (kA 0, 128, .inl (fun _ => 0))), (y19, .inl (kA 0, 128, .inl (fun _ => 0)))] H := hP
          have hD : va_D A [(m0, .inr (11, y0.set 9 (.int 1))), (y18, .inl (kA 0, 128, .inl (fun _ => 0))), (y19, .inl (kA 0, 128, .inl (fun _ => 0)))] := hD
          refine lv_aload_n hx hb dL_law_561 rfl (lv_at hl 3 rfl) ?_
          have hPc := hP.sub (ws' := [(m0, .inr (11, y0.set 9 (.int 1)))]) [0] rfl
          have hDc := hD.sub (ws' := [(m0, .inr (11, y0.set 9 (.int 1)))]) [0] (by decide) rfl
          have hFc := va_free (wc := [(m0, .inr (11, y0.set 9 (.int 1)))]) hD hS hA [0] rfl
          refine va_calli (va_runV (As := []) (rest := []) ⟨hx, hb, hml, hown, hts⟩ (a174_X12_thrown l  D kA V H.size m0 (y0.set 9 (.int 1)) (fun k hk => (by rw [List.length_set]; exact (hq k hk))) (List.getElem?_set_self (hq 9 (by decide)))) (cwV 0 hts (gw_V gw_1879 gw_1880 gw_1881 gw_16 gw_1882) rfl rfl rfl (by decide +kernel) ⟨(Nat.le_of_ble_eq_true rfl), (Nat.le_of_ble_eq_true rfl)⟩) ⟨aP.blind, va_recv hK hP (ci := 11) (q0 := 0) rfl rfl, aP.pre hE hS hPc hK hDc hFc⟩ rfl rfl hl.1 rfl (lv_room (Nat.le_of_ble_eq_true rfl)) dL_law_562 ⟨(Nat.le_of_ble_eq_true rfl), (Nat.le_of_ble_eq_true rfl)⟩) hS (fun q _ h => hFc q h) hFc (fun r_131 u t H1 locs ht hvm hw hB hz1 hk1 hS => ?_)
          obtain ⟨hP1, hD1⟩ := hB
          rw [ht] at hP1
          try dsimp only at hw hP1 hD1
          have w_132 := hw
          subst w_132
          obtain ⟨hP, hD⟩ := va_join (wr := [(y18, .inl (kA 0, 128, .inl (fun _ => 0))), (y19, .inl (kA 0, 128, .inl (fun _ => 0)))]) (w1 := [(m0, .inr (11, (y0.set 9 (.int 1))))]) hP hD [0] [1, 2] rfl rfl (by decide) (by decide) hk1 hFc hP1 hD1
          generalize H1 = H at hP hS ⊢
          have hP : va_P D vwCl [(y18, .inl (kA 0, 128, .inl (fun _ => 0))), (y19, .inl (kA 0, 128, .inl (fun _ => 0))), (m0, .inr (11, (y0.set 9 (.int 1))))] H := hP
          have hD : va_D A [(y18, .inl (kA 0, 128, .inl (fun _ => 0))), (y19, .inl (kA 0, 128, .inl (fun _ => 0))), (m0, .inr (11, (y0.set 9 (.int 1))))] := hD
          refine lv_iload hx hb dL_law_565 (lv_at hl 0 rfl) ?_
          refine lv_icmp_eq (tgt := 572) hx hb dL_law_567 (by decide) (fun c_133 => ?_) (fun c_133 => ?_)
          · skip
            refine lv_goto (tgt := 1804) hx hb dL_law_572 (by decide) ?_
            exact lk_tail hC hA2 (lv_sub hl [1, 5] rfl) hS (Nat.le_of_ble_eq_true rfl) (Nat.le_of_ble_eq_true rfl)
          · exact absurd (by decide) c_133
        · skip
          subst w_120
          subst w_121
          subst w_122
          exact absurd c_94 c_118
        · skip
          subst w_126
          exact absurd c_94 c_123
        · skip
          subst w_130
          exact absurd c_94 c_127
    · skip
      subst w_98
      obtain ⟨hP, hD⟩ := va_join (wr := [(m0, .inr (11, y0)), (y18, .inl (kA 0, 128, .inl (fun _ => 0))), (y19, .inl (kA 0, 128, .inl (fun _ => 0)))]) (w1 := []) hP hD [0, 1, 2, 3, 4, 5, 6] [7, 8, 9] rfl rfl (by decide) (by decide) hk1 hFc hP1 hD1
      generalize H1 = H at hP hS ⊢
      have hP : va_P D vwCl [(m0, .inr (11, y0)), (y18, .inl (kA 0, 128, .inl (fun _ => 0))), (y19, .inl (kA 0, 128, .inl (fun _ => 0)))] H := hP
      have hD : va_D A [(m0, .inr (11, y0)), (y18, .inl (kA 0, 128, .inl (fun _ => 0))), (y19, .inl (kA 0, 128, .inl (fun _ => 0)))] := hD
      refine lv_istore (lv' := [(5, .int 1), (0, .ref b), (1, .ref h0), (2, .ref m0), (3, .ref o0), (4, .int 0)]) hx hb dL_law_523 hl (by decide) rfl (fun ls hl => ?_)
      refine lv_aload_n hx hb dL_law_525 rfl (lv_at hl 3 rfl) ?_
      refine lv_aload_n hx hb dL_law_526 rfl (lv_at hl 1 rfl) ?_
      refine lv_iload hx hb dL_law_527 (lv_at hl 5 rfl) ?_
      refine lv_iconst (v := 1) hx hb dL_law_529 (by decide) ?_
      refine lv_iadd hx hb dL_law_530 ?_
      refine W.eq (g2 := F0 m 531 ls [.int 1, .ref b, .ref m0]) rfl ?_
      refine va_sld hx hb hX hbl hbA hS (show vp_in 1 8 by unfold vp_in; decide) dL_law_531 ?_
      refine W.eq (g2 := F0 m 532 ls [.int (xs 1), .ref m0]) rfl ?_
      refine lv_if_eq (tgt := 539) hx hb dL_law_532 (by decide) (fun c_134 => ?_) (fun c_134 => ?_)
      · exact absurd c_134 c_1
      · skip
        refine lv_iconst (v := 1) hx hb dL_law_535 (by decide) ?_
        refine lv_goto (tgt := 540) hx hb dL_law_536 (by decide) ?_
        refine lv_aload_n hx hb dL_law_540 rfl (lv_at hl 1 rfl) ?_
        refine lv_iload hx hb dL_law_541 (lv_at hl 5 rfl) ?_
        refine lv_iconst (v := 2) hx hb dL_law_543 (by decide) ?_
        refine lv_iadd hx hb dL_law_544 ?_
        refine W.eq (g2 := F0 m 545 ls [.int 2, .ref b, .int 1, .ref m0]) rfl ?_
        refine va_sld hx hb hX hbl hbA hS (show vp_in 2 8 by unfold vp_in; decide) dL_law_545 ?_
        refine W.eq (g2 := F0 m 546 ls [.int (xs 2), .int 1, .ref m0]) rfl ?_
        refine lv_aload_n hx hb dL_law_546 rfl (lv_at hl 1 rfl) ?_
        refine lv_iload hx hb dL_law_547 (lv_at hl 5 rfl) ?_
        refine lv_iconst (v := 3) hx hb dL_law_549 (by decide) ?_
        refine lv_iadd hx hb dL_law_550 ?_
        refine W.eq (g2 := F0 m 551 ls [.int 3, .ref b, .int (xs 2), .int 1, .ref m0]) rfl ?_
        refine va_sld hx hb hX hbl hbA hS (show vp_in 3 8 by unfold vp_in; decide) dL_law_551 ?_
        refine W.eq (g2 := F0 m 552 ls [.int (xs 3), .int (xs 2), .int 1, .ref m0]) rfl ?_
        refine lv_aload_n hx hb dL_law_552 rfl (lv_at hl 1 rfl) ?_
        refine lv_iload hx hb dL_law_553 (lv_at hl 5 rfl) ?_
        refine lv_iconst (v := 4) hx hb dL_law_555 (by decide) ?_
        refine lv_iadd hx hb dL_law_556 ?_
        refine W.eq (g2 := F0 m 557 ls [.int 4, .ref b, .int (xs 3), .int (xs 2), .int 1, .ref m0]) rfl ?_
        refine va_sld hx hb hX hbl hbA hS (show vp_in 4 8 by unfold vp_in; decide) dL_law_557 ?_
        refine W.eq (g2 := F0 m 558 ls [.int (xs 4), .int (xs 3), .int (xs 2), .int 1, .ref m0]) rfl ?_
        have hPc := hP.sub (ws' := [(m0, .inr (11, y0)), (y18, .inl (kA 0, 128, .inl (fun _ => 0))), (y19, .inl (kA 0, 128, .inl (fun _ => 0)))]) [0, 1, 2] rfl
        have hDc := hD.sub (ws' := [(m0, .inr (11, y0)), (y18, .inl (kA 0, 128, .inl (fun _ => 0))), (y19, .inl (kA 0, 128, .inl (fun _ => 0)))]) [0, 1, 2] (by decide) rfl
        have hFc := va_free (wc := [(m0, .inr (11, y0)), (y18, .inl (kA 0, 128, .inl (fun _ => 0))), (y19, .inl (kA 0, 128, .inl (fun _ => 0)))]) hD hS hA [0, 1, 2] rfl
        refine va_callv (va_runV (As := [.int 1, .int (xs 2), .int (xs 3), .int (xs 4)]) (rest := []) ⟨hx, hb, hml, hown, hts⟩ (a129_X12_force l  D kA V H.size m0 1 (xs 2) (xs 3) (xs 4) y18 y19 y0 (fun k hk => (hq k hk)) hq9 hq86 hq87) (cwV 4 hts (gw_V gw_2684 gw_2685 gw_2686 gw_16 gw_2687) rfl rfl rfl (by decide +kernel) ⟨(Nat.le_of_ble_eq_true rfl), (Nat.le_of_ble_eq_true rfl)⟩) ⟨aP.blind, va_recv hK hP (ci := 11) (q0 := 0) rfl rfl, aP.pre hE hS hPc hK hDc hFc⟩ rfl rfl hl.1 rfl (lv_room (Nat.le_of_ble_eq_true rfl)) dL_law_558 ⟨(Nat.le_of_ble_eq_true rfl), (Nat.le_of_ble_eq_true rfl)⟩) hS (fun q _ h => hFc q h) hFc (fun u t H1 locs ht hvm hw hB hz1 hk1 hS => ?_)
        obtain ⟨u_136, u_137, u_138⟩ := u
        obtain ⟨hP1, hD1⟩ := hB
        rw [ht] at hP1
        try dsimp only at hw hP1 hD1
        rcases hw with ⟨c_139, w_140, w_141, w_142⟩ | ⟨c_143, c_144, w_145, w_146, w_147⟩ | ⟨c_148, c_149, c_150, w_151⟩ | ⟨c_152, c_153, c_154, w_155⟩
        · skip
          subst w_140
          subst w_141
          subst w_142
          exact absurd c_139 c_96
        · skip
          subst w_145
          subst w_146
          subst w_147
          obtain ⟨hP, hD⟩ := va_join (wr := []) (w1 := [(m0, .inr (11, y0.set 9 (.int 1))), (y18, .inl (kA 0, 128, .inl (fun _ => 0))), (y19, .inl (kA 0, 128, .inl (fun _ => 0)))]) hP hD [0, 1, 2] [] rfl rfl (by decide) (by decide) hk1 hFc hP1 hD1
          generalize H1 = H at hP hS ⊢
          have hP : va_P D vwCl [(m0, .inr (11, y0.set 9 (.int 1))), (y18, .inl (kA 0, 128, .inl (fun _ => 0))), (y19, .inl (kA 0, 128, .inl (fun _ => 0)))] H := hP
          have hD : va_D A [(m0, .inr (11, y0.set 9 (.int 1))), (y18, .inl (kA 0, 128, .inl (fun _ => 0))), (y19, .inl (kA 0, 128, .inl (fun _ => 0)))] := hD
          refine lv_aload_n hx hb dL_law_561 rfl (lv_at hl 3 rfl) ?_
          have hPc := hP.sub (ws' := [(m0, .inr (11, y0.set 9 (.int 1)))]) [0] rfl
          have hDc := hD.sub (ws' := [(m0, .inr (11, y0.set 9 (.int 1)))]) [0] (by decide) rfl
          have hFc := va_free (wc := [(m0, .inr (11, y0.set 9 (.int 1)))]) hD hS hA [0] rfl
          refine va_calli (va_runV (As := []) (rest := []) ⟨hx, hb, hml, hown, hts⟩ (a174_X12_thrown l  D kA V H.size m0 (y0.set 9 (.int 1)) (fun k hk => (by rw [List.length_set]; exact (hq k hk))) (List.getElem?_set_self (hq 9 (by decide)))) (cwV 0 hts (gw_V gw_1879 gw_1880 gw_1881 gw_16 gw_1882) rfl rfl rfl (by decide +kernel) ⟨(Nat.le_of_ble_eq_true rfl), (Nat.le_of_ble_eq_true rfl)⟩) ⟨aP.blind, va_recv hK hP (ci := 11) (q0 := 0) rfl rfl, aP.pre hE hS hPc hK hDc hFc⟩ rfl rfl hl.1 rfl (lv_room (Nat.le_of_ble_eq_true rfl)) dL_law_562 ⟨(Nat.le_of_ble_eq_true rfl), (Nat.le_of_ble_eq_true rfl)⟩) hS (fun q _ h => hFc q h) hFc (fun r_156 u t H1 locs ht hvm hw hB hz1 hk1 hS => ?_)
          obtain ⟨hP1, hD1⟩ := hB
          rw [ht] at hP1
          try dsimp only at hw hP1 hD1
          have w_157 := hw
          subst w_157
          obtain ⟨hP, hD⟩ := va_join (wr := [(y18, .inl (kA 0, 128, .inl (fun _ => 0))), (y19, .inl (kA 0, 128, .inl (fun _ => 0)))]) (w1 := [(m0, .inr (11, (y0.set 9 (.int 1))))]) hP hD [0] [1, 2] rfl rfl (by decide) (by decide) hk1 hFc hP1 hD1
          generalize H1 = H at hP hS ⊢
          have hP : va_P D vwCl [(y18, .inl (kA 0, 128, .inl (fun _ => 0))), (y19, .inl (kA 0, 128, .inl (fun _ => 0))), (m0, .inr (11, (y0.set 9 (.int 1))))] H := hP
          have hD : va_D A [(y18, .inl (kA 0, 128, .inl (fun _ => 0))), (y19, .inl (kA 0, 128, .inl (fun _ => 0))), (m0, .inr (11, (y0.set 9 (.int 1))))] := hD
          refine lv_iload hx hb dL_law_565 (lv_at hl 0 rfl) ?_
          refine lv_icmp_eq (tgt := 572) hx hb dL_law_567 (by decide) (fun c_158 => ?_) (fun c_158 => ?_)
          · skip
            refine lv_goto (tgt := 1804) hx hb dL_law_572 (by decide) ?_
            exact lk_tail hC hA2 (lv_sub hl [1, 5] rfl) hS (Nat.le_of_ble_eq_true rfl) (Nat.le_of_ble_eq_true rfl)
          · exact absurd (by decide) c_158
        · skip
          subst w_151
          exact False.elim (by have a1 := (ixL (n := 63) (Int32.not_lt.mp c_149) (by decide)); have a2 := (iyB (n := 64) (Int32.not_lt.mp c_97) (by decide)); omega)
        · skip
          subst w_155
          exact False.elim (by have a1 := (ixL (n := 63) (Int32.not_lt.mp c_153) (by decide)); have a2 := (iyB (n := 64) (Int32.not_lt.mp c_97) (by decide)); omega)
    · skip
      subst w_103
      exact absurd c_101 (by decide)
    · skip
      subst w_108
      obtain ⟨hP, hD⟩ := va_join (wr := [(m0, .inr (11, y0)), (y18, .inl (kA 0, 128, .inl (fun _ => 0))), (y19, .inl (kA 0, 128, .inl (fun _ => 0)))]) (w1 := []) hP hD [0, 1, 2, 3, 4, 5, 6] [7, 8, 9] rfl rfl (by decide) (by decide) hk1 hFc hP1 hD1
      generalize H1 = H at hP hS ⊢
      have hP : va_P D vwCl [(m0, .inr (11, y0)), (y18, .inl (kA 0, 128, .inl (fun _ => 0))), (y19, .inl (kA 0, 128, .inl (fun _ => 0)))] H := hP
      have hD : va_D A [(m0, .inr (11, y0)), (y18, .inl (kA 0, 128, .inl (fun _ => 0))), (y19, .inl (kA 0, 128, .inl (fun _ => 0)))] := hD
      refine lv_istore (lv' := [(5, .int 0), (0, .ref b), (1, .ref h0), (2, .ref m0), (3, .ref o0), (4, .int 0)]) hx hb dL_law_523 hl (by decide) rfl (fun ls hl => ?_)
      refine lv_aload_n hx hb dL_law_525 rfl (lv_at hl 3 rfl) ?_
      refine lv_aload_n hx hb dL_law_526 rfl (lv_at hl 1 rfl) ?_
      refine lv_iload hx hb dL_law_527 (lv_at hl 5 rfl) ?_
      refine lv_iconst (v := 1) hx hb dL_law_529 (by decide) ?_
      refine lv_iadd hx hb dL_law_530 ?_
      refine W.eq (g2 := F0 m 531 ls [.int 1, .ref b, .ref m0]) rfl ?_
      refine va_sld hx hb hX hbl hbA hS (show vp_in 1 8 by unfold vp_in; decide) dL_law_531 ?_
      refine W.eq (g2 := F0 m 532 ls [.int (xs 1), .ref m0]) rfl ?_
      refine lv_if_eq (tgt := 539) hx hb dL_law_532 (by decide) (fun c_159 => ?_) (fun c_159 => ?_)
      · exact absurd c_159 c_1
      · skip
        refine lv_iconst (v := 1) hx hb dL_law_535 (by decide) ?_
        refine lv_goto (tgt := 540) hx hb dL_law_536 (by decide) ?_
        refine lv_aload_n hx hb dL_law_540 rfl (lv_at hl 1 rfl) ?_
        refine lv_iload hx hb dL_law_541 (lv_at hl 5 rfl) ?_
        refine lv_iconst (v := 2) hx hb dL_law_543 (by decide) ?_
        refine lv_iadd hx hb dL_law_544 ?_
        refine W.eq (g2 := F0 m 545 ls [.int 2, .ref b, .int 1, .ref m0]) rfl ?_
        refine va_sld hx hb hX hbl hbA hS (show vp_in 2 8 by unfold vp_in; decide) dL_law_545 ?_
        refine W.eq (g2 := F0 m 546 ls [.int (xs 2), .int 1, .ref m0]) rfl ?_
        refine lv_aload_n hx hb dL_law_546 rfl (lv_at hl 1 rfl) ?_
        refine lv_iload hx hb dL_law_547 (lv_at hl 5 rfl) ?_
        refine lv_iconst (v := 3) hx hb dL_law_549 (by decide) ?_
        refine lv_iadd hx hb dL_law_550 ?_
        refine W.eq (g2 := F0 m 551 ls [.int 3, .ref b, .int (xs 2), .int 1, .ref m0]) rfl ?_
        refine va_sld hx hb hX hbl hbA hS (show vp_in 3 8 by unfold vp_in; decide) dL_law_551 ?_
        refine W.eq (g2 := F0 m 552 ls [.int (xs 3), .int (xs 2), .int 1, .ref m0]) rfl ?_
        refine lv_aload_n hx hb dL_law_552 rfl (lv_at hl 1 rfl) ?_
        refine lv_iload hx hb dL_law_553 (lv_at hl 5 rfl) ?_
        refine lv_iconst (v := 4) hx hb dL_law_555 (by decide) ?_
        refine lv_iadd hx hb dL_law_556 ?_
        refine W.eq (g2 := F0 m 557 ls [.int 4, .ref b, .int (xs 3), .int (xs 2), .int 1, .ref m0]) rfl ?_
        refine va_sld hx hb hX hbl hbA hS (show vp_in 4 8 by unfold vp_in; decide) dL_law_557 ?_
        refine W.eq (g2 := F0 m 558 ls [.int (xs 4), .int (xs 3), .int (xs 2), .int 1, .ref m0]) rfl ?_
        have hPc := hP.sub (ws' := [(m0, .inr (11, y0)), (y18, .inl (kA 0, 128, .inl (fun _ => 0))), (y19, .inl (kA 0, 128, .inl (fun _ => 0)))]) [0, 1, 2] rfl
        have hDc := hD.sub (ws' := [(m0, .inr (11, y0)), (y18, .inl (kA 0, 128, .inl (fun _ => 0))), (y19, .inl (kA 0, 128, .inl (fun _ => 0)))]) [0, 1, 2] (by decide) rfl
        have hFc := va_free (wc := [(m0, .inr (11, y0)), (y18, .inl (kA 0, 128, .inl (fun _ => 0))), (y19, .inl (kA 0, 128, .inl (fun _ => 0)))]) hD hS hA [0, 1, 2] rfl
        refine va_callv (va_runV (As := [.int 1, .int (xs 2), .int (xs 3), .int (xs 4)]) (rest := []) ⟨hx, hb, hml, hown, hts⟩ (a129_X12_force l  D kA V H.size m0 1 (xs 2) (xs 3) (xs 4) y18 y19 y0 (fun k hk => (hq k hk)) hq9 hq86 hq87) (cwV 4 hts (gw_V gw_2684 gw_2685 gw_2686 gw_16 gw_2687) rfl rfl rfl (by decide +kernel) ⟨(Nat.le_of_ble_eq_true rfl), (Nat.le_of_ble_eq_true rfl)⟩) ⟨aP.blind, va_recv hK hP (ci := 11) (q0 := 0) rfl rfl, aP.pre hE hS hPc hK hDc hFc⟩ rfl rfl hl.1 rfl (lv_room (Nat.le_of_ble_eq_true rfl)) dL_law_558 ⟨(Nat.le_of_ble_eq_true rfl), (Nat.le_of_ble_eq_true rfl)⟩) hS (fun q _ h => hFc q h) hFc (fun u t H1 locs ht hvm hw hB hz1 hk1 hS => ?_)
        obtain ⟨u_161, u_162, u_163⟩ := u
        obtain ⟨hP1, hD1⟩ := hB
        rw [ht] at hP1
        try dsimp only at hw hP1 hD1
        rcases hw with ⟨c_164, w_165, w_166, w_167⟩ | ⟨c_168, c_169, w_170, w_171, w_172⟩ | ⟨c_173, c_174, c_175, w_176⟩ | ⟨c_177, c_178, c_179, w_180⟩
        · skip
          subst w_165
          subst w_166
          subst w_167
          exact absurd c_164 c_104
        · skip
          subst w_170
          subst w_171
          subst w_172
          exact False.elim (by have a1 := (iyS (n := 63) c_169 (by decide)); have a2 := (ixA (n := 64) c_105 (by decide)); omega)
        · skip
          subst w_176
          exact absurd c_175 c_106
        · skip
          subst w_180
          obtain ⟨hP, hD⟩ := va_join (wr := []) (w1 := [(m0, .inr (11, y0.set 9 (.int 0))), (y18, .inl (kA 0, 128, .inl u_162)), (y19, .inl (kA 0, 128, .inl u_163))]) hP hD [0, 1, 2] [] rfl rfl (by decide) (by decide) hk1 hFc hP1 hD1
          generalize H1 = H at hP hS ⊢
          have hP : va_P D vwCl [(m0, .inr (11, y0.set 9 (.int 0))), (y18, .inl (kA 0, 128, .inl u_162)), (y19, .inl (kA 0, 128, .inl u_163))] H := hP
          have hD : va_D A [(m0, .inr (11, y0.set 9 (.int 0))), (y18, .inl (kA 0, 128, .inl u_162)), (y19, .inl (kA 0, 128, .inl u_163))] := hD
          refine lv_aload_n hx hb dL_law_561 rfl (lv_at hl 3 rfl) ?_
          have hPc := hP.sub (ws' := [(m0, .inr (11, y0.set 9 (.int 0)))]) [0] rfl
          have hDc := hD.sub (ws' := [(m0, .inr (11, y0.set 9 (.int 0)))]) [0] (by decide) rfl
          have hFc := va_free (wc := [(m0, .inr (11, y0.set 9 (.int 0)))]) hD hS hA [0] rfl
          refine va_calli (va_runV (As := []) (rest := []) ⟨hx, hb, hml, hown, hts⟩ (a94_X12_thrown l  D kA V H.size m0 (y0.set 9 (.int 0)) (fun k hk => (by rw [List.length_set]; exact (hq k hk))) (List.getElem?_set_self (hq 9 (by decide)))) (cwV 0 hts (gw_V gw_1879 gw_1880 gw_1881 gw_16 gw_1882) rfl rfl rfl (by decide +kernel) ⟨(Nat.le_of_ble_eq_true rfl), (Nat.le_of_ble_eq_true rfl)⟩) ⟨aP.blind, va_recv hK hP (ci := 11) (q0 := 0) rfl rfl, aP.pre hE hS hPc hK hDc hFc⟩ rfl rfl hl.1 rfl (lv_room (Nat.le_of_ble_eq_true rfl)) dL_law_562 ⟨(Nat.le_of_ble_eq_true rfl), (Nat.le_of_ble_eq_true rfl)⟩) hS (fun q _ h => hFc q h) hFc (fun r_181 u t H1 locs ht hvm hw hB hz1 hk1 hS => ?_)
          obtain ⟨hP1, hD1⟩ := hB
          rw [ht] at hP1
          try dsimp only at hw hP1 hD1
          have w_182 := hw
          subst w_182
          obtain ⟨hP, hD⟩ := va_join (wr := [(y18, .inl (kA 0, 128, .inl u_162)), (y19, .inl (kA 0, 128, .inl u_163))]) (w1 := [(m0, .inr (11, (y0.set 9 (.int 0))))]) hP hD [0] [1, 2] rfl rfl (by decide) (by decide) hk1 hFc hP1 hD1
          generalize H1 = H at hP hS ⊢
          have hP : va_P D vwCl [(y18, .inl (kA 0, 128, .inl u_162)), (y19, .inl (kA 0, 128, .inl u_163)), (m0, .inr (11, (y0.set 9 (.int 0))))] H := hP
          have hD : va_D A [(y18, .inl (kA 0, 128, .inl u_162)), (y19, .inl (kA 0, 128, .inl u_163)), (m0, .inr (11, (y0.set 9 (.int 0))))] := hD
          refine lv_iload hx hb dL_law_565 (lv_at hl 0 rfl) ?_
          refine lv_icmp_eq (tgt := 572) hx hb dL_law_567 (by decide) (fun c_183 => ?_) (fun c_183 => ?_)
          · skip
            refine lv_goto (tgt := 1804) hx hb dL_law_572 (by decide) ?_
            exact lk_tail hC hA2 (lv_sub hl [1, 5] rfl) hS (Nat.le_of_ble_eq_true rfl) (Nat.le_of_ble_eq_true rfl)
          · exact absurd (by decide) c_183
