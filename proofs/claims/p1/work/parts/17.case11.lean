theorem dL_law_674 : decode cL_law 674 = .ok (.aload_n 1, 1) := by decide +kernel
theorem dL_law_675 : decode cL_law 675 = .ok (.aload_n 0, 1) := by decide +kernel
theorem dL_law_676 : decode cL_law 676 = .ok (.iload 4, 2) := by decide +kernel
theorem dL_law_678 : decode cL_law 678 = .ok (.iconst 1, 1) := by decide +kernel
theorem dL_law_679 : decode cL_law 679 = .ok (.iadd, 1) := by decide +kernel
theorem dL_law_680 : decode cL_law 680 = .ok (.iaload, 1) := by decide +kernel
theorem dL_law_681 : decode cL_law 681 = .ok (.aload_n 0, 1) := by decide +kernel
theorem dL_law_682 : decode cL_law 682 = .ok (.iload 4, 2) := by decide +kernel
theorem dL_law_684 : decode cL_law 684 = .ok (.iconst 2, 1) := by decide +kernel
theorem dL_law_685 : decode cL_law 685 = .ok (.iadd, 1) := by decide +kernel
theorem dL_law_686 : decode cL_law 686 = .ok (.iaload, 1) := by decide +kernel
theorem dL_law_687 : decode cL_law 687 = .ok (.aload_n 3, 1) := by decide +kernel
theorem dL_law_688 : decode cL_law 688 = .ok (.invokestatic 142, 3) := by decide +kernel
theorem dL_law_691 : decode cL_law 691 = .ok (.istore 5, 2) := by decide +kernel
theorem dL_law_693 : decode cL_law 693 = .ok (.aload_n 2, 1) := by decide +kernel
theorem dL_law_694 : decode cL_law 694 = .ok (.aload_n 0, 1) := by decide +kernel
theorem dL_law_695 : decode cL_law 695 = .ok (.iload 4, 2) := by decide +kernel
theorem dL_law_697 : decode cL_law 697 = .ok (.iconst 1, 1) := by decide +kernel
theorem dL_law_698 : decode cL_law 698 = .ok (.iadd, 1) := by decide +kernel
theorem dL_law_699 : decode cL_law 699 = .ok (.iaload, 1) := by decide +kernel
theorem dL_law_700 : decode cL_law 700 = .ok (.aload_n 0, 1) := by decide +kernel
theorem dL_law_701 : decode cL_law 701 = .ok (.iload 4, 2) := by decide +kernel
theorem dL_law_703 : decode cL_law 703 = .ok (.iconst 2, 1) := by decide +kernel
theorem dL_law_704 : decode cL_law 704 = .ok (.iadd, 1) := by decide +kernel
theorem dL_law_705 : decode cL_law 705 = .ok (.iaload, 1) := by decide +kernel
theorem dL_law_706 : decode cL_law 706 = .ok (.invokevirtual 144, 3) := by decide +kernel
theorem dL_law_709 : decode cL_law 709 = .ok (.istore 6, 2) := by decide +kernel
theorem dL_law_711 : decode cL_law 711 = .ok (.aload_n 2, 1) := by decide +kernel
theorem dL_law_712 : decode cL_law 712 = .ok (.invokevirtual 116, 3) := by decide +kernel
theorem dL_law_715 : decode cL_law 715 = .ok (.iload 5, 2) := by decide +kernel
theorem dL_law_717 : decode cL_law 717 = .ok (.if_icmp .eq 5, 3) := by decide +kernel
theorem dL_law_722 : decode cL_law 722 = .ok (.iload 5, 2) := by decide +kernel
theorem dL_law_724 : decode cL_law 724 = .ok (.ifCond .ne 15, 3) := by decide +kernel
theorem dL_law_739 : decode cL_law 739 = .ok (.goto 1065, 3) := by decide +kernel
set_option maxHeartbeats 4000000 in
set_option maxRecDepth 100000 in
theorem lk_11 {p : Program} {l : Launch} {e : Env} {s : State} {m : MethodId} {below : List Frame} {meth : Method} {c : Code} {D : va_G} {kA : Nat → ClassId} {V : Nat → Nat} {b : Nat} {xs : Nat → Int32} {A : Nat → Prop} (hC : lw_C p l s m meth c b 8 xs D kA V A) (hA2 : ∀ q, A q → s.heap.size ≤ q) (h0 : Nat) (m0 : Nat) (o0 : Nat) (x0 : Nat) (x1 : Nat) (x2 : Nat) (x3 : Nat) (x4 : Nat) (x5 : Nat) (x6 : Nat) (x7 : Nat) (x8 : Nat) (x33 : Nat) (x34 : Nat) (x35 : Nat) (x36 : Nat) (x37 : Nat) (x38 : Nat) (x39 : Nat) (x40 : Nat) (x41 : Nat) (x42 : Nat) (x43 : Nat) (x44 : Nat) (y0 : List Value) (y9 : Nat) (hq : ∀ k, k < 121 → k < y0.length) (hq9 : y0[9]? = some (.int 0)) (hq48 : y0[48]? = some (.ref y9)) (hq55 : y0[55]? = some (.int 0))  {H : Heap} {locs : List Loc} {ls : Array Slot} (hl : lv_has ls 8 [(0, .ref b), (1, .ref h0), (2, .ref m0), (3, .ref o0), (4, .int 0)]) (hS : va_S A s.heap H locs) (hP : va_P D vwCl [(h0, .inr (10, [.ref x0, .int 0, .ref x1, .ref x2, .ref x3, .ref x4, .ref x5, .ref x6, .ref x7, .ref x8, .int 0, .int 3000])), (x7, .inr (5, [.ref x33, .ref x34, .ref x35, .ref x36, .ref x37, .ref x38, .ref x39, .ref x40, .ref x41, .ref x42, .ref x43, .ref x44, .int 0, .int 0, .int 0, .int (-1)])), (x37, .inl (kA 0, 5, .inl (fun _ => 0))), (m0, .inr (11, y0)), (y9, .inl (kA 0, 2, .inl (fun _ => 0)))] H) (hD : va_D A [(h0, .inr (10, [.ref x0, .int 0, .ref x1, .ref x2, .ref x3, .ref x4, .ref x5, .ref x6, .ref x7, .ref x8, .int 0, .int 3000])), (x7, .inr (5, [.ref x33, .ref x34, .ref x35, .ref x36, .ref x37, .ref x38, .ref x39, .ref x40, .ref x41, .ref x42, .ref x43, .ref x44, .int 0, .int 0, .int 0, .int (-1)])), (x37, .inl (kA 0, 5, .inl (fun _ => 0))), (m0, .inr (11, y0)), (y9, .inl (kA 0, 2, .inl (fun _ => 0)))]) : W p l e room_1 s m #[Value.ref b] below meth c H locs 514 172793 (lw_Z below #[Value.ref b] s) (F0 m 674 ls []) := by
  have ⟨hst, hx, hb, hr, hml, hown, hts, hG, hX, hbl, hbA, hlocks, hE, hK, hA⟩ := hC
  refine lv_aload_n hx hb dL_law_674 rfl (lv_at hl 1 rfl) ?_
  refine lv_aload_n hx hb dL_law_675 rfl (lv_at hl 0 rfl) ?_
  refine lv_iload hx hb dL_law_676 (lv_at hl 4 rfl) ?_
  refine lv_iconst (v := 1) hx hb dL_law_678 (by decide) ?_
  refine lv_iadd hx hb dL_law_679 ?_
  refine W.eq (g2 := F0 m 680 ls [.int 1, .ref b, .ref h0]) rfl ?_
  refine va_sld hx hb hX hbl hbA hS (show vp_in 1 8 by unfold vp_in; decide) dL_law_680 ?_
  refine W.eq (g2 := F0 m 681 ls [.int (xs 1), .ref h0]) rfl ?_
  refine lv_aload_n hx hb dL_law_681 rfl (lv_at hl 0 rfl) ?_
  refine lv_iload hx hb dL_law_682 (lv_at hl 4 rfl) ?_
  refine lv_iconst (v := 2) hx hb dL_law_684 (by decide) ?_
  refine lv_iadd hx hb dL_law_685 ?_
  refine W.eq (g2 := F0 m 686 ls [.int 2, .ref b, .int (xs 1), .ref h0]) rfl ?_
  refine va_sld hx hb hX hbl hbA hS (show vp_in 2 8 by unfold vp_in; decide) dL_law_686 ?_
  refine W.eq (g2 := F0 m 687 ls [.int (xs 2), .int (xs 1), .ref h0]) rfl ?_
  refine lv_aload_n hx hb dL_law_687 rfl (lv_at hl 3 rfl) ?_
  have hPc := hP.sub (ws' := [(h0, .inr (10, [.ref x0, .int 0, .ref x1, .ref x2, .ref x3, .ref x4, .ref x5, .ref x6, .ref x7, .ref x8, .int 0, .int 3000])), (x7, .inr (5, [.ref x33, .ref x34, .ref x35, .ref x36, .ref x37, .ref x38, .ref x39, .ref x40, .ref x41, .ref x42, .ref x43, .ref x44, .int 0, .int 0, .int 0, .int (-1)])), (x37, .inl (kA 0, 5, .inl (fun _ => 0)))]) [0, 1, 2] rfl
  have hDc := hD.sub (ws' := [(h0, .inr (10, [.ref x0, .int 0, .ref x1, .ref x2, .ref x3, .ref x4, .ref x5, .ref x6, .ref x7, .ref x8, .int 0, .int 3000])), (x7, .inr (5, [.ref x33, .ref x34, .ref x35, .ref x36, .ref x37, .ref x38, .ref x39, .ref x40, .ref x41, .ref x42, .ref x43, .ref x44, .int 0, .int 0, .int 0, .int (-1)])), (x37, .inl (kA 0, 5, .inl (fun _ => 0)))]) [0, 1, 2] (by decide) rfl
  have hFc := va_free (wc := [(h0, .inr (10, [.ref x0, .int 0, .ref x1, .ref x2, .ref x3, .ref x4, .ref x5, .ref x6, .ref x7, .ref x8, .int 0, .int 3000])), (x7, .inr (5, [.ref x33, .ref x34, .ref x35, .ref x36, .ref x37, .ref x38, .ref x39, .ref x40, .ref x41, .ref x42, .ref x43, .ref x44, .int 0, .int 0, .int 0, .int (-1)])), (x37, .inl (kA 0, 5, .inl (fun _ => 0)))]) hD hS hA [0, 1, 2] rfl
  refine va_calli (vx_runSW (As := [.ref h0, .int (xs 1), .int (xs 2), .ref o0]) (rest := []) ⟨hx, hb, hml, hown, hts⟩ (a162_L_task l hst D kA V H.size h0 (xs 1) (xs 2) o0 x0 x1 x2 x3 x4 x5 x6 x7 x8 x33 x34 x35 x36 x37 x38 x39 x40 x41 x42 x43 x44) (vx_cwSW 4 hts (gw_SW gw_1700 gw_1701 gw_0 gw_1702) rfl rfl rfl (by decide +kernel) ⟨(Nat.le_of_ble_eq_true rfl), (Nat.le_of_ble_eq_true rfl)⟩) ⟨aP.blind, aP.pre hE hS hPc hK hDc hFc⟩ rfl rfl hl.1 rfl (lv_room (Nat.le_of_ble_eq_true rfl)) dL_law_688 ⟨(Nat.le_of_ble_eq_true rfl), (Nat.le_of_ble_eq_true rfl)⟩) hS (fun q _ h => hFc q h) hFc (fun r_1 u t H1 locs ht hvm hw hB hz1 hk1 hS => ?_)
  obtain ⟨hP1, hD1⟩ := hB
  rw [ht] at hP1
  try dsimp only at hw hP1 hD1
  rcases hw with ⟨c_2, w_3⟩ | ⟨c_4, c_5, w_6⟩
  · skip
    subst w_3
    obtain ⟨hP, hD⟩ := va_join (wr := [(m0, .inr (11, y0)), (y9, .inl (kA 0, 2, .inl (fun _ => 0)))]) (w1 := []) hP hD [0, 1, 2] [3, 4] rfl rfl (by decide) (by decide) hk1 hFc hP1 hD1
    generalize H1 = H at hP hS ⊢
    have hP : va_P D vwCl [(m0, .inr (11, y0)), (y9, .inl (kA 0, 2, .inl (fun _ => 0)))] H := hP
    have hD : va_D A [(m0, .inr (11, y0)), (y9, .inl (kA 0, 2, .inl (fun _ => 0)))] := hD
    refine lv_istore (lv' := [(5, .int 1), (0, .ref b), (1, .ref h0), (2, .ref m0), (3, .ref o0), (4, .int 0)]) hx hb dL_law_691 hl (by decide) rfl (fun ls hl => ?_)
    refine lv_aload_n hx hb dL_law_693 rfl (lv_at hl 3 rfl) ?_
    refine lv_aload_n hx hb dL_law_694 rfl (lv_at hl 1 rfl) ?_
    refine lv_iload hx hb dL_law_695 (lv_at hl 5 rfl) ?_
    refine lv_iconst (v := 1) hx hb dL_law_697 (by decide) ?_
    refine lv_iadd hx hb dL_law_698 ?_
    refine W.eq (g2 := F0 m 699 ls [.int 1, .ref b, .ref m0]) rfl ?_
    refine va_sld hx hb hX hbl hbA hS (show vp_in 1 8 by unfold vp_in; decide) dL_law_699 ?_
    refine W.eq (g2 := F0 m 700 ls [.int (xs 1), .ref m0]) rfl ?_
    refine lv_aload_n hx hb dL_law_700 rfl (lv_at hl 1 rfl) ?_
    refine lv_iload hx hb dL_law_701 (lv_at hl 5 rfl) ?_
    refine lv_iconst (v := 2) hx hb dL_law_703 (by decide) ?_
    refine lv_iadd hx hb dL_law_704 ?_
    refine W.eq (g2 := F0 m 705 ls [.int 2, .ref b, .int (xs 1), .ref m0]) rfl ?_
    refine va_sld hx hb hX hbl hbA hS (show vp_in 2 8 by unfold vp_in; decide) dL_law_705 ?_
    refine W.eq (g2 := F0 m 706 ls [.int (xs 2), .int (xs 1), .ref m0]) rfl ?_
    have hPc := hP.sub (ws' := [(m0, .inr (11, y0)), (y9, .inl (kA 0, 2, .inl (fun _ => 0)))]) [0, 1] rfl
    have hDc := hD.sub (ws' := [(m0, .inr (11, y0)), (y9, .inl (kA 0, 2, .inl (fun _ => 0)))]) [0, 1] (by decide) rfl
    have hFc := va_free (wc := [(m0, .inr (11, y0)), (y9, .inl (kA 0, 2, .inl (fun _ => 0)))]) hD hS hA [0, 1] rfl
    refine va_calli (va_runV (As := [.int (xs 1), .int (xs 2)]) (rest := []) ⟨hx, hb, hml, hown, hts⟩ (a135_X12_task l  D kA V H.size m0 (xs 1) (xs 2) y9 y0 (fun k hk => (hq k hk)) hq9 hq48 hq55) (cwV 2 hts (gw_V gw_2700 gw_2701 gw_2702 gw_16 gw_2703) rfl rfl rfl (by decide +kernel) ⟨(Nat.le_of_ble_eq_true rfl), (Nat.le_of_ble_eq_true rfl)⟩) ⟨aP.blind, va_recv hK hP (ci := 11) (q0 := 0) rfl rfl, aP.pre hE hS hPc hK hDc hFc⟩ rfl rfl hl.1 rfl (lv_room (Nat.le_of_ble_eq_true rfl)) dL_law_706 ⟨(Nat.le_of_ble_eq_true rfl), (Nat.le_of_ble_eq_true rfl)⟩) hS (fun q _ h => hFc q h) hFc (fun r_7 u t H1 locs ht hvm hw hB hz1 hk1 hS => ?_)
    obtain ⟨u_8, rfl⟩ : ∃ z, z = u := ⟨u, rfl⟩
    obtain ⟨hP1, hD1⟩ := hB
    rw [ht] at hP1
    try dsimp only at hw hP1 hD1
    rcases hw with ⟨c_9, w_10, w_11⟩ | ⟨c_12, c_13, w_14, w_15⟩
    · skip
      subst w_10
      subst w_11
      obtain ⟨hP, hD⟩ := va_join (wr := []) (w1 := [(m0, .inr (11, y0.set 9 (.int 1))), (y9, .inl (kA 0, 2, .inl (fun _ => 0)))]) hP hD [0, 1] [] rfl rfl (by decide) (by decide) hk1 hFc hP1 hD1
      generalize H1 = H at hP hS ⊢
      have hP : va_P D vwCl [(m0, .inr (11, y0.set 9 (.int 1))), (y9, .inl (kA 0, 2, .inl (fun _ => 0)))] H := hP
      have hD : va_D A [(m0, .inr (11, y0.set 9 (.int 1))), (y9, .inl (kA 0, 2, .inl (fun _ => 0)))] := hD
      refine lv_istore (lv' := [(6, .int 0), (5, .int 1), (0, .ref b), (1, .ref h0), (2, .ref m0), (3, .ref o0), (4, .int 0)]) hx hb dL_law_709 hl (by decide) rfl (fun ls hl => ?_)
      refine lv_aload_n hx hb dL_law_711 rfl (lv_at hl 4 rfl) ?_
      have hPc := hP.sub (ws' := [(m0, .inr (11, y0.set 9 (.int 1)))]) [0] rfl
      have hDc := hD.sub (ws' := [(m0, .inr (11, y0.set 9 (.int 1)))]) [0] (by decide) rfl
      have hFc := va_free (wc := [(m0, .inr (11, y0.set 9 (.int 1)))]) hD hS hA [0] rfl
      refine va_calli (va_runV (As := []) (rest := []) ⟨hx, hb, hml, hown, hts⟩ (a174_X12_thrown l  D kA V H.size m0 (y0.set 9 (.int 1)) (fun k hk => (by rw [List.length_set]; exact (hq k hk))) (List.getElem?_set_self (hq 9 (by decide)))) (cwV 0 hts (gw_V gw_1879 gw_1880 gw_1881 gw_16 gw_1882) rfl rfl rfl (by decide +kernel) ⟨(Nat.le_of_ble_eq_true rfl), (Nat.le_of_ble_eq_true rfl)⟩) ⟨aP.blind, va_recv hK hP (ci := 11) (q0 := 0) rfl rfl, aP.pre hE hS hPc hK hDc hFc⟩ rfl rfl hl.1 rfl (lv_room (Nat.le_of_ble_eq_true rfl)) dL_law_712 ⟨(Nat.le_of_ble_eq_true rfl), (Nat.le_of_ble_eq_true rfl)⟩) hS (fun q _ h => hFc q h) hFc (fun r_16 u t H1 locs ht hvm hw hB hz1 hk1 hS => ?_)
      obtain ⟨hP1, hD1⟩ := hB
      rw [ht] at hP1
      try dsimp only at hw hP1 hD1
      have w_17 := hw
      subst w_17
      obtain ⟨hP, hD⟩ := va_join (wr := [(y9, .inl (kA 0, 2, .inl (fun _ => 0)))]) (w1 := [(m0, .inr (11, (y0.set 9 (.int 1))))]) hP hD [0] [1] rfl rfl (by decide) (by decide) hk1 hFc hP1 hD1
      generalize H1 = H at hP hS ⊢
      have hP : va_P D vwCl [(y9, .inl (kA 0, 2, .inl (fun _ => 0))), (m0, .inr (11, (y0.set 9 (.int 1))))] H := hP
      have hD : va_D A [(y9, .inl (kA 0, 2, .inl (fun _ => 0))), (m0, .inr (11, (y0.set 9 (.int 1))))] := hD
      refine lv_iload hx hb dL_law_715 (lv_at hl 1 rfl) ?_
      refine lv_icmp_eq (tgt := 722) hx hb dL_law_717 (by decide) (fun c_18 => ?_) (fun c_18 => ?_)
      · skip
        refine lv_iload hx hb dL_law_722 (lv_at hl 1 rfl) ?_
        refine lv_if_ne (tgt := 739) hx hb dL_law_724 (by decide) (fun c_19 => ?_) (fun c_19 => ?_)
        · skip
          refine lv_goto (tgt := 1804) hx hb dL_law_739 (by decide) ?_
          exact lk_tail hC hA2 (lv_sub hl [2, 6] rfl) hS (Nat.le_of_ble_eq_true rfl) (Nat.le_of_ble_eq_true rfl)
        · exact absurd c_19 (by decide)
      · exact absurd (by decide) c_18
    · skip
      subst w_14
      subst w_15
      exact absurd c_2 c_12
  · skip
    subst w_6
    obtain ⟨hP, hD⟩ := va_join (wr := [(m0, .inr (11, y0)), (y9, .inl (kA 0, 2, .inl (fun _ => 0)))]) (w1 := []) hP hD [0, 1, 2] [3, 4] rfl rfl (by decide) (by decide) hk1 hFc hP1 hD1
    generalize H1 = H at hP hS ⊢
    have hP : va_P D vwCl [(m0, .inr (11, y0)), (y9, .inl (kA 0, 2, .inl (fun _ => 0)))] H := hP
    have hD : va_D A [(m0, .inr (11, y0)), (y9, .inl (kA 0, 2, .inl (fun _ => 0)))] := hD
    refine lv_istore (lv' := [(5, .int 1), (0, .ref b), (1, .ref h0), (2, .ref m0), (3, .ref o0), (4, .int 0)]) hx hb dL_law_691 hl (by decide) rfl (fun ls hl => ?_)
    refine lv_aload_n hx hb dL_law_693 rfl (lv_at hl 3 rfl) ?_
    refine lv_aload_n hx hb dL_law_694 rfl (lv_at hl 1 rfl) ?_
    refine lv_iload hx hb dL_law_695 (lv_at hl 5 rfl) ?_
    refine lv_iconst (v := 1) hx hb dL_law_697 (by decide) ?_
    refine lv_iadd hx hb dL_law_698 ?_
    refine W.eq (g2 := F0 m 699 ls [.int 1, .ref b, .ref m0]) rfl ?_
    refine va_sld hx hb hX hbl hbA hS (show vp_in 1 8 by unfold vp_in; decide) dL_law_699 ?_
    refine W.eq (g2 := F0 m 700 ls [.int (xs 1), .ref m0]) rfl ?_
    refine lv_aload_n hx hb dL_law_700 rfl (lv_at hl 1 rfl) ?_
    refine lv_iload hx hb dL_law_701 (lv_at hl 5 rfl) ?_
    refine lv_iconst (v := 2) hx hb dL_law_703 (by decide) ?_
    refine lv_iadd hx hb dL_law_704 ?_
    refine W.eq (g2 := F0 m 705 ls [.int 2, .ref b, .int (xs 1), .ref m0]) rfl ?_
    refine va_sld hx hb hX hbl hbA hS (show vp_in 2 8 by unfold vp_in; decide) dL_law_705 ?_
    refine W.eq (g2 := F0 m 706 ls [.int (xs 2), .int (xs 1), .ref m0]) rfl ?_
    have hPc := hP.sub (ws' := [(m0, .inr (11, y0)), (y9, .inl (kA 0, 2, .inl (fun _ => 0)))]) [0, 1] rfl
    have hDc := hD.sub (ws' := [(m0, .inr (11, y0)), (y9, .inl (kA 0, 2, .inl (fun _ => 0)))]) [0, 1] (by decide) rfl
    have hFc := va_free (wc := [(m0, .inr (11, y0)), (y9, .inl (kA 0, 2, .inl (fun _ => 0)))]) hD hS hA [0, 1] rfl
    refine va_calli (va_runV (As := [.int (xs 1), .int (xs 2)]) (rest := []) ⟨hx, hb, hml, hown, hts⟩ (a135_X12_task l  D kA V H.size m0 (xs 1) (xs 2) y9 y0 (fun k hk => (hq k hk)) hq9 hq48 hq55) (cwV 2 hts (gw_V gw_2700 gw_2701 gw_2702 gw_16 gw_2703) rfl rfl rfl (by decide +kernel) ⟨(Nat.le_of_ble_eq_true rfl), (Nat.le_of_ble_eq_true rfl)⟩) ⟨aP.blind, va_recv hK hP (ci := 11) (q0 := 0) rfl rfl, aP.pre hE hS hPc hK hDc hFc⟩ rfl rfl hl.1 rfl (lv_room (Nat.le_of_ble_eq_true rfl)) dL_law_706 ⟨(Nat.le_of_ble_eq_true rfl), (Nat.le_of_ble_eq_true rfl)⟩) hS (fun q _ h => hFc q h) hFc (fun r_20 u t H1 locs ht hvm hw hB hz1 hk1 hS => ?_)
    obtain ⟨u_21, rfl⟩ : ∃ z, z = u := ⟨u, rfl⟩
    obtain ⟨hP1, hD1⟩ := hB
    rw [ht] at hP1
    try dsimp only at hw hP1 hD1
    rcases hw with ⟨c_22, w_23, w_24⟩ | ⟨c_25, c_26, w_27, w_28⟩
    · skip
      subst w_23
      subst w_24
      exact absurd c_22 c_4
    · skip
      subst w_27
      subst w_28
      obtain ⟨hP, hD⟩ := va_join (wr := []) (w1 := [(m0, .inr (11, y0.set 9 (.int 1))), (y9, .inl (kA 0, 2, .inl (fun _ => 0)))]) hP hD [0, 1] [] rfl rfl (by decide) (by decide) hk1 hFc hP1 hD1
      generalize H1 = H at hP hS ⊢
      have hP : va_P D vwCl [(m0, .inr (11, y0.set 9 (.int 1))), (y9, .inl (kA 0, 2, .inl (fun _ => 0)))] H := hP
      have hD : va_D A [(m0, .inr (11, y0.set 9 (.int 1))), (y9, .inl (kA 0, 2, .inl (fun _ => 0)))] := hD
      refine lv_istore (lv' := [(6, .int 0), (5, .int 1), (0, .ref b), (1, .ref h0), (2, .ref m0), (3, .ref o0), (4, .int 0)]) hx hb dL_law_709 hl (by decide) rfl (fun ls hl => ?_)
      refine lv_aload_n hx hb dL_law_711 rfl (lv_at hl 4 rfl) ?_
      have hPc := hP.sub (ws' := [(m0, .inr (11, y0.set 9 (.int 1)))]) [0] rfl
      have hDc := hD.sub (ws' := [(m0, .inr (11, y0.set 9 (.int 1)))]) [0] (by decide) rfl
      have hFc := va_free (wc := [(m0, .inr (11, y0.set 9 (.int 1)))]) hD hS hA [0] rfl
      refine va_calli (va_runV (As := []) (rest := []) ⟨hx, hb, hml, hown, hts⟩ (a174_X12_thrown l  D kA V H.size m0 (y0.set 9 (.int 1)) (fun k hk => (by rw [List.length_set]; exact (hq k hk))) (List.getElem?_set_self (hq 9 (by decide)))) (cwV 0 hts (gw_V gw_1879 gw_1880 gw_1881 gw_16 gw_1882) rfl rfl rfl (by decide +kernel) ⟨(Nat.le_of_ble_eq_true rfl), (Nat.le_of_ble_eq_true rfl)⟩) ⟨aP.blind, va_recv hK hP (ci := 11) (q0 := 0) rfl rfl, aP.pre hE hS hPc hK hDc hFc⟩ rfl rfl hl.1 rfl (lv_room (Nat.le_of_ble_eq_true rfl)) dL_law_712 ⟨(Nat.le_of_ble_eq_true rfl), (Nat.le_of_ble_eq_true rfl)⟩) hS (fun q _ h => hFc q h) hFc (fun r_29 u t H1 locs ht hvm hw hB hz1 hk1 hS => ?_)
      obtain ⟨hP1, hD1⟩ := hB
      rw [ht] at hP1
      try dsimp only at hw hP1 hD1
      have w_30 := hw
      subst w_30
      obtain ⟨hP, hD⟩ := va_join (wr := [(y9, .inl (kA 0, 2, .inl (fun _ => 0)))]) (w1 := [(m0, .inr (11, (y0.set 9 (.int 1))))]) hP hD [0] [1] rfl rfl (by decide) (by decide) hk1 hFc hP1 hD1
      generalize H1 = H at hP hS ⊢
      have hP : va_P D vwCl [(y9, .inl (kA 0, 2, .inl (fun _ => 0))), (m0, .inr (11, (y0.set 9 (.int 1))))] H := hP
      have hD : va_D A [(y9, .inl (kA 0, 2, .inl (fun _ => 0))), (m0, .inr (11, (y0.set 9 (.int 1))))] := hD
      refine lv_iload hx hb dL_law_715 (lv_at hl 1 rfl) ?_
      refine lv_icmp_eq (tgt := 722) hx hb dL_law_717 (by decide) (fun c_31 => ?_) (fun c_31 => ?_)
      · skip
        refine lv_iload hx hb dL_law_722 (lv_at hl 1 rfl) ?_
        refine lv_if_ne (tgt := 739) hx hb dL_law_724 (by decide) (fun c_32 => ?_) (fun c_32 => ?_)
        · skip
          refine lv_goto (tgt := 1804) hx hb dL_law_739 (by decide) ?_
          exact lk_tail hC hA2 (lv_sub hl [2, 6] rfl) hS (Nat.le_of_ble_eq_true rfl) (Nat.le_of_ble_eq_true rfl)
        · exact absurd c_32 (by decide)
      · exact absurd (by decide) c_31
