theorem dL_law_988 : decode cL_law 988 = .ok (.aload_n 1, 1) := by decide +kernel
theorem dL_law_989 : decode cL_law 989 = .ok (.aload_n 0, 1) := by decide +kernel
theorem dL_law_990 : decode cL_law 990 = .ok (.iload 4, 2) := by decide +kernel
theorem dL_law_992 : decode cL_law 992 = .ok (.iconst 1, 1) := by decide +kernel
theorem dL_law_993 : decode cL_law 993 = .ok (.iadd, 1) := by decide +kernel
theorem dL_law_994 : decode cL_law 994 = .ok (.iaload, 1) := by decide +kernel
theorem dL_law_995 : decode cL_law 995 = .ok (.aload_n 0, 1) := by decide +kernel
theorem dL_law_996 : decode cL_law 996 = .ok (.iload 4, 2) := by decide +kernel
theorem dL_law_998 : decode cL_law 998 = .ok (.iconst 2, 1) := by decide +kernel
theorem dL_law_999 : decode cL_law 999 = .ok (.iadd, 1) := by decide +kernel
theorem dL_law_1000 : decode cL_law 1000 = .ok (.iaload, 1) := by decide +kernel
theorem dL_law_1001 : decode cL_law 1001 = .ok (.aload_n 0, 1) := by decide +kernel
theorem dL_law_1002 : decode cL_law 1002 = .ok (.iload 4, 2) := by decide +kernel
theorem dL_law_1004 : decode cL_law 1004 = .ok (.iconst 3, 1) := by decide +kernel
theorem dL_law_1005 : decode cL_law 1005 = .ok (.iadd, 1) := by decide +kernel
theorem dL_law_1006 : decode cL_law 1006 = .ok (.iaload, 1) := by decide +kernel
theorem dL_law_1007 : decode cL_law 1007 = .ok (.aload_n 3, 1) := by decide +kernel
theorem dL_law_1008 : decode cL_law 1008 = .ok (.invokestatic 157, 3) := by decide +kernel
theorem dL_law_1011 : decode cL_law 1011 = .ok (.istore 5, 2) := by decide +kernel
theorem dL_law_1013 : decode cL_law 1013 = .ok (.aload_n 2, 1) := by decide +kernel
theorem dL_law_1014 : decode cL_law 1014 = .ok (.aload_n 0, 1) := by decide +kernel
theorem dL_law_1015 : decode cL_law 1015 = .ok (.iload 4, 2) := by decide +kernel
theorem dL_law_1017 : decode cL_law 1017 = .ok (.iconst 1, 1) := by decide +kernel
theorem dL_law_1018 : decode cL_law 1018 = .ok (.iadd, 1) := by decide +kernel
theorem dL_law_1019 : decode cL_law 1019 = .ok (.iaload, 1) := by decide +kernel
theorem dL_law_1020 : decode cL_law 1020 = .ok (.aload_n 0, 1) := by decide +kernel
theorem dL_law_1021 : decode cL_law 1021 = .ok (.iload 4, 2) := by decide +kernel
theorem dL_law_1023 : decode cL_law 1023 = .ok (.iconst 2, 1) := by decide +kernel
theorem dL_law_1024 : decode cL_law 1024 = .ok (.iadd, 1) := by decide +kernel
theorem dL_law_1025 : decode cL_law 1025 = .ok (.iaload, 1) := by decide +kernel
theorem dL_law_1026 : decode cL_law 1026 = .ok (.aload_n 0, 1) := by decide +kernel
theorem dL_law_1027 : decode cL_law 1027 = .ok (.iload 4, 2) := by decide +kernel
theorem dL_law_1029 : decode cL_law 1029 = .ok (.iconst 3, 1) := by decide +kernel
theorem dL_law_1030 : decode cL_law 1030 = .ok (.iadd, 1) := by decide +kernel
theorem dL_law_1031 : decode cL_law 1031 = .ok (.iaload, 1) := by decide +kernel
theorem dL_law_1032 : decode cL_law 1032 = .ok (.invokevirtual 160, 3) := by decide +kernel
theorem dL_law_1035 : decode cL_law 1035 = .ok (.lstore 6, 2) := by decide +kernel
theorem dL_law_1037 : decode cL_law 1037 = .ok (.aload_n 2, 1) := by decide +kernel
theorem dL_law_1038 : decode cL_law 1038 = .ok (.invokevirtual 116, 3) := by decide +kernel
theorem dL_law_1041 : decode cL_law 1041 = .ok (.iload 5, 2) := by decide +kernel
theorem dL_law_1043 : decode cL_law 1043 = .ok (.if_icmp .eq 5, 3) := by decide +kernel
theorem dL_law_1048 : decode cL_law 1048 = .ok (.iload 5, 2) := by decide +kernel
theorem dL_law_1050 : decode cL_law 1050 = .ok (.ifCond .ne 14, 3) := by decide +kernel
theorem dL_law_1064 : decode cL_law 1064 = .ok (.goto 740, 3) := by decide +kernel
set_option maxHeartbeats 4000000 in
set_option maxRecDepth 100000 in
theorem lk_15 {p : Program} {l : Launch} {e : Env} {s : State} {m : MethodId} {below : List Frame} {meth : Method} {c : Code} {D : va_G} {kA : Nat → ClassId} {V : Nat → Nat} {b : Nat} {xs : Nat → Int32} {A : Nat → Prop} (hC : lw_C p l s m meth c b 8 xs D kA V A) (hA2 : ∀ q, A q → s.heap.size ≤ q) (h0 : Nat) (m0 : Nat) (o0 : Nat) (x0 : Nat) (x1 : Nat) (x2 : Nat) (x3 : Nat) (x4 : Nat) (x5 : Nat) (x6 : Nat) (x7 : Nat) (x8 : Nat) (x33 : Nat) (x34 : Nat) (x35 : Nat) (x36 : Nat) (x37 : Nat) (x38 : Nat) (x39 : Nat) (x40 : Nat) (x41 : Nat) (x42 : Nat) (x43 : Nat) (x44 : Nat) (y0 : List Value) (y8 : Nat) (hq : ∀ k, k < 121 → k < y0.length) (hq9 : y0[9]? = some (.int 0)) (hq42 : y0[42]? = some (.ref y8)) (hq55 : y0[55]? = some (.int 0))  {H : Heap} {locs : List Loc} {ls : Array Slot} (hl : lv_has ls 8 [(0, .ref b), (1, .ref h0), (2, .ref m0), (3, .ref o0), (4, .int 0)]) (hS : va_S A s.heap H locs) (hP : va_P D vwCl [(h0, .inr (10, [.ref x0, .int 0, .ref x1, .ref x2, .ref x3, .ref x4, .ref x5, .ref x6, .ref x7, .ref x8, .int 0, .int 3000])), (x7, .inr (5, [.ref x33, .ref x34, .ref x35, .ref x36, .ref x37, .ref x38, .ref x39, .ref x40, .ref x41, .ref x42, .ref x43, .ref x44, .int 0, .int 0, .int 0, .int (-1)])), (x37, .inl (kA 0, 5, .inl (fun _ => 0))), (m0, .inr (11, y0)), (y8, .inl (kA 0, 2, .inl (fun _ => 0)))] H) (hD : va_D A [(h0, .inr (10, [.ref x0, .int 0, .ref x1, .ref x2, .ref x3, .ref x4, .ref x5, .ref x6, .ref x7, .ref x8, .int 0, .int 3000])), (x7, .inr (5, [.ref x33, .ref x34, .ref x35, .ref x36, .ref x37, .ref x38, .ref x39, .ref x40, .ref x41, .ref x42, .ref x43, .ref x44, .int 0, .int 0, .int 0, .int (-1)])), (x37, .inl (kA 0, 5, .inl (fun _ => 0))), (m0, .inr (11, y0)), (y8, .inl (kA 0, 2, .inl (fun _ => 0)))]) : W p l e room_1 s m #[Value.ref b] below meth c H locs 514 172793 (lw_Z below #[Value.ref b] s) (F0 m 988 ls []) := by
  have ⟨hst, hx, hb, hr, hml, hown, hts, hG, hX, hbl, hbA, hlocks, hE, hK, hA⟩ := hC
  refine lv_aload_n hx hb dL_law_988 rfl (lv_at hl 1 rfl) ?_
  refine lv_aload_n hx hb dL_law_989 rfl (lv_at hl 0 rfl) ?_
  refine lv_iload hx hb dL_law_990 (lv_at hl 4 rfl) ?_
  refine lv_iconst (v := 1) hx hb dL_law_992 (by decide) ?_
  refine lv_iadd hx hb dL_law_993 ?_
  refine W.eq (g2 := F0 m 994 ls [.int 1, .ref b, .ref h0]) rfl ?_
  refine va_sld hx hb hX hbl hbA hS (show vp_in 1 8 by unfold vp_in; decide) dL_law_994 ?_
  refine W.eq (g2 := F0 m 995 ls [.int (xs 1), .ref h0]) rfl ?_
  refine lv_aload_n hx hb dL_law_995 rfl (lv_at hl 0 rfl) ?_
  refine lv_iload hx hb dL_law_996 (lv_at hl 4 rfl) ?_
  refine lv_iconst (v := 2) hx hb dL_law_998 (by decide) ?_
  refine lv_iadd hx hb dL_law_999 ?_
  refine W.eq (g2 := F0 m 1000 ls [.int 2, .ref b, .int (xs 1), .ref h0]) rfl ?_
  refine va_sld hx hb hX hbl hbA hS (show vp_in 2 8 by unfold vp_in; decide) dL_law_1000 ?_
  refine W.eq (g2 := F0 m 1001 ls [.int (xs 2), .int (xs 1), .ref h0]) rfl ?_
  refine lv_aload_n hx hb dL_law_1001 rfl (lv_at hl 0 rfl) ?_
  refine lv_iload hx hb dL_law_1002 (lv_at hl 4 rfl) ?_
  refine lv_iconst (v := 3) hx hb dL_law_1004 (by decide) ?_
  refine lv_iadd hx hb dL_law_1005 ?_
  refine W.eq (g2 := F0 m 1006 ls [.int 3, .ref b, .int (xs 2), .int (xs 1), .ref h0]) rfl ?_
  refine va_sld hx hb hX hbl hbA hS (show vp_in 3 8 by unfold vp_in; decide) dL_law_1006 ?_
  refine W.eq (g2 := F0 m 1007 ls [.int (xs 3), .int (xs 2), .int (xs 1), .ref h0]) rfl ?_
  refine lv_aload_n hx hb dL_law_1007 rfl (lv_at hl 3 rfl) ?_
  have hPc := hP.sub (ws' := [(h0, .inr (10, [.ref x0, .int 0, .ref x1, .ref x2, .ref x3, .ref x4, .ref x5, .ref x6, .ref x7, .ref x8, .int 0, .int 3000])), (x7, .inr (5, [.ref x33, .ref x34, .ref x35, .ref x36, .ref x37, .ref x38, .ref x39, .ref x40, .ref x41, .ref x42, .ref x43, .ref x44, .int 0, .int 0, .int 0, .int (-1)])), (x37, .inl (kA 0, 5, .inl (fun _ => 0)))]) [0, 1, 2] rfl
  have hDc := hD.sub (ws' := [(h0, .inr (10, [.ref x0, .int 0, .ref x1, .ref x2, .ref x3, .ref x4, .ref x5, .ref x6, .ref x7, .ref x8, .int 0, .int 3000])), (x7, .inr (5, [.ref x33, .ref x34, .ref x35, .ref x36, .ref x37, .ref x38, .ref x39, .ref x40, .ref x41, .ref x42, .ref x43, .ref x44, .int 0, .int 0, .int 0, .int (-1)])), (x37, .inl (kA 0, 5, .inl (fun _ => 0)))]) [0, 1, 2] (by decide) rfl
  have hFc := va_free (wc := [(h0, .inr (10, [.ref x0, .int 0, .ref x1, .ref x2, .ref x3, .ref x4, .ref x5, .ref x6, .ref x7, .ref x8, .int 0, .int 3000])), (x7, .inr (5, [.ref x33, .ref x34, .ref x35, .ref x36, .ref x37, .ref x38, .ref x39, .ref x40, .ref x41, .ref x42, .ref x43, .ref x44, .int 0, .int 0, .int 0, .int (-1)])), (x37, .inl (kA 0, 5, .inl (fun _ => 0)))]) hD hS hA [0, 1, 2] rfl
  refine va_calli (vx_runSW (As := [.ref h0, .int (xs 1), .int (xs 2), .int (xs 3), .ref o0]) (rest := []) ⟨hx, hb, hml, hown, hts⟩ (a166_L_field l hst D kA V H.size h0 (xs 1) (xs 2) (xs 3) o0 x0 x1 x2 x3 x4 x5 x6 x7 x8 x33 x34 x35 x36 x37 x38 x39 x40 x41 x42 x43 x44) (vx_cwSW 5 hts (gw_SW gw_1758 gw_1759 gw_0 gw_1760) rfl rfl rfl (by decide +kernel) ⟨(Nat.le_of_ble_eq_true rfl), (Nat.le_of_ble_eq_true rfl)⟩) ⟨aP.blind, aP.pre hE hS hPc hK hDc hFc⟩ rfl rfl hl.1 rfl (lv_room (Nat.le_of_ble_eq_true rfl)) dL_law_1008 ⟨(Nat.le_of_ble_eq_true rfl), (Nat.le_of_ble_eq_true rfl)⟩) hS (fun q _ h => hFc q h) hFc (fun r_1 u t H1 locs ht hvm hw hB hz1 hk1 hS => ?_)
  obtain ⟨hP1, hD1⟩ := hB
  rw [ht] at hP1
  try dsimp only at hw hP1 hD1
  rcases hw with ⟨c_2, w_3⟩ | ⟨c_4, c_5, w_6⟩
  · skip
    subst w_3
    obtain ⟨hP, hD⟩ := va_join (wr := [(m0, .inr (11, y0)), (y8, .inl (kA 0, 2, .inl (fun _ => 0)))]) (w1 := []) hP hD [0, 1, 2] [3, 4] rfl rfl (by decide) (by decide) hk1 hFc hP1 hD1
    generalize H1 = H at hP hS ⊢
    have hP : va_P D vwCl [(m0, .inr (11, y0)), (y8, .inl (kA 0, 2, .inl (fun _ => 0)))] H := hP
    have hD : va_D A [(m0, .inr (11, y0)), (y8, .inl (kA 0, 2, .inl (fun _ => 0)))] := hD
    refine lv_istore (lv' := [(5, .int 1), (0, .ref b), (1, .ref h0), (2, .ref m0), (3, .ref o0), (4, .int 0)]) hx hb dL_law_1011 hl (by decide) rfl (fun ls hl => ?_)
    refine lv_aload_n hx hb dL_law_1013 rfl (lv_at hl 3 rfl) ?_
    refine lv_aload_n hx hb dL_law_1014 rfl (lv_at hl 1 rfl) ?_
    refine lv_iload hx hb dL_law_1015 (lv_at hl 5 rfl) ?_
    refine lv_iconst (v := 1) hx hb dL_law_1017 (by decide) ?_
    refine lv_iadd hx hb dL_law_1018 ?_
    refine W.eq (g2 := F0 m 1019 ls [.int 1, .ref b, .ref m0]) rfl ?_
    refine va_sld hx hb hX hbl hbA hS (show vp_in 1 8 by unfold vp_in; decide) dL_law_1019 ?_
    refine W.eq (g2 := F0 m 1020 ls [.int (xs 1), .ref m0]) rfl ?_
    refine lv_aload_n hx hb dL_law_1020 rfl (lv_at hl 1 rfl) ?_
    refine lv_iload hx hb dL_law_1021 (lv_at hl 5 rfl) ?_
    refine lv_iconst (v := 2) hx hb dL_law_1023 (by decide) ?_
    refine lv_iadd hx hb dL_law_1024 ?_
    refine W.eq (g2 := F0 m 1025 ls [.int 2, .ref b, .int (xs 1), .ref m0]) rfl ?_
    refine va_sld hx hb hX hbl hbA hS (show vp_in 2 8 by unfold vp_in; decide) dL_law_1025 ?_
    refine W.eq (g2 := F0 m 1026 ls [.int (xs 2), .int (xs 1), .ref m0]) rfl ?_
    refine lv_aload_n hx hb dL_law_1026 rfl (lv_at hl 1 rfl) ?_
    refine lv_iload hx hb dL_law_1027 (lv_at hl 5 rfl) ?_
    refine lv_iconst (v := 3) hx hb dL_law_1029 (by decide) ?_
    refine lv_iadd hx hb dL_law_1030 ?_
    refine W.eq (g2 := F0 m 1031 ls [.int 3, .ref b, .int (xs 2), .int (xs 1), .ref m0]) rfl ?_
    refine va_sld hx hb hX hbl hbA hS (show vp_in 3 8 by unfold vp_in; decide) dL_law_1031 ?_
    refine W.eq (g2 := F0 m 1032 ls [.int (xs 3), .int (xs 2), .int (xs 1), .ref m0]) rfl ?_
    have hPc := hP.sub (ws' := [(m0, .inr (11, y0)), (y8, .inl (kA 0, 2, .inl (fun _ => 0)))]) [0, 1] rfl
    have hDc := hD.sub (ws' := [(m0, .inr (11, y0)), (y8, .inl (kA 0, 2, .inl (fun _ => 0)))]) [0, 1] (by decide) rfl
    have hFc := va_free (wc := [(m0, .inr (11, y0)), (y8, .inl (kA 0, 2, .inl (fun _ => 0)))]) hD hS hA [0, 1] rfl
    refine va_calll (va_runV (As := [.int (xs 1), .int (xs 2), .int (xs 3)]) (rest := []) ⟨hx, hb, hml, hown, hts⟩ (a141_X12_field l  D kA V H.size m0 (xs 1) (xs 2) (xs 3) y8 y0 (fun k hk => (hq k hk)) hq42 hq55) (cwV 3 hts (gw_V gw_2724 gw_2725 gw_2726 gw_16 gw_2727) rfl rfl rfl (by decide +kernel) ⟨(Nat.le_of_ble_eq_true rfl), (Nat.le_of_ble_eq_true rfl)⟩) ⟨aP.blind, va_recv hK hP (ci := 11) (q0 := 0) rfl rfl, aP.pre hE hS hPc hK hDc hFc⟩ rfl rfl hl.1 rfl (lv_room (Nat.le_of_ble_eq_true rfl)) dL_law_1032 ⟨(Nat.le_of_ble_eq_true rfl), (Nat.le_of_ble_eq_true rfl)⟩) hS (fun q _ h => hFc q h) hFc (fun r_7 u t H1 locs ht hvm hw hB hz1 hk1 hS => ?_)
    obtain ⟨u_8, rfl⟩ : ∃ z, z = u := ⟨u, rfl⟩
    obtain ⟨hP1, hD1⟩ := hB
    rw [ht] at hP1
    try dsimp only at hw hP1 hD1
    rcases hw with ⟨c_9, w_10, w_11⟩ | ⟨c_12, c_13, w_14, w_15⟩
    · skip
      subst w_10
      subst w_11
      obtain ⟨hP, hD⟩ := va_join (wr := []) (w1 := [(m0, .inr (11, y0.set 9 (.int 1))), (y8, .inl (kA 0, 2, .inl (fun _ => 0)))]) hP hD [0, 1] [] rfl rfl (by decide) (by decide) hk1 hFc hP1 hD1
      generalize H1 = H at hP hS ⊢
      have hP : va_P D vwCl [(m0, .inr (11, y0.set 9 (.int 1))), (y8, .inl (kA 0, 2, .inl (fun _ => 0)))] H := hP
      have hD : va_D A [(m0, .inr (11, y0.set 9 (.int 1))), (y8, .inl (kA 0, 2, .inl (fun _ => 0)))] := hD
      refine lv_lstore (lv' := [(6, .long 0), (5, .int 1), (0, .ref b), (1, .ref h0), (2, .ref m0), (3, .ref o0), (4, .int 0)]) hx hb dL_law_1035 hl (by decide) rfl (fun ls hl => ?_)
      refine lv_aload_n hx hb dL_law_1037 rfl (lv_at hl 4 rfl) ?_
      have hPc := hP.sub (ws' := [(m0, .inr (11, y0.set 9 (.int 1)))]) [0] rfl
      have hDc := hD.sub (ws' := [(m0, .inr (11, y0.set 9 (.int 1)))]) [0] (by decide) rfl
      have hFc := va_free (wc := [(m0, .inr (11, y0.set 9 (.int 1)))]) hD hS hA [0] rfl
      refine va_calli (va_runV (As := []) (rest := []) ⟨hx, hb, hml, hown, hts⟩ (a174_X12_thrown l  D kA V H.size m0 (y0.set 9 (.int 1)) (fun k hk => (by rw [List.length_set]; exact (hq k hk))) (List.getElem?_set_self (hq 9 (by decide)))) (cwV 0 hts (gw_V gw_1879 gw_1880 gw_1881 gw_16 gw_1882) rfl rfl rfl (by decide +kernel) ⟨(Nat.le_of_ble_eq_true rfl), (Nat.le_of_ble_eq_true rfl)⟩) ⟨aP.blind, va_recv hK hP (ci := 11) (q0 := 0) rfl rfl, aP.pre hE hS hPc hK hDc hFc⟩ rfl rfl hl.1 rfl (lv_room (Nat.le_of_ble_eq_true rfl)) dL_law_1038 ⟨(Nat.le_of_ble_eq_true rfl), (Nat.le_of_ble_eq_true rfl)⟩) hS (fun q _ h => hFc q h) hFc (fun r_16 u t H1 locs ht hvm hw hB hz1 hk1 hS => ?_)
      obtain ⟨hP1, hD1⟩ := hB
      rw [ht] at hP1
      try dsimp only at hw hP1 hD1
      have w_17 := hw
      subst w_17
      obtain ⟨hP, hD⟩ := va_join (wr := [(y8, .inl (kA 0, 2, .inl (fun _ => 0)))]) (w1 := [(m0, .inr (11, (y0.set 9 (.int 1))))]) hP hD [0] [1] rfl rfl (by decide) (by decide) hk1 hFc hP1 hD1
      generalize H1 = H at hP hS ⊢
      have hP : va_P D vwCl [(y8, .inl (kA 0, 2, .inl (fun _ => 0))), (m0, .inr (11, (y0.set 9 (.int 1))))] H := hP
      have hD : va_D A [(y8, .inl (kA 0, 2, .inl (fun _ => 0))), (m0, .inr (11, (y0.set 9 (.int 1))))] := hD
      refine lv_iload hx hb dL_law_1041 (lv_at hl 1 rfl) ?_
      refine lv_icmp_eq (tgt := 1048) hx hb dL_law_1043 (by decide) (fun c_18 => ?_) (fun c_18 => ?_)
      · skip
        refine lv_iload hx hb dL_law_1048 (lv_at hl 1 rfl) ?_
        refine lv_if_ne (tgt := 1064) hx hb dL_law_1050 (by decide) (fun c_19 => ?_) (fun c_19 => ?_)
        · skip
          refine lv_goto (tgt := 1804) hx hb dL_law_1064 (by decide) ?_
          exact lk_tail hC hA2 (lv_sub hl [2, 6] rfl) hS (Nat.le_of_ble_eq_true rfl) (Nat.le_of_ble_eq_true rfl)
        · exact absurd c_19 (by decide)
      · exact absurd (by decide) c_18
    · skip
      subst w_14
      subst w_15
      exact absurd c_2 c_12
  · skip
    subst w_6
    obtain ⟨hP, hD⟩ := va_join (wr := [(m0, .inr (11, y0)), (y8, .inl (kA 0, 2, .inl (fun _ => 0)))]) (w1 := []) hP hD [0, 1, 2] [3, 4] rfl rfl (by decide) (by decide) hk1 hFc hP1 hD1
    generalize H1 = H at hP hS ⊢
    have hP : va_P D vwCl [(m0, .inr (11, y0)), (y8, .inl (kA 0, 2, .inl (fun _ => 0)))] H := hP
    have hD : va_D A [(m0, .inr (11, y0)), (y8, .inl (kA 0, 2, .inl (fun _ => 0)))] := hD
    refine lv_istore (lv' := [(5, .int 1), (0, .ref b), (1, .ref h0), (2, .ref m0), (3, .ref o0), (4, .int 0)]) hx hb dL_law_1011 hl (by decide) rfl (fun ls hl => ?_)
    refine lv_aload_n hx hb dL_law_1013 rfl (lv_at hl 3 rfl) ?_
    refine lv_aload_n hx hb dL_law_1014 rfl (lv_at hl 1 rfl) ?_
    refine lv_iload hx hb dL_law_1015 (lv_at hl 5 rfl) ?_
    refine lv_iconst (v := 1) hx hb dL_law_1017 (by decide) ?_
    refine lv_iadd hx hb dL_law_1018 ?_
    refine W.eq (g2 := F0 m 1019 ls [.int 1, .ref b, .ref m0]) rfl ?_
    refine va_sld hx hb hX hbl hbA hS (show vp_in 1 8 by unfold vp_in; decide) dL_law_1019 ?_
    refine W.eq (g2 := F0 m 1020 ls [.int (xs 1), .ref m0]) rfl ?_
    refine lv_aload_n hx hb dL_law_1020 rfl (lv_at hl 1 rfl) ?_
    refine lv_iload hx hb dL_law_1021 (lv_at hl 5 rfl) ?_
    refine lv_iconst (v := 2) hx hb dL_law_1023 (by decide) ?_
    refine lv_iadd hx hb dL_law_1024 ?_
    refine W.eq (g2 := F0 m 1025 ls [.int 2, .ref b, .int (xs 1), .ref m0]) rfl ?_
    refine va_sld hx hb hX hbl hbA hS (show vp_in 2 8 by unfold vp_in; decide) dL_law_1025 ?_
    refine W.eq (g2 := F0 m 1026 ls [.int (xs 2), .int (xs 1), .ref m0]) rfl ?_
    refine lv_aload_n hx hb dL_law_1026 rfl (lv_at hl 1 rfl) ?_
    refine lv_iload hx hb dL_law_1027 (lv_at hl 5 rfl) ?_
    refine lv_iconst (v := 3) hx hb dL_law_1029 (by decide) ?_
    refine lv_iadd hx hb dL_law_1030 ?_
    refine W.eq (g2 := F0 m 1031 ls [.int 3, .ref b, .int (xs 2), .int (xs 1), .ref m0]) rfl ?_
    refine va_sld hx hb hX hbl hbA hS (show vp_in 3 8 by unfold vp_in; decide) dL_law_1031 ?_
    refine W.eq (g2 := F0 m 1032 ls [.int (xs 3), .int (xs 2), .int (xs 1), .ref m0]) rfl ?_
    have hPc := hP.sub (ws' := [(m0, .inr (11, y0)), (y8, .inl (kA 0, 2, .inl (fun _ => 0)))]) [0, 1] rfl
    have hDc := hD.sub (ws' := [(m0, .inr (11, y0)), (y8, .inl (kA 0, 2, .inl (fun _ => 0)))]) [0, 1] (by decide) rfl
    have hFc := va_free (wc := [(m0, .inr (11, y0)), (y8, .inl (kA 0, 2, .inl (fun _ => 0)))]) hD hS hA [0, 1] rfl
    refine va_calll (va_runV (As := [.int (xs 1), .int (xs 2), .int (xs 3)]) (rest := []) ⟨hx, hb, hml, hown, hts⟩ (a141_X12_field l  D kA V H.size m0 (xs 1) (xs 2) (xs 3) y8 y0 (fun k hk => (hq k hk)) hq42 hq55) (cwV 3 hts (gw_V gw_2724 gw_2725 gw_2726 gw_16 gw_2727) rfl rfl rfl (by decide +kernel) ⟨(Nat.le_of_ble_eq_true rfl), (Nat.le_of_ble_eq_true rfl)⟩) ⟨aP.blind, va_recv hK hP (ci := 11) (q0 := 0) rfl rfl, aP.pre hE hS hPc hK hDc hFc⟩ rfl rfl hl.1 rfl (lv_room (Nat.le_of_ble_eq_true rfl)) dL_law_1032 ⟨(Nat.le_of_ble_eq_true rfl), (Nat.le_of_ble_eq_true rfl)⟩) hS (fun q _ h => hFc q h) hFc (fun r_20 u t H1 locs ht hvm hw hB hz1 hk1 hS => ?_)
    obtain ⟨u_21, rfl⟩ : ∃ z, z = u := ⟨u, rfl⟩
    obtain ⟨hP1, hD1⟩ := hB
    rw [ht] at hP1
    try dsimp only at hw hP1 hD1
    rcases hw with ⟨c_22, w_23, w_24⟩ | ⟨c_25, c_26, w_27, w_28⟩
    · skip
      subst w_23
      subst w_24
      exact absurd c_22 c_4
    · skip
      subst w_27
      subst w_28
      obtain ⟨hP, hD⟩ := va_join (wr := []) (w1 := [(m0, .inr (11, y0.set 9 (.int 1))), (y8, .inl (kA 0, 2, .inl (fun _ => 0)))]) hP hD [0, 1] [] rfl rfl (by decide) (by decide) hk1 hFc hP1 hD1
      generalize H1 = H at hP hS ⊢
      have hP : va_P D vwCl [(m0, .inr (11, y0.set 9 (.int 1))), (y8, .inl (kA 0, 2, .inl (fun _ => 0)))] H := hP
      have hD : va_D A [(m0, .inr (11, y0.set 9 (.int 1))), (y8, .inl (kA 0, 2, .inl (fun _ => 0)))] := hD
      refine lv_lstore (lv' := [(6, .long 0), (5, .int 1), (0, .ref b), (1, .ref h0), (2, .ref m0), (3, .ref o0), (4, .int 0)]) hx hb dL_law_1035 hl (by decide) rfl (fun ls hl => ?_)
      refine lv_aload_n hx hb dL_law_1037 rfl (lv_at hl 4 rfl) ?_
      have hPc := hP.sub (ws' := [(m0, .inr (11, y0.set 9 (.int 1)))]) [0] rfl
      have hDc := hD.sub (ws' := [(m0, .inr (11, y0.set 9 (.int 1)))]) [0] (by decide) rfl
      have hFc := va_free (wc := [(m0, .inr (11, y0.set 9 (.int 1)))]) hD hS hA [0] rfl
      refine va_calli (va_runV (As := []) (rest := []) ⟨hx, hb, hml, hown, hts⟩ (a174_X12_thrown l  D kA V H.size m0 (y0.set 9 (.int 1)) (fun k hk => (by rw [List.length_set]; exact (hq k hk))) (List.getElem?_set_self (hq 9 (by decide)))) (cwV 0 hts (gw_V gw_1879 gw_1880 gw_1881 gw_16 gw_1882) rfl rfl rfl (by decide +kernel) ⟨(Nat.le_of_ble_eq_true rfl), (Nat.le_of_ble_eq_true rfl)⟩) ⟨aP.blind, va_recv hK hP (ci := 11) (q0 := 0) rfl rfl, aP.pre hE hS hPc hK hDc hFc⟩ rfl rfl hl.1 rfl (lv_room (Nat.le_of_ble_eq_true rfl)) dL_law_1038 ⟨(Nat.le_of_ble_eq_true rfl), (Nat.le_of_ble_eq_true rfl)⟩) hS (fun q _ h => hFc q h) hFc (fun r_29 u t H1 locs ht hvm hw hB hz1 hk1 hS => ?_)
      obtain ⟨hP1, hD1⟩ := hB
      rw [ht] at hP1
      try dsimp only at hw hP1 hD1
      have w_30 := hw
      subst w_30
      obtain ⟨hP, hD⟩ := va_join (wr := [(y8, .inl (kA 0, 2, .inl (fun _ => 0)))]) (w1 := [(m0, .inr (11, (y0.set 9 (.int 1))))]) hP hD [0] [1] rfl rfl (by decide) (by decide) hk1 hFc hP1 hD1
      generalize H1 = H at hP hS ⊢
      have hP : va_P D vwCl [(y8, .inl (kA 0, 2, .inl (fun _ => 0))), (m0, .inr (11, (y0.set 9 (.int 1))))] H := hP
      have hD : va_D A [(y8, .inl (kA 0, 2, .inl (fun _ => 0))), (m0, .inr (11, (y0.set 9 (.int 1))))] := hD
      refine lv_iload hx hb dL_law_1041 (lv_at hl 1 rfl) ?_
      refine lv_icmp_eq (tgt := 1048) hx hb dL_law_1043 (by decide) (fun c_31 => ?_) (fun c_31 => ?_)
      · skip
        refine lv_iload hx hb dL_law_1048 (lv_at hl 1 rfl) ?_
        refine lv_if_ne (tgt := 1064) hx hb dL_law_1050 (by decide) (fun c_32 => ?_) (fun c_32 => ?_)
        · skip
          refine lv_goto (tgt := 1804) hx hb dL_law_1064 (by decide) ?_
          exact lk_tail hC hA2 (lv_sub hl [2, 6] rfl) hS (Nat.le_of_ble_eq_true rfl) (Nat.le_of_ble_eq_true rfl)
        · exact absurd c_32 (by decide)
      · exact absurd (by decide) c_31
