theorem dL_law_1067 : decode cL_law 1067 = .ok (.aload_n 1, 1) := by decide +kernel
theorem dL_law_1068 : decode cL_law 1068 = .ok (.aload_n 0, 1) := by decide +kernel
theorem dL_law_1069 : decode cL_law 1069 = .ok (.iload 4, 2) := by decide +kernel
theorem dL_law_1071 : decode cL_law 1071 = .ok (.iconst 1, 1) := by decide +kernel
theorem dL_law_1072 : decode cL_law 1072 = .ok (.iadd, 1) := by decide +kernel
theorem dL_law_1073 : decode cL_law 1073 = .ok (.iaload, 1) := by decide +kernel
theorem dL_law_1074 : decode cL_law 1074 = .ok (.aload_n 3, 1) := by decide +kernel
theorem dL_law_1075 : decode cL_law 1075 = .ok (.invokestatic 161, 3) := by decide +kernel
theorem dL_law_1078 : decode cL_law 1078 = .ok (.istore 5, 2) := by decide +kernel
theorem dL_law_1080 : decode cL_law 1080 = .ok (.aload_n 2, 1) := by decide +kernel
theorem dL_law_1081 : decode cL_law 1081 = .ok (.aload_n 0, 1) := by decide +kernel
theorem dL_law_1082 : decode cL_law 1082 = .ok (.iload 4, 2) := by decide +kernel
theorem dL_law_1084 : decode cL_law 1084 = .ok (.iconst 1, 1) := by decide +kernel
theorem dL_law_1085 : decode cL_law 1085 = .ok (.iadd, 1) := by decide +kernel
theorem dL_law_1086 : decode cL_law 1086 = .ok (.iaload, 1) := by decide +kernel
theorem dL_law_1087 : decode cL_law 1087 = .ok (.invokevirtual 163, 3) := by decide +kernel
theorem dL_law_1090 : decode cL_law 1090 = .ok (.istore 6, 2) := by decide +kernel
theorem dL_law_1092 : decode cL_law 1092 = .ok (.aload_n 2, 1) := by decide +kernel
theorem dL_law_1093 : decode cL_law 1093 = .ok (.invokevirtual 116, 3) := by decide +kernel
theorem dL_law_1096 : decode cL_law 1096 = .ok (.iload 5, 2) := by decide +kernel
theorem dL_law_1098 : decode cL_law 1098 = .ok (.if_icmp .eq 5, 3) := by decide +kernel
theorem dL_law_1103 : decode cL_law 1103 = .ok (.iload 5, 2) := by decide +kernel
theorem dL_law_1105 : decode cL_law 1105 = .ok (.ifCond .ne 15, 3) := by decide +kernel
theorem dL_law_1108 : decode cL_law 1108 = .ok (.aload_n 3, 1) := by decide +kernel
theorem dL_law_1109 : decode cL_law 1109 = .ok (.iconst 0, 1) := by decide +kernel
theorem dL_law_1110 : decode cL_law 1110 = .ok (.laload, 1) := by decide +kernel
theorem dL_law_1111 : decode cL_law 1111 = .ok (.iload 6, 2) := by decide +kernel
theorem dL_law_1113 : decode cL_law 1113 = .ok (.i2l, 1) := by decide +kernel
theorem dL_law_1114 : decode cL_law 1114 = .ok (.lcmp, 1) := by decide +kernel
theorem dL_law_1115 : decode cL_law 1115 = .ok (.ifCond .eq 5, 3) := by decide +kernel
theorem dL_law_1120 : decode cL_law 1120 = .ok (.goto 684, 3) := by decide +kernel
set_option maxHeartbeats 4000000 in
set_option maxRecDepth 100000 in
theorem lk_16 {p : Program} {l : Launch} {e : Env} {s : State} {m : MethodId} {below : List Frame} {meth : Method} {c : Code} {D : va_G} {kA : Nat → ClassId} {V : Nat → Nat} {b : Nat} {xs : Nat → Int32} {A : Nat → Prop} (hC : lw_C p l s m meth c b 8 xs D kA V A) (hA2 : ∀ q, A q → s.heap.size ≤ q) (h0 : Nat) (m0 : Nat) (o0 : Nat) (x0 : Nat) (x1 : Nat) (x2 : Nat) (x3 : Nat) (x4 : Nat) (x5 : Nat) (x6 : Nat) (x7 : Nat) (x8 : Nat) (x9 : Nat) (x10 : Nat) (x11 : Nat) (x12 : Nat) (x13 : Nat) (y0 : List Value) (hq : ∀ k, k < 121 → k < y0.length) (hq1 : y0[1]? = some (.int 0)) (hq9 : y0[9]? = some (.int 0))  {H : Heap} {locs : List Loc} {ls : Array Slot} (hl : lv_has ls 8 [(0, .ref b), (1, .ref h0), (2, .ref m0), (3, .ref o0), (4, .int 0)]) (hS : va_S A s.heap H locs) (hP : va_P D vwCl [(h0, .inr (10, [.ref x0, .int 0, .ref x1, .ref x2, .ref x3, .ref x4, .ref x5, .ref x6, .ref x7, .ref x8, .int 0, .int 3000])), (x1, .inr (8, [.ref x0, .ref x9, .ref x10, .ref x11, .ref x12, .ref x13, .int 0, .int 0, .int 0, .int 0, .int (-1)])), (m0, .inr (11, y0)), (o0, .inl (kA 1, 1, .inr (.inl (fun _ => 0))))] H) (hD : va_D A [(h0, .inr (10, [.ref x0, .int 0, .ref x1, .ref x2, .ref x3, .ref x4, .ref x5, .ref x6, .ref x7, .ref x8, .int 0, .int 3000])), (x1, .inr (8, [.ref x0, .ref x9, .ref x10, .ref x11, .ref x12, .ref x13, .int 0, .int 0, .int 0, .int 0, .int (-1)])), (m0, .inr (11, y0)), (o0, .inl (kA 1, 1, .inr (.inl (fun _ => 0))))]) : W p l e room_1 s m #[Value.ref b] below meth c H locs 514 172793 (lw_Z below #[Value.ref b] s) (F0 m 1067 ls []) := by
  have ⟨hst, hx, hb, hr, hml, hown, hts, hG, hX, hbl, hbA, hlocks, hE, hK, hA⟩ := hC
  refine lv_aload_n hx hb dL_law_1067 rfl (lv_at hl 1 rfl) ?_
  refine lv_aload_n hx hb dL_law_1068 rfl (lv_at hl 0 rfl) ?_
  refine lv_iload hx hb dL_law_1069 (lv_at hl 4 rfl) ?_
  refine lv_iconst (v := 1) hx hb dL_law_1071 (by decide) ?_
  refine lv_iadd hx hb dL_law_1072 ?_
  refine W.eq (g2 := F0 m 1073 ls [.int 1, .ref b, .ref h0]) rfl ?_
  refine va_sld hx hb hX hbl hbA hS (show vp_in 1 8 by unfold vp_in; decide) dL_law_1073 ?_
  refine W.eq (g2 := F0 m 1074 ls [.int (xs 1), .ref h0]) rfl ?_
  refine lv_aload_n hx hb dL_law_1074 rfl (lv_at hl 3 rfl) ?_
  have hPc := hP.sub (ws' := [(h0, .inr (10, [.ref x0, .int 0, .ref x1, .ref x2, .ref x3, .ref x4, .ref x5, .ref x6, .ref x7, .ref x8, .int 0, .int 3000])), (x1, .inr (8, [.ref x0, .ref x9, .ref x10, .ref x11, .ref x12, .ref x13, .int 0, .int 0, .int 0, .int 0, .int (-1)])), (o0, .inl (kA 1, 1, .inr (.inl (fun _ => 0))))]) [0, 1, 3] rfl
  have hDc := hD.sub (ws' := [(h0, .inr (10, [.ref x0, .int 0, .ref x1, .ref x2, .ref x3, .ref x4, .ref x5, .ref x6, .ref x7, .ref x8, .int 0, .int 3000])), (x1, .inr (8, [.ref x0, .ref x9, .ref x10, .ref x11, .ref x12, .ref x13, .int 0, .int 0, .int 0, .int 0, .int (-1)])), (o0, .inl (kA 1, 1, .inr (.inl (fun _ => 0))))]) [0, 1, 3] (by decide) rfl
  have hFc := va_free (wc := [(h0, .inr (10, [.ref x0, .int 0, .ref x1, .ref x2, .ref x3, .ref x4, .ref x5, .ref x6, .ref x7, .ref x8, .int 0, .int 3000])), (x1, .inr (8, [.ref x0, .ref x9, .ref x10, .ref x11, .ref x12, .ref x13, .int 0, .int 0, .int 0, .int 0, .int (-1)])), (o0, .inl (kA 1, 1, .inr (.inl (fun _ => 0))))]) hD hS hA [0, 1, 3] rfl
  refine va_calli (vx_runSW (As := [.ref h0, .int (xs 1), .ref o0]) (rest := []) ⟨hx, hb, hml, hown, hts⟩ (a167_L_find l hst D kA V H.size h0 (xs 1) o0 x0 x1 x2 x3 x4 x5 x6 x7 x8 x9 x10 x11 x12 x13) (vx_cwSW 3 hts (gw_SW gw_1768 gw_1769 gw_0 gw_1770) rfl rfl rfl (by decide +kernel) ⟨(Nat.le_of_ble_eq_true rfl), (Nat.le_of_ble_eq_true rfl)⟩) ⟨aP.blind, aP.pre hE hS hPc hK hDc hFc⟩ rfl rfl hl.1 rfl (lv_room (Nat.le_of_ble_eq_true rfl)) dL_law_1075 ⟨(Nat.le_of_ble_eq_true rfl), (Nat.le_of_ble_eq_true rfl)⟩) hS (fun q _ h => hFc q h) hFc (fun r_1 u t H1 locs ht hvm hw hB hz1 hk1 hS => ?_)
  obtain ⟨u_2, rfl⟩ : ∃ z, z = u := ⟨u, rfl⟩
  obtain ⟨hP1, hD1⟩ := hB
  rw [ht] at hP1
  try dsimp only at hw hP1 hD1
  rcases hw with ⟨c_3, w_4, w_5⟩ | ⟨c_6, c_7, w_8, w_9⟩ | ⟨c_10, c_11, w_12, w_13⟩
  · skip
    subst w_4
    subst w_5
    obtain ⟨hP, hD⟩ := va_join (wr := [(m0, .inr (11, y0))]) (w1 := [(o0, .inl (kA 1, 1, .inr (.inl (fun _ => 0))))]) hP hD [0, 1, 3] [2] rfl rfl (by decide) (by decide) hk1 hFc hP1 hD1
    generalize H1 = H at hP hS ⊢
    have hP : va_P D vwCl [(m0, .inr (11, y0)), (o0, .inl (kA 1, 1, .inr (.inl (fun _ => 0))))] H := hP
    have hD : va_D A [(m0, .inr (11, y0)), (o0, .inl (kA 1, 1, .inr (.inl (fun _ => 0))))] := hD
    refine lv_istore (lv' := [(5, .int 1), (0, .ref b), (1, .ref h0), (2, .ref m0), (3, .ref o0), (4, .int 0)]) hx hb dL_law_1078 hl (by decide) rfl (fun ls hl => ?_)
    refine lv_aload_n hx hb dL_law_1080 rfl (lv_at hl 3 rfl) ?_
    refine lv_aload_n hx hb dL_law_1081 rfl (lv_at hl 1 rfl) ?_
    refine lv_iload hx hb dL_law_1082 (lv_at hl 5 rfl) ?_
    refine lv_iconst (v := 1) hx hb dL_law_1084 (by decide) ?_
    refine lv_iadd hx hb dL_law_1085 ?_
    refine W.eq (g2 := F0 m 1086 ls [.int 1, .ref b, .ref m0]) rfl ?_
    refine va_sld hx hb hX hbl hbA hS (show vp_in 1 8 by unfold vp_in; decide) dL_law_1086 ?_
    refine W.eq (g2 := F0 m 1087 ls [.int (xs 1), .ref m0]) rfl ?_
    have hPc := hP.sub (ws' := [(m0, .inr (11, y0))]) [0] rfl
    have hDc := hD.sub (ws' := [(m0, .inr (11, y0))]) [0] (by decide) rfl
    have hFc := va_free (wc := [(m0, .inr (11, y0))]) hD hS hA [0] rfl
    refine va_calli (va_runV (As := [.int (xs 1)]) (rest := []) ⟨hx, hb, hml, hown, hts⟩ (a143_X12_find l  D kA V H.size m0 (xs 1) y0 (fun k hk => (hq k hk)) hq1 hq9) (cwV 1 hts (gw_V gw_2728 gw_2729 gw_2730 gw_16 gw_2731) rfl rfl rfl (by decide +kernel) ⟨(Nat.le_of_ble_eq_true rfl), (Nat.le_of_ble_eq_true rfl)⟩) ⟨aP.blind, va_recv hK hP (ci := 11) (q0 := 0) rfl rfl, aP.pre hE hS hPc hK hDc hFc⟩ rfl rfl hl.1 rfl (lv_room (Nat.le_of_ble_eq_true rfl)) dL_law_1087 ⟨(Nat.le_of_ble_eq_true rfl), (Nat.le_of_ble_eq_true rfl)⟩) hS (fun q _ h => hFc q h) hFc (fun r_14 u t H1 locs ht hvm hw hB hz1 hk1 hS => ?_)
    obtain ⟨u_15, rfl⟩ : ∃ z, z = u := ⟨u, rfl⟩
    obtain ⟨hP1, hD1⟩ := hB
    rw [ht] at hP1
    try dsimp only at hw hP1 hD1
    rcases hw with ⟨c_16, w_17, w_18⟩ | ⟨c_19, c_20, w_21, w_22⟩ | ⟨c_23, c_24, w_25, w_26⟩
    · skip
      subst w_17
      subst w_18
      obtain ⟨hP, hD⟩ := va_join (wr := [(o0, .inl (kA 1, 1, .inr (.inl (fun _ => 0))))]) (w1 := [(m0, .inr (11, y0.set 9 (.int 1)))]) hP hD [0] [1] rfl rfl (by decide) (by decide) hk1 hFc hP1 hD1
      generalize H1 = H at hP hS ⊢
      have hP : va_P D vwCl [(o0, .inl (kA 1, 1, .inr (.inl (fun _ => 0)))), (m0, .inr (11, y0.set 9 (.int 1)))] H := hP
      have hD : va_D A [(o0, .inl (kA 1, 1, .inr (.inl (fun _ => 0)))), (m0, .inr (11, y0.set 9 (.int 1)))] := hD
      refine lv_istore (lv' := [(6, .int 0), (5, .int 1), (0, .ref b), (1, .ref h0), (2, .ref m0), (3, .ref o0), (4, .int 0)]) hx hb dL_law_1090 hl (by decide) rfl (fun ls hl => ?_)
      refine lv_aload_n hx hb dL_law_1092 rfl (lv_at hl 4 rfl) ?_
      have hPc := hP.sub (ws' := [(m0, .inr (11, y0.set 9 (.int 1)))]) [1] rfl
      have hDc := hD.sub (ws' := [(m0, .inr (11, y0.set 9 (.int 1)))]) [1] (by decide) rfl
      have hFc := va_free (wc := [(m0, .inr (11, y0.set 9 (.int 1)))]) hD hS hA [1] rfl
      refine va_calli (va_runV (As := []) (rest := []) ⟨hx, hb, hml, hown, hts⟩ (a174_X12_thrown l  D kA V H.size m0 (y0.set 9 (.int 1)) (fun k hk => (by rw [List.length_set]; exact (hq k hk))) (List.getElem?_set_self (hq 9 (by decide)))) (cwV 0 hts (gw_V gw_1879 gw_1880 gw_1881 gw_16 gw_1882) rfl rfl rfl (by decide +kernel) ⟨(Nat.le_of_ble_eq_true rfl), (Nat.le_of_ble_eq_true rfl)⟩) ⟨aP.blind, va_recv hK hP (ci := 11) (q0 := 1) rfl rfl, aP.pre hE hS hPc hK hDc hFc⟩ rfl rfl hl.1 rfl (lv_room (Nat.le_of_ble_eq_true rfl)) dL_law_1093 ⟨(Nat.le_of_ble_eq_true rfl), (Nat.le_of_ble_eq_true rfl)⟩) hS (fun q _ h => hFc q h) hFc (fun r_27 u t H1 locs ht hvm hw hB hz1 hk1 hS => ?_)
      obtain ⟨hP1, hD1⟩ := hB
      rw [ht] at hP1
      try dsimp only at hw hP1 hD1
      have w_28 := hw
      subst w_28
      obtain ⟨hP, hD⟩ := va_join (wr := [(o0, .inl (kA 1, 1, .inr (.inl (fun _ => 0))))]) (w1 := [(m0, .inr (11, (y0.set 9 (.int 1))))]) hP hD [1] [0] rfl rfl (by decide) (by decide) hk1 hFc hP1 hD1
      generalize H1 = H at hP hS ⊢
      have hP : va_P D vwCl [(o0, .inl (kA 1, 1, .inr (.inl (fun _ => 0)))), (m0, .inr (11, (y0.set 9 (.int 1))))] H := hP
      have hD : va_D A [(o0, .inl (kA 1, 1, .inr (.inl (fun _ => 0)))), (m0, .inr (11, (y0.set 9 (.int 1))))] := hD
      refine lv_iload hx hb dL_law_1096 (lv_at hl 1 rfl) ?_
      refine lv_icmp_eq (tgt := 1103) hx hb dL_law_1098 (by decide) (fun c_29 => ?_) (fun c_29 => ?_)
      · skip
        refine lv_iload hx hb dL_law_1103 (lv_at hl 1 rfl) ?_
        refine lv_if_ne (tgt := 1120) hx hb dL_law_1105 (by decide) (fun c_30 => ?_) (fun c_30 => ?_)
        · skip
          refine lv_goto (tgt := 1804) hx hb dL_law_1120 (by decide) ?_
          exact lk_tail hC hA2 (lv_sub hl [2, 6] rfl) hS (Nat.le_of_ble_eq_true rfl) (Nat.le_of_ble_eq_true rfl)
        · exact absurd c_30 (by decide)
      · exact absurd (by decide) c_29
    · skip
      subst w_21
      subst w_22
      exact absurd c_3 c_19
    · skip
      subst w_25
      subst w_26
      exact absurd c_3 c_23
  · skip
    subst w_8
    subst w_9
    obtain ⟨hP, hD⟩ := va_join (wr := [(m0, .inr (11, y0))]) (w1 := [(o0, .inl (kA 1, 1, .inr (.inl (fun _ => 0))))]) hP hD [0, 1, 3] [2] rfl rfl (by decide) (by decide) hk1 hFc hP1 hD1
    generalize H1 = H at hP hS ⊢
    have hP : va_P D vwCl [(m0, .inr (11, y0)), (o0, .inl (kA 1, 1, .inr (.inl (fun _ => 0))))] H := hP
    have hD : va_D A [(m0, .inr (11, y0)), (o0, .inl (kA 1, 1, .inr (.inl (fun _ => 0))))] := hD
    refine lv_istore (lv' := [(5, .int 1), (0, .ref b), (1, .ref h0), (2, .ref m0), (3, .ref o0), (4, .int 0)]) hx hb dL_law_1078 hl (by decide) rfl (fun ls hl => ?_)
    refine lv_aload_n hx hb dL_law_1080 rfl (lv_at hl 3 rfl) ?_
    refine lv_aload_n hx hb dL_law_1081 rfl (lv_at hl 1 rfl) ?_
    refine lv_iload hx hb dL_law_1082 (lv_at hl 5 rfl) ?_
    refine lv_iconst (v := 1) hx hb dL_law_1084 (by decide) ?_
    refine lv_iadd hx hb dL_law_1085 ?_
    refine W.eq (g2 := F0 m 1086 ls [.int 1, .ref b, .ref m0]) rfl ?_
    refine va_sld hx hb hX hbl hbA hS (show vp_in 1 8 by unfold vp_in; decide) dL_law_1086 ?_
    refine W.eq (g2 := F0 m 1087 ls [.int (xs 1), .ref m0]) rfl ?_
    have hPc := hP.sub (ws' := [(m0, .inr (11, y0))]) [0] rfl
    have hDc := hD.sub (ws' := [(m0, .inr (11, y0))]) [0] (by decide) rfl
    have hFc := va_free (wc := [(m0, .inr (11, y0))]) hD hS hA [0] rfl
    refine va_calli (va_runV (As := [.int (xs 1)]) (rest := []) ⟨hx, hb, hml, hown, hts⟩ (a143_X12_find l  D kA V H.size m0 (xs 1) y0 (fun k hk => (hq k hk)) hq1 hq9) (cwV 1 hts (gw_V gw_2728 gw_2729 gw_2730 gw_16 gw_2731) rfl rfl rfl (by decide +kernel) ⟨(Nat.le_of_ble_eq_true rfl), (Nat.le_of_ble_eq_true rfl)⟩) ⟨aP.blind, va_recv hK hP (ci := 11) (q0 := 0) rfl rfl, aP.pre hE hS hPc hK hDc hFc⟩ rfl rfl hl.1 rfl (lv_room (Nat.le_of_ble_eq_true rfl)) dL_law_1087 ⟨(Nat.le_of_ble_eq_true rfl), (Nat.le_of_ble_eq_true rfl)⟩) hS (fun q _ h => hFc q h) hFc (fun r_31 u t H1 locs ht hvm hw hB hz1 hk1 hS => ?_)
    obtain ⟨u_32, rfl⟩ : ∃ z, z = u := ⟨u, rfl⟩
    obtain ⟨hP1, hD1⟩ := hB
    rw [ht] at hP1
    try dsimp only at hw hP1 hD1
    rcases hw with ⟨c_33, w_34, w_35⟩ | ⟨c_36, c_37, w_38, w_39⟩ | ⟨c_40, c_41, w_42, w_43⟩
    · skip
      subst w_34
      subst w_35
      exact absurd c_33 c_6
    · skip
      subst w_38
      subst w_39
      obtain ⟨hP, hD⟩ := va_join (wr := [(o0, .inl (kA 1, 1, .inr (.inl (fun _ => 0))))]) (w1 := [(m0, .inr (11, y0.set 9 (.int 1)))]) hP hD [0] [1] rfl rfl (by decide) (by decide) hk1 hFc hP1 hD1
      generalize H1 = H at hP hS ⊢
      have hP : va_P D vwCl [(o0, .inl (kA 1, 1, .inr (.inl (fun _ => 0)))), (m0, .inr (11, y0.set 9 (.int 1)))] H := hP
      have hD : va_D A [(o0, .inl (kA 1, 1, .inr (.inl (fun _ => 0)))), (m0, .inr (11, y0.set 9 (.int 1)))] := hD
      refine lv_istore (lv' := [(6, .int 0), (5, .int 1), (0, .ref b), (1, .ref h0), (2, .ref m0), (3, .ref o0), (4, .int 0)]) hx hb dL_law_1090 hl (by decide) rfl (fun ls hl => ?_)
      refine lv_aload_n hx hb dL_law_1092 rfl (lv_at hl 4 rfl) ?_
      have hPc := hP.sub (ws' := [(m0, .inr (11, y0.set 9 (.int 1)))]) [1] rfl
      have hDc := hD.sub (ws' := [(m0, .inr (11, y0.set 9 (.int 1)))]) [1] (by decide) rfl
      have hFc := va_free (wc := [(m0, .inr (11, y0.set 9 (.int 1)))]) hD hS hA [1] rfl
      refine va_calli (va_runV (As := []) (rest := []) ⟨hx, hb, hml, hown, hts⟩ (a174_X12_thrown l  D kA V H.size m0 (y0.set 9 (.int 1)) (fun k hk => (by rw [List.length_set]; exact (hq k hk))) (List.getElem?_set_self (hq 9 (by decide)))) (cwV 0 hts (gw_V gw_1879 gw_1880 gw_1881 gw_16 gw_1882) rfl rfl rfl (by decide +kernel) ⟨(Nat.le_of_ble_eq_true rfl), (Nat.le_of_ble_eq_true rfl)⟩) ⟨aP.blind, va_recv hK hP (ci := 11) (q0 := 1) rfl rfl, aP.pre hE hS hPc hK hDc hFc⟩ rfl rfl hl.1 rfl (lv_room (Nat.le_of_ble_eq_true rfl)) dL_law_1093 ⟨(Nat.le_of_ble_eq_true rfl), (Nat.le_of_ble_eq_true rfl)⟩) hS (fun q _ h => hFc q h) hFc (fun r_44 u t H1 locs ht hvm hw hB hz1 hk1 hS => ?_)
      obtain ⟨hP1, hD1⟩ := hB
      rw [ht] at hP1
      try dsimp only at hw hP1 hD1
      have w_45 := hw
      subst w_45
      obtain ⟨hP, hD⟩ := va_join (wr := [(o0, .inl (kA 1, 1, .inr (.inl (fun _ => 0))))]) (w1 := [(m0, .inr (11, (y0.set 9 (.int 1))))]) hP hD [1] [0] rfl rfl (by decide) (by decide) hk1 hFc hP1 hD1
      generalize H1 = H at hP hS ⊢
      have hP : va_P D vwCl [(o0, .inl (kA 1, 1, .inr (.inl (fun _ => 0)))), (m0, .inr (11, (y0.set 9 (.int 1))))] H := hP
      have hD : va_D A [(o0, .inl (kA 1, 1, .inr (.inl (fun _ => 0)))), (m0, .inr (11, (y0.set 9 (.int 1))))] := hD
      refine lv_iload hx hb dL_law_1096 (lv_at hl 1 rfl) ?_
      refine lv_icmp_eq (tgt := 1103) hx hb dL_law_1098 (by decide) (fun c_46 => ?_) (fun c_46 => ?_)
      · skip
        refine lv_iload hx hb dL_law_1103 (lv_at hl 1 rfl) ?_
        refine lv_if_ne (tgt := 1120) hx hb dL_law_1105 (by decide) (fun c_47 => ?_) (fun c_47 => ?_)
        · skip
          refine lv_goto (tgt := 1804) hx hb dL_law_1120 (by decide) ?_
          exact lk_tail hC hA2 (lv_sub hl [2, 6] rfl) hS (Nat.le_of_ble_eq_true rfl) (Nat.le_of_ble_eq_true rfl)
        · exact absurd c_47 (by decide)
      · exact absurd (by decide) c_46
    · skip
      subst w_42
      subst w_43
      exact absurd (Int32.not_le.mp c_7) c_41
  · skip
    subst w_12
    subst w_13
    obtain ⟨hP, hD⟩ := va_join (wr := [(m0, .inr (11, y0))]) (w1 := [(o0, .inl (kA 1, 1, .inr (.inl (vp_updL (fun _ => 0) 0 (((-1) : Int32).toInt64)))))]) hP hD [0, 1, 3] [2] rfl rfl (by decide) (by decide) hk1 hFc hP1 hD1
    generalize H1 = H at hP hS ⊢
    have hP : va_P D vwCl [(m0, .inr (11, y0)), (o0, .inl (kA 1, 1, .inr (.inl (vp_updL (fun _ => 0) 0 (((-1) : Int32).toInt64)))))] H := hP
    have hD : va_D A [(m0, .inr (11, y0)), (o0, .inl (kA 1, 1, .inr (.inl (vp_updL (fun _ => 0) 0 (((-1) : Int32).toInt64)))))] := hD
    refine lv_istore (lv' := [(5, .int 0), (0, .ref b), (1, .ref h0), (2, .ref m0), (3, .ref o0), (4, .int 0)]) hx hb dL_law_1078 hl (by decide) rfl (fun ls hl => ?_)
    refine lv_aload_n hx hb dL_law_1080 rfl (lv_at hl 3 rfl) ?_
    refine lv_aload_n hx hb dL_law_1081 rfl (lv_at hl 1 rfl) ?_
    refine lv_iload hx hb dL_law_1082 (lv_at hl 5 rfl) ?_
    refine lv_iconst (v := 1) hx hb dL_law_1084 (by decide) ?_
    refine lv_iadd hx hb dL_law_1085 ?_
    refine W.eq (g2 := F0 m 1086 ls [.int 1, .ref b, .ref m0]) rfl ?_
    refine va_sld hx hb hX hbl hbA hS (show vp_in 1 8 by unfold vp_in; decide) dL_law_1086 ?_
    refine W.eq (g2 := F0 m 1087 ls [.int (xs 1), .ref m0]) rfl ?_
    have hPc := hP.sub (ws' := [(m0, .inr (11, y0))]) [0] rfl
    have hDc := hD.sub (ws' := [(m0, .inr (11, y0))]) [0] (by decide) rfl
    have hFc := va_free (wc := [(m0, .inr (11, y0))]) hD hS hA [0] rfl
    refine va_calli (va_runV (As := [.int (xs 1)]) (rest := []) ⟨hx, hb, hml, hown, hts⟩ (a143_X12_find l  D kA V H.size m0 (xs 1) y0 (fun k hk => (hq k hk)) hq1 hq9) (cwV 1 hts (gw_V gw_2728 gw_2729 gw_2730 gw_16 gw_2731) rfl rfl rfl (by decide +kernel) ⟨(Nat.le_of_ble_eq_true rfl), (Nat.le_of_ble_eq_true rfl)⟩) ⟨aP.blind, va_recv hK hP (ci := 11) (q0 := 0) rfl rfl, aP.pre hE hS hPc hK hDc hFc⟩ rfl rfl hl.1 rfl (lv_room (Nat.le_of_ble_eq_true rfl)) dL_law_1087 ⟨(Nat.le_of_ble_eq_true rfl), (Nat.le_of_ble_eq_true rfl)⟩) hS (fun q _ h => hFc q h) hFc (fun r_48 u t H1 locs ht hvm hw hB hz1 hk1 hS => ?_)
    obtain ⟨u_49, rfl⟩ : ∃ z, z = u := ⟨u, rfl⟩
    obtain ⟨hP1, hD1⟩ := hB
    rw [ht] at hP1
    try dsimp only at hw hP1 hD1
    rcases hw with ⟨c_50, w_51, w_52⟩ | ⟨c_53, c_54, w_55, w_56⟩ | ⟨c_57, c_58, w_59, w_60⟩
    · skip
      subst w_51
      subst w_52
      exact absurd c_50 c_10
    · skip
      subst w_55
      subst w_56
      exact absurd c_54 (Int32.not_lt.mpr c_11)
    · skip
      subst w_59
      subst w_60
      obtain ⟨hP, hD⟩ := va_join (wr := [(o0, .inl (kA 1, 1, .inr (.inl (vp_updL (fun _ => 0) 0 (((-1) : Int32).toInt64)))))]) (w1 := [(m0, .inr (11, y0.set 9 (.int 0)))]) hP hD [0] [1] rfl rfl (by decide) (by decide) hk1 hFc hP1 hD1
      generalize H1 = H at hP hS ⊢
      have hP : va_P D vwCl [(o0, .inl (kA 1, 1, .inr (.inl (vp_updL (fun _ => 0) 0 (((-1) : Int32).toInt64))))), (m0, .inr (11, y0.set 9 (.int 0)))] H := hP
      have hD : va_D A [(o0, .inl (kA 1, 1, .inr (.inl (vp_updL (fun _ => 0) 0 (((-1) : Int32).toInt64))))), (m0, .inr (11, y0.set 9 (.int 0)))] := hD
      refine lv_istore (lv' := [(6, .int (-1)), (5, .int 0), (0, .ref b), (1, .ref h0), (2, .ref m0), (3, .ref o0), (4, .int 0)]) hx hb dL_law_1090 hl (by decide) rfl (fun ls hl => ?_)
      refine lv_aload_n hx hb dL_law_1092 rfl (lv_at hl 4 rfl) ?_
      have hPc := hP.sub (ws' := [(m0, .inr (11, y0.set 9 (.int 0)))]) [1] rfl
      have hDc := hD.sub (ws' := [(m0, .inr (11, y0.set 9 (.int 0)))]) [1] (by decide) rfl
      have hFc := va_free (wc := [(m0, .inr (11, y0.set 9 (.int 0)))]) hD hS hA [1] rfl
      refine va_calli (va_runV (As := []) (rest := []) ⟨hx, hb, hml, hown, hts⟩ (a94_X12_thrown l  D kA V H.size m0 (y0.set 9 (.int 0)) (fun k hk => (by rw [List.length_set]; exact (hq k hk))) (List.getElem?_set_self (hq 9 (by decide)))) (cwV 0 hts (gw_V gw_1879 gw_1880 gw_1881 gw_16 gw_1882) rfl rfl rfl (by decide +kernel) ⟨(Nat.le_of_ble_eq_true rfl), (Nat.le_of_ble_eq_true rfl)⟩) ⟨aP.blind, va_recv hK hP (ci := 11) (q0 := 1) rfl rfl, aP.pre hE hS hPc hK hDc hFc⟩ rfl rfl hl.1 rfl (lv_room (Nat.le_of_ble_eq_true rfl)) dL_law_1093 ⟨(Nat.le_of_ble_eq_true rfl), (Nat.le_of_ble_eq_true rfl)⟩) hS (fun q _ h => hFc q h) hFc (fun r_61 u t H1 locs ht hvm hw hB hz1 hk1 hS => ?_)
      obtain ⟨hP1, hD1⟩ := hB
      rw [ht] at hP1
      try dsimp only at hw hP1 hD1
      have w_62 := hw
      subst w_62
      obtain ⟨hP, hD⟩ := va_join (wr := [(o0, .inl (kA 1, 1, .inr (.inl (vp_updL (fun _ => 0) 0 (((-1) : Int32).toInt64)))))]) (w1 := [(m0, .inr (11, (y0.set 9 (.int 0))))]) hP hD [1] [0] rfl rfl (by decide) (by decide) hk1 hFc hP1 hD1
      generalize H1 = H at hP hS ⊢
      have hP : va_P D vwCl [(o0, .inl (kA 1, 1, .inr (.inl (vp_updL (fun _ => 0) 0 (((-1) : Int32).toInt64))))), (m0, .inr (11, (y0.set 9 (.int 0))))] H := hP
      have hD : va_D A [(o0, .inl (kA 1, 1, .inr (.inl (vp_updL (fun _ => 0) 0 (((-1) : Int32).toInt64))))), (m0, .inr (11, (y0.set 9 (.int 0))))] := hD
      refine lv_iload hx hb dL_law_1096 (lv_at hl 1 rfl) ?_
      refine lv_icmp_eq (tgt := 1103) hx hb dL_law_1098 (by decide) (fun c_63 => ?_) (fun c_63 => ?_)
      · skip
        refine lv_iload hx hb dL_law_1103 (lv_at hl 1 rfl) ?_
        refine lv_if_ne (tgt := 1120) hx hb dL_law_1105 (by decide) (fun c_64 => ?_) (fun c_64 => ?_)
        · exact absurd (by decide) c_64
        · skip
          refine lv_aload_n hx hb dL_law_1108 rfl (lv_at hl 5 rfl) ?_
          refine lv_iconst (v := 0) hx hb dL_law_1109 (by decide) ?_
          refine va_lald hx hb hK hP 0 1 rfl rfl (show vp_in 0 1 by unfold vp_in; decide) dL_law_1110 ?_
          refine W.eq (g2 := F0 m 1111 ls [.long (((-1) : Int32).toInt64)]) rfl ?_
          refine lv_iload hx hb dL_law_1111 (lv_at hl 0 rfl) ?_
          refine lv_i2l (v := ((-1) : Int32).toInt64) hx hb dL_law_1113 rfl ?_
          refine W.lcmp hx hb dL_law_1114 ?_
          refine lv_if_eq (tgt := 1120) hx hb dL_law_1115 (by decide) (fun c_65 => ?_) (fun c_65 => ?_)
          · skip
            refine lv_goto (tgt := 1804) hx hb dL_law_1120 (by decide) ?_
            exact lk_tail hC hA2 (lv_sub hl [2, 6] rfl) hS (Nat.le_of_ble_eq_true rfl) (Nat.le_of_ble_eq_true rfl)
          · exact absurd ((lg_cmp_eq _ _).mpr rfl) c_65
      · exact absurd (by decide) c_63
