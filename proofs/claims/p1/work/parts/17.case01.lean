theorem dL_law_225 : decode cL_law 225 = .ok (.aload_n 1, 1) := by decide +kernel
theorem dL_law_226 : decode cL_law 226 = .ok (.aload_n 0, 1) := by decide +kernel
theorem dL_law_227 : decode cL_law 227 = .ok (.iload 4, 2) := by decide +kernel
theorem dL_law_229 : decode cL_law 229 = .ok (.iconst 1, 1) := by decide +kernel
theorem dL_law_230 : decode cL_law 230 = .ok (.iadd, 1) := by decide +kernel
theorem dL_law_231 : decode cL_law 231 = .ok (.iaload, 1) := by decide +kernel
theorem dL_law_232 : decode cL_law 232 = .ok (.invokevirtual 96, 3) := by decide +kernel
theorem dL_law_235 : decode cL_law 235 = .ok (.aload_n 2, 1) := by decide +kernel
theorem dL_law_236 : decode cL_law 236 = .ok (.aload_n 0, 1) := by decide +kernel
theorem dL_law_237 : decode cL_law 237 = .ok (.iload 4, 2) := by decide +kernel
theorem dL_law_239 : decode cL_law 239 = .ok (.iconst 1, 1) := by decide +kernel
theorem dL_law_240 : decode cL_law 240 = .ok (.iadd, 1) := by decide +kernel
theorem dL_law_241 : decode cL_law 241 = .ok (.iaload, 1) := by decide +kernel
theorem dL_law_242 : decode cL_law 242 = .ok (.invokevirtual 99, 3) := by decide +kernel
theorem dL_law_245 : decode cL_law 245 = .ok (.if_icmp .eq 1559, 3) := by decide +kernel
set_option maxHeartbeats 4000000 in
set_option maxRecDepth 100000 in
theorem lk_1 {p : Program} {l : Launch} {e : Env} {s : State} {m : MethodId} {below : List Frame} {meth : Method} {c : Code} {D : va_G} {kA : Nat → ClassId} {V : Nat → Nat} {b : Nat} {xs : Nat → Int32} {A : Nat → Prop} (hC : lw_C p l s m meth c b 8 xs D kA V A) (hA2 : ∀ q, A q → s.heap.size ≤ q) (h0 : Nat) (m0 : Nat) (o0 : Nat) (x0 : Nat) (x1 : Nat) (x2 : Nat) (x3 : Nat) (x4 : Nat) (x5 : Nat) (x6 : Nat) (x7 : Nat) (x8 : Nat) (y0 : List Value) (hq : ∀ k, k < 121 → k < y0.length) (hq1 : y0[1]? = some (.int 0))  {H : Heap} {locs : List Loc} {ls : Array Slot} (hl : lv_has ls 8 [(0, .ref b), (1, .ref h0), (2, .ref m0), (3, .ref o0), (4, .int 0)]) (hS : va_S A s.heap H locs) (hP : va_P D vwCl [(h0, .inr (10, [.ref x0, .int 0, .ref x1, .ref x2, .ref x3, .ref x4, .ref x5, .ref x6, .ref x7, .ref x8, .int 0, .int 3000])), (m0, .inr (11, y0))] H) (hD : va_D A [(h0, .inr (10, [.ref x0, .int 0, .ref x1, .ref x2, .ref x3, .ref x4, .ref x5, .ref x6, .ref x7, .ref x8, .int 0, .int 3000])), (m0, .inr (11, y0))]) : W p l e room_1 s m #[Value.ref b] below meth c H locs 514 172793 (lw_Z below #[Value.ref b] s) (F0 m 225 ls []) := by
  have ⟨hst, hx, hb, hr, hml, hown, hts, hG, hX, hbl, hbA, hlocks, hE, hK, hA⟩ := hC
  refine lv_aload_n hx hb dL_law_225 rfl (lv_at hl 1 rfl) ?_
  refine lv_aload_n hx hb dL_law_226 rfl (lv_at hl 0 rfl) ?_
  refine lv_iload hx hb dL_law_227 (lv_at hl 4 rfl) ?_
  refine lv_iconst (v := 1) hx hb dL_law_229 (by decide) ?_
  refine lv_iadd hx hb dL_law_230 ?_
  refine W.eq (g2 := F0 m 231 ls [.int 1, .ref b, .ref h0]) rfl ?_
  refine va_sld hx hb hX hbl hbA hS (show vp_in 1 8 by unfold vp_in; decide) dL_law_231 ?_
  refine W.eq (g2 := F0 m 232 ls [.int (xs 1), .ref h0]) rfl ?_
  have hPc := hP.sub (ws' := [(h0, .inr (10, [.ref x0, .int 0, .ref x1, .ref x2, .ref x3, .ref x4, .ref x5, .ref x6, .ref x7, .ref x8, .int 0, .int 3000]))]) [0] rfl
  have hDc := hD.sub (ws' := [(h0, .inr (10, [.ref x0, .int 0, .ref x1, .ref x2, .ref x3, .ref x4, .ref x5, .ref x6, .ref x7, .ref x8, .int 0, .int 3000]))]) [0] (by decide) rfl
  have hFc := va_free (wc := [(h0, .inr (10, [.ref x0, .int 0, .ref x1, .ref x2, .ref x3, .ref x4, .ref x5, .ref x6, .ref x7, .ref x8, .int 0, .int 3000]))]) hD hS hA [0] rfl
  refine va_calli (va_runV (As := [.int (xs 1)]) (rest := []) ⟨hx, hb, hml, hown, hts⟩ (a35_X11_end l  D kA V H.size h0 (xs 1) x0 x1 x2 x3 x4 x5 x6 x7 x8) (cwV 1 hts (gw_V gw_610 gw_611 gw_612 gw_1 gw_613) rfl rfl rfl (by decide +kernel) ⟨(Nat.le_of_ble_eq_true rfl), (Nat.le_of_ble_eq_true rfl)⟩) ⟨aP.blind, va_recv hK hP (ci := 10) (q0 := 0) rfl rfl, aP.pre hE hS hPc hK hDc hFc⟩ rfl rfl hl.1 rfl (lv_room (Nat.le_of_ble_eq_true rfl)) dL_law_232 ⟨(Nat.le_of_ble_eq_true rfl), (Nat.le_of_ble_eq_true rfl)⟩) hS (fun q _ h => hFc q h) hFc (fun r_1 u t H1 locs ht hvm hw hB hz1 hk1 hS => ?_)
  obtain ⟨u_2, rfl⟩ : ∃ z, z = u := ⟨u, rfl⟩
  obtain ⟨hP1, hD1⟩ := hB
  rw [ht] at hP1
  try dsimp only at hw hP1 hD1
  rcases hw with ⟨c_3, w_4, w_5⟩ | ⟨c_6, c_7, w_8, w_9⟩ | ⟨c_10, c_11, w_12, w_13⟩
  · skip
    subst w_4
    subst w_5
    obtain ⟨hP, hD⟩ := va_join (wr := [(m0, .inr (11, y0))]) (w1 := [(h0, .inr (10, [.ref x0, .int 0, .ref x1, .ref x2, .ref x3, .ref x4, .ref x5, .ref x6, .ref x7, .ref x8, .int 0, .int 3000]))]) hP hD [0] [1] rfl rfl (by decide) (by decide) hk1 hFc hP1 hD1
    generalize H1 = H at hP hS ⊢
    have hP : va_P D vwCl [(m0, .inr (11, y0)), (h0, .inr (10, [.ref x0, .int 0, .ref x1, .ref x2, .ref x3, .ref x4, .ref x5, .ref x6, .ref x7, .ref x8, .int 0, .int 3000]))] H := hP
    have hD : va_D A [(m0, .inr (11, y0)), (h0, .inr (10, [.ref x0, .int 0, .ref x1, .ref x2, .ref x3, .ref x4, .ref x5, .ref x6, .ref x7, .ref x8, .int 0, .int 3000]))] := hD
    refine lv_aload_n hx hb dL_law_235 rfl (lv_at hl 2 rfl) ?_
    refine lv_aload_n hx hb dL_law_236 rfl (lv_at hl 0 rfl) ?_
    refine lv_iload hx hb dL_law_237 (lv_at hl 4 rfl) ?_
    refine lv_iconst (v := 1) hx hb dL_law_239 (by decide) ?_
    refine lv_iadd hx hb dL_law_240 ?_
    refine W.eq (g2 := F0 m 241 ls [.int 1, .ref b, .ref m0, .int 0]) rfl ?_
    refine va_sld hx hb hX hbl hbA hS (show vp_in 1 8 by unfold vp_in; decide) dL_law_241 ?_
    refine W.eq (g2 := F0 m 242 ls [.int (xs 1), .ref m0, .int 0]) rfl ?_
    have hPc := hP.sub (ws' := [(m0, .inr (11, y0))]) [0] rfl
    have hDc := hD.sub (ws' := [(m0, .inr (11, y0))]) [0] (by decide) rfl
    have hFc := va_free (wc := [(m0, .inr (11, y0))]) hD hS hA [0] rfl
    refine va_calli (va_runV (As := [.int (xs 1)]) (rest := [.int 0]) ⟨hx, hb, hml, hown, hts⟩ (a96_X12_end l  D kA V H.size m0 (xs 1) y0 (fun k hk => (hq k hk)) hq1) (cwV 1 hts (gw_V gw_2258 gw_2259 gw_2260 gw_16 gw_2261) rfl rfl rfl (by decide +kernel) ⟨(Nat.le_of_ble_eq_true rfl), (Nat.le_of_ble_eq_true rfl)⟩) ⟨aP.blind, va_recv hK hP (ci := 11) (q0 := 0) rfl rfl, aP.pre hE hS hPc hK hDc hFc⟩ rfl rfl hl.1 rfl (lv_room (Nat.le_of_ble_eq_true rfl)) dL_law_242 ⟨(Nat.le_of_ble_eq_true rfl), (Nat.le_of_ble_eq_true rfl)⟩) hS (fun q _ h => hFc q h) hFc (fun r_14 u t H1 locs ht hvm hw hB hz1 hk1 hS => ?_)
    obtain ⟨u_15, rfl⟩ : ∃ z, z = u := ⟨u, rfl⟩
    obtain ⟨hP1, hD1⟩ := hB
    rw [ht] at hP1
    try dsimp only at hw hP1 hD1
    rcases hw with ⟨c_16, w_17, w_18⟩ | ⟨c_19, c_20, w_21, w_22⟩ | ⟨c_23, c_24, w_25, w_26⟩
    · skip
      subst w_17
      subst w_18
      obtain ⟨hP, hD⟩ := va_join (wr := [(h0, .inr (10, [.ref x0, .int 0, .ref x1, .ref x2, .ref x3, .ref x4, .ref x5, .ref x6, .ref x7, .ref x8, .int 0, .int 3000]))]) (w1 := [(m0, .inr (11, y0.set 9 (.int 0)))]) hP hD [0] [1] rfl rfl (by decide) (by decide) hk1 hFc hP1 hD1
      generalize H1 = H at hP hS ⊢
      have hP : va_P D vwCl [(h0, .inr (10, [.ref x0, .int 0, .ref x1, .ref x2, .ref x3, .ref x4, .ref x5, .ref x6, .ref x7, .ref x8, .int 0, .int 3000])), (m0, .inr (11, y0.set 9 (.int 0)))] H := hP
      have hD : va_D A [(h0, .inr (10, [.ref x0, .int 0, .ref x1, .ref x2, .ref x3, .ref x4, .ref x5, .ref x6, .ref x7, .ref x8, .int 0, .int 3000])), (m0, .inr (11, y0.set 9 (.int 0)))] := hD
      refine lv_icmp_eq (tgt := 1804) hx hb dL_law_245 (by decide) (fun c_27 => ?_) (fun c_27 => ?_)
      · skip
        exact lk_tail hC hA2 (lv_sub hl [0, 4] rfl) hS (Nat.le_of_ble_eq_true rfl) (Nat.le_of_ble_eq_true rfl)
      · exact absurd (by decide) c_27
    · skip
      subst w_21
      subst w_22
      exact absurd c_3 c_19
    · skip
      subst w_25
      subst w_26
      exact absurd c_3 c_23
  · skip
    subst w_8
    subst w_9
    obtain ⟨hP, hD⟩ := va_join (wr := [(m0, .inr (11, y0))]) (w1 := [(h0, .inr (10, [.ref x0, .int (xs 1), .ref x1, .ref x2, .ref x3, .ref x4, .ref x5, .ref x6, .ref x7, .ref x8, .int 0, .int 3000]))]) hP hD [0] [1] rfl rfl (by decide) (by decide) hk1 hFc hP1 hD1
    generalize H1 = H at hP hS ⊢
    have hP : va_P D vwCl [(m0, .inr (11, y0)), (h0, .inr (10, [.ref x0, .int (xs 1), .ref x1, .ref x2, .ref x3, .ref x4, .ref x5, .ref x6, .ref x7, .ref x8, .int 0, .int 3000]))] H := hP
    have hD : va_D A [(m0, .inr (11, y0)), (h0, .inr (10, [.ref x0, .int (xs 1), .ref x1, .ref x2, .ref x3, .ref x4, .ref x5, .ref x6, .ref x7, .ref x8, .int 0, .int 3000]))] := hD
    refine lv_aload_n hx hb dL_law_235 rfl (lv_at hl 2 rfl) ?_
    refine lv_aload_n hx hb dL_law_236 rfl (lv_at hl 0 rfl) ?_
    refine lv_iload hx hb dL_law_237 (lv_at hl 4 rfl) ?_
    refine lv_iconst (v := 1) hx hb dL_law_239 (by decide) ?_
    refine lv_iadd hx hb dL_law_240 ?_
    refine W.eq (g2 := F0 m 241 ls [.int 1, .ref b, .ref m0, .int 1]) rfl ?_
    refine va_sld hx hb hX hbl hbA hS (show vp_in 1 8 by unfold vp_in; decide) dL_law_241 ?_
    refine W.eq (g2 := F0 m 242 ls [.int (xs 1), .ref m0, .int 1]) rfl ?_
    have hPc := hP.sub (ws' := [(m0, .inr (11, y0))]) [0] rfl
    have hDc := hD.sub (ws' := [(m0, .inr (11, y0))]) [0] (by decide) rfl
    have hFc := va_free (wc := [(m0, .inr (11, y0))]) hD hS hA [0] rfl
    refine va_calli (va_runV (As := [.int (xs 1)]) (rest := [.int 1]) ⟨hx, hb, hml, hown, hts⟩ (a96_X12_end l  D kA V H.size m0 (xs 1) y0 (fun k hk => (hq k hk)) hq1) (cwV 1 hts (gw_V gw_2258 gw_2259 gw_2260 gw_16 gw_2261) rfl rfl rfl (by decide +kernel) ⟨(Nat.le_of_ble_eq_true rfl), (Nat.le_of_ble_eq_true rfl)⟩) ⟨aP.blind, va_recv hK hP (ci := 11) (q0 := 0) rfl rfl, aP.pre hE hS hPc hK hDc hFc⟩ rfl rfl hl.1 rfl (lv_room (Nat.le_of_ble_eq_true rfl)) dL_law_242 ⟨(Nat.le_of_ble_eq_true rfl), (Nat.le_of_ble_eq_true rfl)⟩) hS (fun q _ h => hFc q h) hFc (fun r_28 u t H1 locs ht hvm hw hB hz1 hk1 hS => ?_)
    obtain ⟨u_29, rfl⟩ : ∃ z, z = u := ⟨u, rfl⟩
    obtain ⟨hP1, hD1⟩ := hB
    rw [ht] at hP1
    try dsimp only at hw hP1 hD1
    rcases hw with ⟨c_30, w_31, w_32⟩ | ⟨c_33, c_34, w_35, w_36⟩ | ⟨c_37, c_38, w_39, w_40⟩
    · skip
      subst w_31
      subst w_32
      exact absurd c_30 c_6
    · skip
      subst w_35
      subst w_36
      obtain ⟨hP, hD⟩ := va_join (wr := [(h0, .inr (10, [.ref x0, .int (xs 1), .ref x1, .ref x2, .ref x3, .ref x4, .ref x5, .ref x6, .ref x7, .ref x8, .int 0, .int 3000]))]) (w1 := [(m0, .inr (11, (y0.set 9 (.int 0)).set 1 (.int (xs 1))))]) hP hD [0] [1] rfl rfl (by decide) (by decide) hk1 hFc hP1 hD1
      generalize H1 = H at hP hS ⊢
      have hP : va_P D vwCl [(h0, .inr (10, [.ref x0, .int (xs 1), .ref x1, .ref x2, .ref x3, .ref x4, .ref x5, .ref x6, .ref x7, .ref x8, .int 0, .int 3000])), (m0, .inr (11, (y0.set 9 (.int 0)).set 1 (.int (xs 1))))] H := hP
      have hD : va_D A [(h0, .inr (10, [.ref x0, .int (xs 1), .ref x1, .ref x2, .ref x3, .ref x4, .ref x5, .ref x6, .ref x7, .ref x8, .int 0, .int 3000])), (m0, .inr (11, (y0.set 9 (.int 0)).set 1 (.int (xs 1))))] := hD
      refine lv_icmp_eq (tgt := 1804) hx hb dL_law_245 (by decide) (fun c_41 => ?_) (fun c_41 => ?_)
      · skip
        exact lk_tail hC hA2 (lv_sub hl [0, 4] rfl) hS (Nat.le_of_ble_eq_true rfl) (Nat.le_of_ble_eq_true rfl)
      · exact absurd (by decide) c_41
    · skip
      subst w_39
      subst w_40
      exact absurd c_7 c_38
  · skip
    subst w_12
    subst w_13
    obtain ⟨hP, hD⟩ := va_join (wr := [(m0, .inr (11, y0))]) (w1 := [(h0, .inr (10, [.ref x0, .int 0, .ref x1, .ref x2, .ref x3, .ref x4, .ref x5, .ref x6, .ref x7, .ref x8, .int 0, .int 3000]))]) hP hD [0] [1] rfl rfl (by decide) (by decide) hk1 hFc hP1 hD1
    generalize H1 = H at hP hS ⊢
    have hP : va_P D vwCl [(m0, .inr (11, y0)), (h0, .inr (10, [.ref x0, .int 0, .ref x1, .ref x2, .ref x3, .ref x4, .ref x5, .ref x6, .ref x7, .ref x8, .int 0, .int 3000]))] H := hP
    have hD : va_D A [(m0, .inr (11, y0)), (h0, .inr (10, [.ref x0, .int 0, .ref x1, .ref x2, .ref x3, .ref x4, .ref x5, .ref x6, .ref x7, .ref x8, .int 0, .int 3000]))] := hD
    refine lv_aload_n hx hb dL_law_235 rfl (lv_at hl 2 rfl) ?_
    refine lv_aload_n hx hb dL_law_236 rfl (lv_at hl 0 rfl) ?_
    refine lv_iload hx hb dL_law_237 (lv_at hl 4 rfl) ?_
    refine lv_iconst (v := 1) hx hb dL_law_239 (by decide) ?_
    refine lv_iadd hx hb dL_law_240 ?_
    refine W.eq (g2 := F0 m 241 ls [.int 1, .ref b, .ref m0, .int 0]) rfl ?_
    refine va_sld hx hb hX hbl hbA hS (show vp_in 1 8 by unfold vp_in; decide) dL_law_241 ?_
    refine W.eq (g2 := F0 m 242 ls [.int (xs 1), .ref m0, .int 0]) rfl ?_
    have hPc := hP.sub (ws' := [(m0, .inr (11, y0))]) [0] rfl
    have hDc := hD.sub (ws' := [(m0, .inr (11, y0))]) [0] (by decide) rfl
    have hFc := va_free (wc := [(m0, .inr (11, y0))]) hD hS hA [0] rfl
    refine va_calli (va_runV (As := [.int (xs 1)]) (rest := [.int 0]) ⟨hx, hb, hml, hown, hts⟩ (a96_X12_end l  D kA V H.size m0 (xs 1) y0 (fun k hk => (hq k hk)) hq1) (cwV 1 hts (gw_V gw_2258 gw_2259 gw_2260 gw_16 gw_2261) rfl rfl rfl (by decide +kernel) ⟨(Nat.le_of_ble_eq_true rfl), (Nat.le_of_ble_eq_true rfl)⟩) ⟨aP.blind, va_recv hK hP (ci := 11) (q0 := 0) rfl rfl, aP.pre hE hS hPc hK hDc hFc⟩ rfl rfl hl.1 rfl (lv_room (Nat.le_of_ble_eq_true rfl)) dL_law_242 ⟨(Nat.le_of_ble_eq_true rfl), (Nat.le_of_ble_eq_true rfl)⟩) hS (fun q _ h => hFc q h) hFc (fun r_42 u t H1 locs ht hvm hw hB hz1 hk1 hS => ?_)
    obtain ⟨u_43, rfl⟩ : ∃ z, z = u := ⟨u, rfl⟩
    obtain ⟨hP1, hD1⟩ := hB
    rw [ht] at hP1
    try dsimp only at hw hP1 hD1
    rcases hw with ⟨c_44, w_45, w_46⟩ | ⟨c_47, c_48, w_49, w_50⟩ | ⟨c_51, c_52, w_53, w_54⟩
    · skip
      subst w_45
      subst w_46
      exact absurd c_44 c_10
    · skip
      subst w_49
      subst w_50
      exact absurd c_48 c_11
    · skip
      subst w_53
      subst w_54
      obtain ⟨hP, hD⟩ := va_join (wr := [(h0, .inr (10, [.ref x0, .int 0, .ref x1, .ref x2, .ref x3, .ref x4, .ref x5, .ref x6, .ref x7, .ref x8, .int 0, .int 3000]))]) (w1 := [(m0, .inr (11, y0.set 9 (.int 0)))]) hP hD [0] [1] rfl rfl (by decide) (by decide) hk1 hFc hP1 hD1
      generalize H1 = H at hP hS ⊢
      have hP : va_P D vwCl [(h0, .inr (10, [.ref x0, .int 0, .ref x1, .ref x2, .ref x3, .ref x4, .ref x5, .ref x6, .ref x7, .ref x8, .int 0, .int 3000])), (m0, .inr (11, y0.set 9 (.int 0)))] H := hP
      have hD : va_D A [(h0, .inr (10, [.ref x0, .int 0, .ref x1, .ref x2, .ref x3, .ref x4, .ref x5, .ref x6, .ref x7, .ref x8, .int 0, .int 3000])), (m0, .inr (11, y0.set 9 (.int 0)))] := hD
      refine lv_icmp_eq (tgt := 1804) hx hb dL_law_245 (by decide) (fun c_55 => ?_) (fun c_55 => ?_)
      · skip
        exact lk_tail hC hA2 (lv_sub hl [0, 4] rfl) hS (Nat.le_of_ble_eq_true rfl) (Nat.le_of_ble_eq_true rfl)
      · exact absurd (by decide) c_55
