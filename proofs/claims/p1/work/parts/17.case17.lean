theorem dL_law_1123 : decode cL_law 1123 = .ok (.aload_n 1, 1) := by decide +kernel
theorem dL_law_1124 : decode cL_law 1124 = .ok (.aload_n 0, 1) := by decide +kernel
theorem dL_law_1125 : decode cL_law 1125 = .ok (.iload 4, 2) := by decide +kernel
theorem dL_law_1127 : decode cL_law 1127 = .ok (.iconst 1, 1) := by decide +kernel
theorem dL_law_1128 : decode cL_law 1128 = .ok (.iadd, 1) := by decide +kernel
theorem dL_law_1129 : decode cL_law 1129 = .ok (.iaload, 1) := by decide +kernel
theorem dL_law_1130 : decode cL_law 1130 = .ok (.aload_n 0, 1) := by decide +kernel
theorem dL_law_1131 : decode cL_law 1131 = .ok (.iload 4, 2) := by decide +kernel
theorem dL_law_1133 : decode cL_law 1133 = .ok (.iconst 2, 1) := by decide +kernel
theorem dL_law_1134 : decode cL_law 1134 = .ok (.iadd, 1) := by decide +kernel
theorem dL_law_1135 : decode cL_law 1135 = .ok (.iaload, 1) := by decide +kernel
theorem dL_law_1136 : decode cL_law 1136 = .ok (.aload_n 0, 1) := by decide +kernel
theorem dL_law_1137 : decode cL_law 1137 = .ok (.iload 4, 2) := by decide +kernel
theorem dL_law_1139 : decode cL_law 1139 = .ok (.iconst 3, 1) := by decide +kernel
theorem dL_law_1140 : decode cL_law 1140 = .ok (.iadd, 1) := by decide +kernel
theorem dL_law_1141 : decode cL_law 1141 = .ok (.iaload, 1) := by decide +kernel
theorem dL_law_1142 : decode cL_law 1142 = .ok (.ifCond .eq 7, 3) := by decide +kernel
theorem dL_law_1145 : decode cL_law 1145 = .ok (.iconst 1, 1) := by decide +kernel
theorem dL_law_1146 : decode cL_law 1146 = .ok (.goto 4, 3) := by decide +kernel
theorem dL_law_1149 : decode cL_law 1149 = .ok (.iconst 0, 1) := by decide +kernel
theorem dL_law_1150 : decode cL_law 1150 = .ok (.aload_n 3, 1) := by decide +kernel
theorem dL_law_1151 : decode cL_law 1151 = .ok (.invokestatic 164, 3) := by decide +kernel
theorem dL_law_1154 : decode cL_law 1154 = .ok (.istore 5, 2) := by decide +kernel
theorem dL_law_1156 : decode cL_law 1156 = .ok (.aload_n 2, 1) := by decide +kernel
theorem dL_law_1157 : decode cL_law 1157 = .ok (.aload_n 0, 1) := by decide +kernel
theorem dL_law_1158 : decode cL_law 1158 = .ok (.iload 4, 2) := by decide +kernel
theorem dL_law_1160 : decode cL_law 1160 = .ok (.iconst 1, 1) := by decide +kernel
theorem dL_law_1161 : decode cL_law 1161 = .ok (.iadd, 1) := by decide +kernel
theorem dL_law_1162 : decode cL_law 1162 = .ok (.iaload, 1) := by decide +kernel
theorem dL_law_1163 : decode cL_law 1163 = .ok (.aload_n 0, 1) := by decide +kernel
theorem dL_law_1164 : decode cL_law 1164 = .ok (.iload 4, 2) := by decide +kernel
theorem dL_law_1166 : decode cL_law 1166 = .ok (.iconst 2, 1) := by decide +kernel
theorem dL_law_1167 : decode cL_law 1167 = .ok (.iadd, 1) := by decide +kernel
theorem dL_law_1168 : decode cL_law 1168 = .ok (.iaload, 1) := by decide +kernel
theorem dL_law_1169 : decode cL_law 1169 = .ok (.aload_n 0, 1) := by decide +kernel
theorem dL_law_1170 : decode cL_law 1170 = .ok (.iload 4, 2) := by decide +kernel
theorem dL_law_1172 : decode cL_law 1172 = .ok (.iconst 3, 1) := by decide +kernel
theorem dL_law_1173 : decode cL_law 1173 = .ok (.iadd, 1) := by decide +kernel
theorem dL_law_1174 : decode cL_law 1174 = .ok (.iaload, 1) := by decide +kernel
theorem dL_law_1175 : decode cL_law 1175 = .ok (.ifCond .eq 7, 3) := by decide +kernel
theorem dL_law_1178 : decode cL_law 1178 = .ok (.iconst 1, 1) := by decide +kernel
theorem dL_law_1179 : decode cL_law 1179 = .ok (.goto 4, 3) := by decide +kernel
theorem dL_law_1182 : decode cL_law 1182 = .ok (.iconst 0, 1) := by decide +kernel
theorem dL_law_1183 : decode cL_law 1183 = .ok (.invokevirtual 167, 3) := by decide +kernel
theorem dL_law_1186 : decode cL_law 1186 = .ok (.istore 6, 2) := by decide +kernel
theorem dL_law_1188 : decode cL_law 1188 = .ok (.aload_n 2, 1) := by decide +kernel
theorem dL_law_1189 : decode cL_law 1189 = .ok (.invokevirtual 116, 3) := by decide +kernel
theorem dL_law_1192 : decode cL_law 1192 = .ok (.iload 5, 2) := by decide +kernel
theorem dL_law_1194 : decode cL_law 1194 = .ok (.if_icmp .eq 5, 3) := by decide +kernel
theorem dL_law_1199 : decode cL_law 1199 = .ok (.iload 5, 2) := by decide +kernel
theorem dL_law_1201 : decode cL_law 1201 = .ok (.ifCond .ne 22, 3) := by decide +kernel
theorem dL_law_1223 : decode cL_law 1223 = .ok (.goto 581, 3) := by decide +kernel
set_option maxHeartbeats 4000000 in
set_option maxRecDepth 100000 in
theorem lk_17 {p : Program} {l : Launch} {e : Env} {s : State} {m : MethodId} {below : List Frame} {meth : Method} {c : Code} {D : va_G} {kA : Nat → ClassId} {V : Nat → Nat} {b : Nat} {xs : Nat → Int32} {A : Nat → Prop} (hC : lw_C p l s m meth c b 8 xs D kA V A) (hA2 : ∀ q, A q → s.heap.size ≤ q) (h0 : Nat) (m0 : Nat) (o0 : Nat) (x0 : Nat) (x1 : Nat) (x2 : Nat) (x3 : Nat) (x4 : Nat) (x5 : Nat) (x6 : Nat) (x7 : Nat) (x8 : Nat) (x33 : Nat) (x34 : Nat) (x35 : Nat) (x36 : Nat) (x37 : Nat) (x38 : Nat) (x39 : Nat) (x40 : Nat) (x41 : Nat) (x42 : Nat) (x43 : Nat) (x44 : Nat) (y0 : List Value) (y4 : Nat) (hq : ∀ k, k < 121 → k < y0.length) (hq9 : y0[9]? = some (.int 0)) (hq19 : y0[19]? = some (.ref y4)) (hq55 : y0[55]? = some (.int 0))  {H : Heap} {locs : List Loc} {ls : Array Slot} (hl : lv_has ls 8 [(0, .ref b), (1, .ref h0), (2, .ref m0), (3, .ref o0), (4, .int 0)]) (hS : va_S A s.heap H locs) (hP : va_P D vwCl [(h0, .inr (10, [.ref x0, .int 0, .ref x1, .ref x2, .ref x3, .ref x4, .ref x5, .ref x6, .ref x7, .ref x8, .int 0, .int 3000])), (x7, .inr (5, [.ref x33, .ref x34, .ref x35, .ref x36, .ref x37, .ref x38, .ref x39, .ref x40, .ref x41, .ref x42, .ref x43, .ref x44, .int 0, .int 0, .int 0, .int (-1)])), (x37, .inl (kA 0, 5, .inl (fun _ => 0))), (m0, .inr (11, y0)), (y4, .inl (kA 0, 2, .inl (fun _ => 0)))] H) (hD : va_D A [(h0, .inr (10, [.ref x0, .int 0, .ref x1, .ref x2, .ref x3, .ref x4, .ref x5, .ref x6, .ref x7, .ref x8, .int 0, .int 3000])), (x7, .inr (5, [.ref x33, .ref x34, .ref x35, .ref x36, .ref x37, .ref x38, .ref x39, .ref x40, .ref x41, .ref x42, .ref x43, .ref x44, .int 0, .int 0, .int 0, .int (-1)])), (x37, .inl (kA 0, 5, .inl (fun _ => 0))), (m0, .inr (11, y0)), (y4, .inl (kA 0, 2, .inl (fun _ => 0)))]) : W p l e room_1 s m #[Value.ref b] below meth c H locs 514 172793 (lw_Z below #[Value.ref b] s) (F0 m 1123 ls []) := by
  have ⟨hst, hx, hb, hr, hml, hown, hts, hG, hX, hbl, hbA, hlocks, hE, hK, hA⟩ := hC
  refine lv_aload_n hx hb dL_law_1123 rfl (lv_at hl 1 rfl) ?_
  refine lv_aload_n hx hb dL_law_1124 rfl (lv_at hl 0 rfl) ?_
  refine lv_iload hx hb dL_law_1125 (lv_at hl 4 rfl) ?_
  refine lv_iconst (v := 1) hx hb dL_law_1127 (by decide) ?_
  refine lv_iadd hx hb dL_law_1128 ?_
  refine W.eq (g2 := F0 m 1129 ls [.int 1, .ref b, .ref h0]) rfl ?_
  refine va_sld hx hb hX hbl hbA hS (show vp_in 1 8 by unfold vp_in; decide) dL_law_1129 ?_
  refine W.eq (g2 := F0 m 1130 ls [.int (xs 1), .ref h0]) rfl ?_
  refine lv_aload_n hx hb dL_law_1130 rfl (lv_at hl 0 rfl) ?_
  refine lv_iload hx hb dL_law_1131 (lv_at hl 4 rfl) ?_
  refine lv_iconst (v := 2) hx hb dL_law_1133 (by decide) ?_
  refine lv_iadd hx hb dL_law_1134 ?_
  refine W.eq (g2 := F0 m 1135 ls [.int 2, .ref b, .int (xs 1), .ref h0]) rfl ?_
  refine va_sld hx hb hX hbl hbA hS (show vp_in 2 8 by unfold vp_in; decide) dL_law_1135 ?_
  refine W.eq (g2 := F0 m 1136 ls [.int (xs 2), .int (xs 1), .ref h0]) rfl ?_
  refine lv_aload_n hx hb dL_law_1136 rfl (lv_at hl 0 rfl) ?_
  refine lv_iload hx hb dL_law_1137 (lv_at hl 4 rfl) ?_
  refine lv_iconst (v := 3) hx hb dL_law_1139 (by decide) ?_
  refine lv_iadd hx hb dL_law_1140 ?_
  refine W.eq (g2 := F0 m 1141 ls [.int 3, .ref b, .int (xs 2), .int (xs 1), .ref h0]) rfl ?_
  refine va_sld hx hb hX hbl hbA hS (show vp_in 3 8 by unfold vp_in; decide) dL_law_1141 ?_
  refine W.eq (g2 := F0 m 1142 ls [.int (xs 3), .int (xs 2), .int (xs 1), .ref h0]) rfl ?_
  refine lv_if_eq (tgt := 1149) hx hb dL_law_1142 (by decide) (fun c_1 => ?_) (fun c_1 => ?_)
  · skip
    refine lv_iconst (v := 0) hx hb dL_law_1149 (by decide) ?_
    refine lv_aload_n hx hb dL_law_1150 rfl (lv_at hl 3 rfl) ?_
    have hPc := hP.sub (ws' := [(h0, .inr (10, [.ref x0, .int 0, .ref x1, .ref x2, .ref x3, .ref x4, .ref x5, .ref x6, .ref x7, .ref x8, .int 0, .int 3000])), (x7, .inr (5, [.ref x33, .ref x34, .ref x35, .ref x36, .ref x37, .ref x38, .ref x39, .ref x40, .ref x41, .ref x42, .ref x43, .ref x44, .int 0, .int 0, .int 0, .int (-1)])), (x37, .inl (kA 0, 5, .inl (fun _ => 0)))]) [0, 1, 2] rfl
    have hDc := hD.sub (ws' := [(h0, .inr (10, [.ref x0, .int 0, .ref x1, .ref x2, .ref x3, .ref x4, .ref x5, .ref x6, .ref x7, .ref x8, .int 0, .int 3000])), (x7, .inr (5, [.ref x33, .ref x34, .ref x35, .ref x36, .ref x37, .ref x38, .ref x39, .ref x40, .ref x41, .ref x42, .ref x43, .ref x44, .int 0, .int 0, .int 0, .int (-1)])), (x37, .inl (kA 0, 5, .inl (fun _ => 0)))]) [0, 1, 2] (by decide) rfl
    have hFc := va_free (wc := [(h0, .inr (10, [.ref x0, .int 0, .ref x1, .ref x2, .ref x3, .ref x4, .ref x5, .ref x6, .ref x7, .ref x8, .int 0, .int 3000])), (x7, .inr (5, [.ref x33, .ref x34, .ref x35, .ref x36, .ref x37, .ref x38, .ref x39, .ref x40, .ref x41, .ref x42, .ref x43, .ref x44, .int 0, .int 0, .int 0, .int (-1)])), (x37, .inl (kA 0, 5, .inl (fun _ => 0)))]) hD hS hA [0, 1, 2] rfl
    refine va_calli (vx_runSW (As := [.ref h0, .int (xs 1), .int (xs 2), .int 0, .ref o0]) (rest := []) ⟨hx, hb, hml, hown, hts⟩ (a168_L_trace l hst D kA V H.size h0 (xs 1) (xs 2) 0 o0 x0 x1 x2 x3 x4 x5 x6 x7 x8 x33 x34 x35 x36 x37 x38 x39 x40 x41 x42 x43 x44) (vx_cwSW 5 hts (gw_SW gw_1783 gw_1784 gw_0 gw_1785) rfl rfl rfl (by decide +kernel) ⟨(Nat.le_of_ble_eq_true rfl), (Nat.le_of_ble_eq_true rfl)⟩) ⟨aP.blind, aP.pre hE hS hPc hK hDc hFc⟩ rfl rfl hl.1 rfl (lv_room (Nat.le_of_ble_eq_true rfl)) dL_law_1151 ⟨(Nat.le_of_ble_eq_true rfl), (Nat.le_of_ble_eq_true rfl)⟩) hS (fun q _ h => hFc q h) hFc (fun r_2 u t H1 locs ht hvm hw hB hz1 hk1 hS => ?_)
    obtain ⟨hP1, hD1⟩ := hB
    rw [ht] at hP1
    try dsimp only at hw hP1 hD1
    rcases hw with ⟨c_3, w_4⟩ | ⟨c_5, c_6, w_7⟩
    · skip
      subst w_4
      obtain ⟨hP, hD⟩ := va_join (wr := [(m0, .inr (11, y0)), (y4, .inl (kA 0, 2, .inl (fun _ => 0)))]) (w1 := []) hP hD [0, 1, 2] [3, 4] rfl rfl (by decide) (by decide) hk1 hFc hP1 hD1
      generalize H1 = H at hP hS ⊢
      have hP : va_P D vwCl [(m0, .inr (11, y0)), (y4, .inl (kA 0, 2, .inl (fun _ => 0)))] H := hP
      have hD : va_D A [(m0, .inr (11, y0)), (y4, .inl (kA 0, 2, .inl (fun _ => 0)))] := hD
      refine lv_istore (lv' := [(5, .int 1), (0, .ref b), (1, .ref h0), (2, .ref m0), (3, .ref o0), (4, .int 0)]) hx hb dL_law_1154 hl (by decide) rfl (fun ls hl => ?_)
      refine lv_aload_n hx hb dL_law_1156 rfl (lv_at hl 3 rfl) ?_
      refine lv_aload_n hx hb dL_law_1157 rfl (lv_at hl 1 rfl) ?_
      refine lv_iload hx hb dL_law_1158 (lv_at hl 5 rfl) ?_
      refine lv_iconst (v := 1) hx hb dL_law_1160 (by decide) ?_
      refine lv_iadd hx hb dL_law_1161 ?_
      refine W.eq (g2 := F0 m 1162 ls [.int 1, .ref b, .ref m0]) rfl ?_
      refine va_sld hx hb hX hbl hbA hS (show vp_in 1 8 by unfold vp_in; decide) dL_law_1162 ?_
      refine W.eq (g2 := F0 m 1163 ls [.int (xs 1), .ref m0]) rfl ?_
      refine lv_aload_n hx hb dL_law_1163 rfl (lv_at hl 1 rfl) ?_
      refine lv_iload hx hb dL_law_1164 (lv_at hl 5 rfl) ?_
      refine lv_iconst (v := 2) hx hb dL_law_1166 (by decide) ?_
      refine lv_iadd hx hb dL_law_1167 ?_
      refine W.eq (g2 := F0 m 1168 ls [.int 2, .ref b, .int (xs 1), .ref m0]) rfl ?_
      refine va_sld hx hb hX hbl hbA hS (show vp_in 2 8 by unfold vp_in; decide) dL_law_1168 ?_
      refine W.eq (g2 := F0 m 1169 ls [.int (xs 2), .int (xs 1), .ref m0]) rfl ?_
      refine lv_aload_n hx hb dL_law_1169 rfl (lv_at hl 1 rfl) ?_
      refine lv_iload hx hb dL_law_1170 (lv_at hl 5 rfl) ?_
      refine lv_iconst (v := 3) hx hb dL_law_1172 (by decide) ?_
      refine lv_iadd hx hb dL_law_1173 ?_
      refine W.eq (g2 := F0 m 1174 ls [.int 3, .ref b, .int (xs 2), .int (xs 1), .ref m0]) rfl ?_
      refine va_sld hx hb hX hbl hbA hS (show vp_in 3 8 by unfold vp_in; decide) dL_law_1174 ?_
      refine W.eq (g2 := F0 m 1175 ls [.int (xs 3), .int (xs 2), .int (xs 1), .ref m0]) rfl ?_
      refine lv_if_eq (tgt := 1182) hx hb dL_law_1175 (by decide) (fun c_8 => ?_) (fun c_8 => ?_)
      · skip
        refine lv_iconst (v := 0) hx hb dL_law_1182 (by decide) ?_
        have hPc := hP.sub (ws' := [(m0, .inr (11, y0)), (y4, .inl (kA 0, 2, .inl (fun _ => 0)))]) [0, 1] rfl
        have hDc := hD.sub (ws' := [(m0, .inr (11, y0)), (y4, .inl (kA 0, 2, .inl (fun _ => 0)))]) [0, 1] (by decide) rfl
        have hFc := va_free (wc := [(m0, .inr (11, y0)), (y4, .inl (kA 0, 2, .inl (fun _ => 0)))]) hD hS hA [0, 1] rfl
        refine va_calli (va_runV (As := [.int (xs 1), .int (xs 2), .int 0]) (rest := []) ⟨hx, hb, hml, hown, hts⟩ (a144_X12_trace l  D kA V H.size m0 (xs 1) (xs 2) 0 y4 y0 (fun k hk => (hq k hk)) hq9 hq19 hq55) (cwV 3 hts (gw_V gw_2732 gw_2733 gw_2734 gw_16 gw_2735) rfl rfl rfl (by decide +kernel) ⟨(Nat.le_of_ble_eq_true rfl), (Nat.le_of_ble_eq_true rfl)⟩) ⟨aP.blind, va_recv hK hP (ci := 11) (q0 := 0) rfl rfl, aP.pre hE hS hPc hK hDc hFc⟩ rfl rfl hl.1 rfl (lv_room (Nat.le_of_ble_eq_true rfl)) dL_law_1183 ⟨(Nat.le_of_ble_eq_true rfl), (Nat.le_of_ble_eq_true rfl)⟩) hS (fun q _ h => hFc q h) hFc (fun r_9 u t H1 locs ht hvm hw hB hz1 hk1 hS => ?_)
        obtain ⟨u_10, rfl⟩ : ∃ z, z = u := ⟨u, rfl⟩
        obtain ⟨hP1, hD1⟩ := hB
        rw [ht] at hP1
        try dsimp only at hw hP1 hD1
        rcases hw with ⟨c_11, w_12, w_13⟩ | ⟨c_14, c_15, w_16, w_17⟩
        · skip
          subst w_12
          subst w_13
          obtain ⟨hP, hD⟩ := va_join (wr := []) (w1 := [(m0, .inr (11, y0.set 9 (.int 1))), (y4, .inl (kA 0, 2, .inl (fun _ => 0)))]) hP hD [0, 1] [] rfl rfl (by decide) (by decide) hk1 hFc hP1 hD1
          generalize H1 = H at hP hS ⊢
          have hP : va_P D vwCl [(m0, .inr (11, y0.set 9 (.int 1))), (y4, .inl (kA 0, 2, .inl (fun _ => 0)))] H := hP
          have hD : va_D A [(m0, .inr (11, y0.set 9 (.int 1))), (y4, .inl (kA 0, 2, .inl (fun _ => 0)))] := hD
          refine lv_istore (lv' := [(6, .int 0), (5, .int 1), (0, .ref b), (1, .ref h0), (2, .ref m0), (3, .ref o0), (4, .int 0)]) hx hb dL_law_1186 hl (by decide) rfl (fun ls hl => ?_)
          refine lv_aload_n hx hb dL_law_1188 rfl (lv_at hl 4 rfl) ?_
          have hPc := hP.sub (ws' := [(m0, .inr (11, y0.set 9 (.int 1)))]) [0] rfl
          have hDc := hD.sub (ws' := [(m0, .inr (11, y0.set 9 (.int 1)))]) [0] (by decide) rfl
          have hFc := va_free (wc := [(m0, .inr (11, y0.set 9 (.int 1)))]) hD hS hA [0] rfl
          refine va_calli (va_runV (As := []) (rest := []) ⟨hx, hb, hml, hown, hts⟩ (a174_X12_thrown l  D kA V H.size m0 (y0.set 9 (.int 1)) (fun k hk => (by rw [List.length_set]; exact (hq k hk))) (List.getElem?_set_self (hq 9 (by decide)))) (cwV 0 hts (gw_V gw_1879 gw_1880 gw_1881 gw_16 gw_1882) rfl rfl rfl (by decide +kernel) ⟨(Nat.le_of_ble_eq_true rfl), (Nat.le_of_ble_eq_true rfl)⟩) ⟨aP.blind, va_recv hK hP (ci := 11) (q0 := 0) rfl rfl, aP.pre hE hS hPc hK hDc hFc⟩ rfl rfl hl.1 rfl (lv_room (Nat.le_of_ble_eq_true rfl)) dL_law_1189 ⟨(Nat.le_of_ble_eq_true rfl), (Nat.le_of_ble_eq_true rfl)⟩) hS (fun q _ h => hFc q h) hFc (fun r_18 u t H1 locs ht hvm hw hB hz1 hk1 hS => ?_)
          obtain ⟨hP1, hD1⟩ := hB
          rw [ht] at hP1
          try dsimp only at hw hP1 hD1
          have w_19 := hw
          subst w_19
          obtain ⟨hP, hD⟩ := va_join (wr := [(y4, .inl (kA 0, 2, .inl (fun _ => 0)))]) (w1 := [(m0, .inr (11, (y0.set 9 (.int 1))))]) hP hD [0] [1] rfl rfl (by decide) (by decide) hk1 hFc hP1 hD1
          generalize H1 = H at hP hS ⊢
          have hP : va_P D vwCl [(y4, .inl (kA 0, 2, .inl (fun _ => 0))), (m0, .inr (11, (y0.set 9 (.int 1))))] H := hP
          have hD : va_D A [(y4, .inl (kA 0, 2, .inl (fun _ => 0))), (m0, .inr (11, (y0.set 9 (.int 1))))] := hD
          refine lv_iload hx hb dL_law_1192 (lv_at hl 1 rfl) ?_
          refine lv_icmp_eq (tgt := 1199) hx hb dL_law_1194 (by decide) (fun c_20 => ?_) (fun c_20 => ?_)
          · skip
            refine lv_iload hx hb dL_law_1199 (lv_at hl 1 rfl) ?_
            refine lv_if_ne (tgt := 1223) hx hb dL_law_1201 (by decide) (fun c_21 => ?_) (fun c_21 => ?_)
            · skip
              refine lv_goto (tgt := 1804) hx hb dL_law_1223 (by decide) ?_
              exact lk_tail hC hA2 (lv_sub hl [2, 6] rfl) hS (Nat.le_of_ble_eq_true rfl) (Nat.le_of_ble_eq_true rfl)
            · exact absurd c_21 (by decide)
          · exact absurd (by decide) c_20
        · skip
          subst w_16
          subst w_17
          exact absurd c_3 c_14
      · exact absurd c_1 c_8
    · skip
      subst w_7
      obtain ⟨hP, hD⟩ := va_join (wr := [(m0, .inr (11, y0)), (y4, .inl (kA 0, 2, .inl (fun _ => 0)))]) (w1 := []) hP hD [0, 1, 2] [3, 4] rfl rfl (by decide) (by decide) hk1 hFc hP1 hD1
      generalize H1 = H at hP hS ⊢
      have hP : va_P D vwCl [(m0, .inr (11, y0)), (y4, .inl (kA 0, 2, .inl (fun _ => 0)))] H := hP
      have hD : va_D A [(m0, .inr (11, y0)), (y4, .inl (kA 0, 2, .inl (fun _ => 0)))] := hD
      refine lv_istore (lv' := [(5, .int 1), (0, .ref b), (1, .ref h0), (2, .ref m0), (3, .ref o0), (4, .int 0)]) hx hb dL_law_1154 hl (by decide) rfl (fun ls hl => ?_)
      refine lv_aload_n hx hb dL_law_1156 rfl (lv_at hl 3 rfl) ?_
      refine lv_aload_n hx hb dL_law_1157 rfl (lv_at hl 1 rfl) ?_
      refine lv_iload hx hb dL_law_1158 (lv_at hl 5 rfl) ?_
      refine lv_iconst (v := 1) hx hb dL_law_1160 (by decide) ?_
      refine lv_iadd hx hb dL_law_1161 ?_
      refine W.eq (g2 := F0 m 1162 ls [.int 1, .ref b, .ref m0]) rfl ?_
      refine va_sld hx hb hX hbl hbA hS (show vp_in 1 8 by unfold vp_in; decide) dL_law_1162 ?_
      refine W.eq (g2 := F0 m 1163 ls [.int (xs 1), .ref m0]) rfl ?_
      refine lv_aload_n hx hb dL_law_1163 rfl (lv_at hl 1 rfl) ?_
      refine lv_iload hx hb dL_law_1164 (lv_at hl 5 rfl) ?_
      refine lv_iconst (v := 2) hx hb dL_law_1166 (by decide) ?_
      refine lv_iadd hx hb dL_law_1167 ?_
      refine W.eq (g2 := F0 m 1168 ls [.int 2, .ref b, .int (xs 1), .ref m0]) rfl ?_
      refine va_sld hx hb hX hbl hbA hS (show vp_in 2 8 by unfold vp_in; decide) dL_law_1168 ?_
      refine W.eq (g2 := F0 m 1169 ls [.int (xs 2), .int (xs 1), .ref m0]) rfl ?_
      refine lv_aload_n hx hb dL_law_1169 rfl (lv_at hl 1 rfl) ?_
      refine lv_iload hx hb dL_law_1170 (lv_at hl 5 rfl) ?_
      refine lv_iconst (v := 3) hx hb dL_law_1172 (by decide) ?_
      refine lv_iadd hx hb dL_law_1173 ?_
      refine W.eq (g2 := F0 m 1174 ls [.int 3, .ref b, .int (xs 2), .int (xs 1), .ref m0]) rfl ?_
      refine va_sld hx hb hX hbl hbA hS (show vp_in 3 8 by unfold vp_in; decide) dL_law_1174 ?_
      refine W.eq (g2 := F0 m 1175 ls [.int (xs 3), .int (xs 2), .int (xs 1), .ref m0]) rfl ?_
      refine lv_if_eq (tgt := 1182) hx hb dL_law_1175 (by decide) (fun c_22 => ?_) (fun c_22 => ?_)
      · skip
        refine lv_iconst (v := 0) hx hb dL_law_1182 (by decide) ?_
        have hPc := hP.sub (ws' := [(m0, .inr (11, y0)), (y4, .inl (kA 0, 2, .inl (fun _ => 0)))]) [0, 1] rfl
        have hDc := hD.sub (ws' := [(m0, .inr (11, y0)), (y4, .inl (kA 0, 2, .inl (fun _ => 0)))]) [0, 1] (by decide) rfl
        have hFc := va_free (wc := [(m0, .inr (11, y0)), (y4, .inl (kA 0, 2, .inl (fun _ => 0)))]) hD hS hA [0, 1] rfl
        refine va_calli (va_runV (As := [.int (xs 1), .int (xs 2), .int 0]) (rest := []) ⟨hx, hb, hml, hown, hts⟩ (a144_X12_trace l  D kA V H.size m0 (xs 1) (xs 2) 0 y4 y0 (fun k hk => (hq k hk)) hq9 hq19 hq55) (cwV 3 hts (gw_V gw_2732 gw_2733 gw_2734 gw_16 gw_2735) rfl rfl rfl (by decide +kernel) ⟨(Nat.le_of_ble_eq_true rfl), (Nat.le_of_ble_eq_true rfl)⟩) ⟨aP.blind, va_recv hK hP (ci := 11) (q0 := 0) rfl rfl, aP.pre hE hS hPc hK hDc hFc⟩ rfl rfl hl.1 rfl (lv_room (Nat.le_of_ble_eq_true rfl)) dL_law_1183 ⟨(Nat.le_of_ble_eq_true rfl), (Nat.le_of_ble_eq_true rfl)⟩) hS (fun q _ h => hFc q h) hFc (fun r_23 u t H1 locs ht hvm hw hB hz1 hk1 hS => ?_)
        obtain ⟨u_24, rfl⟩ : ∃ z, z = u := ⟨u, rfl⟩
        obtain ⟨hP1, hD1⟩ := hB
        rw [ht] at hP1
        try dsimp only at hw hP1 hD1
        rcases hw with ⟨c_25, w_26, w_27⟩ | ⟨c_28, c_29, w_30, w_31⟩
        · skip
          subst w_26
          subst w_27
          exact absurd c_25 c_5
        · skip
          subst w_30
          subst w_31
          obtain ⟨hP, hD⟩ := va_join (wr := []) (w1 := [(m0, .inr (11, y0.set 9 (.int 1))), (y4, .inl (kA 0, 2, .inl (fun _ => 0)))]) hP hD [0, 1] [] rfl rfl (by decide) (by decide) hk1 hFc hP1 hD1
          generalize H1 = H at hP hS ⊢
          have hP : va_P D vwCl [(m0, .inr (11, y0.set 9 (.int 1))), (y4, .inl (kA 0, 2, .inl (fun _ => 0)))] H := hP
          have hD : va_D A [(m0, .inr (11, y0.set 9 (.int 1))), (y4, .inl (kA 0, 2, .inl (fun _ => 0)))] := hD
          refine lv_istore (lv' := [(6, .int 0), (5, .int 1), (0, .ref b), (1, .ref h0), (2, .ref m0), (3, .ref o0), (4, .int 0)]) hx hb dL_law_1186 hl (by decide) rfl (fun ls hl => ?_)
          refine lv_aload_n hx hb dL_law_1188 rfl (lv_at hl 4 rfl) ?_
          have hPc := hP.sub (ws' := [(m0, .inr (11, y0.set 9 (.int 1)))]) [0] rfl
          have hDc := hD.sub (ws' := [(m0, .inr (11, y0.set 9 (.int 1)))]) [0] (by decide) rfl
          have hFc := va_free (wc := [(m0, .inr (11, y0.set 9 (.int 1)))]) hD hS hA [0] rfl
          refine va_calli (va_runV (As := []) (rest := []) ⟨hx, hb, hml, hown, hts⟩ (a174_X12_thrown l  D kA V H.size m0 (y0.set 9 (.int 1)) (fun k hk => (by rw [List.length_set]; exact (hq k hk))) (List.getElem?_set_self (hq 9 (by decide)))) (cwV 0 hts (gw_V gw_1879 gw_1880 gw_1881 gw_16 gw_1882) rfl rfl rfl (by decide +kernel) ⟨(Nat.le_of_ble_eq_true rfl), (Nat.le_of_ble_eq_true rfl)⟩) ⟨aP.blind, va_recv hK hP (ci := 11) (q0 := 0) rfl rfl, aP.pre hE hS hPc hK hDc hFc⟩ rfl rfl hl.1 rfl (lv_room (Nat.le_of_ble_eq_true rfl)) dL_law_1189 ⟨(Nat.le_of_ble_eq_true rfl), (Nat.le_of_ble_eq_true rfl)⟩) hS (fun q _ h => hFc q h) hFc (fun r_32 u t H1 locs ht hvm hw hB hz1 hk1 hS => ?_)
          obtain ⟨hP1, hD1⟩ := hB
          rw [ht] at hP1
          try dsimp only at hw hP1 hD1
          have w_33 := hw
          subst w_33
          obtain ⟨hP, hD⟩ := va_join (wr := [(y4, .inl (kA 0, 2, .inl (fun _ => 0)))]) (w1 := [(m0, .inr (11, (y0.set 9 (.int 1))))]) hP hD [0] [1] rfl rfl (by decide) (by decide) hk1 hFc hP1 hD1
          generalize H1 = H at hP hS ⊢
          have hP : va_P D vwCl [(y4, .inl (kA 0, 2, .inl (fun _ => 0))), (m0, .inr (11, (y0.set 9 (.int 1))))] H := hP
          have hD : va_D A [(y4, .inl (kA 0, 2, .inl (fun _ => 0))), (m0, .inr (11, (y0.set 9 (.int 1))))] := hD
          refine lv_iload hx hb dL_law_1192 (lv_at hl 1 rfl) ?_
          refine lv_icmp_eq (tgt := 1199) hx hb dL_law_1194 (by decide) (fun c_34 => ?_) (fun c_34 => ?_)
          · skip
            refine lv_iload hx hb dL_law_1199 (lv_at hl 1 rfl) ?_
            refine lv_if_ne (tgt := 1223) hx hb dL_law_1201 (by decide) (fun c_35 => ?_) (fun c_35 => ?_)
            · skip
              refine lv_goto (tgt := 1804) hx hb dL_law_1223 (by decide) ?_
              exact lk_tail hC hA2 (lv_sub hl [2, 6] rfl) hS (Nat.le_of_ble_eq_true rfl) (Nat.le_of_ble_eq_true rfl)
            · exact absurd c_35 (by decide)
          · exact absurd (by decide) c_34
      · exact absurd c_1 c_22
  · skip
    refine lv_iconst (v := 1) hx hb dL_law_1145 (by decide) ?_
    refine lv_goto (tgt := 1150) hx hb dL_law_1146 (by decide) ?_
    refine lv_aload_n hx hb dL_law_1150 rfl (lv_at hl 3 rfl) ?_
    have hPc := hP.sub (ws' := [(h0, .inr (10, [.ref x0, .int 0, .ref x1, .ref x2, .ref x3, .ref x4, .ref x5, .ref x6, .ref x7, .ref x8, .int 0, .int 3000])), (x7, .inr (5, [.ref x33, .ref x34, .ref x35, .ref x36, .ref x37, .ref x38, .ref x39, .ref x40, .ref x41, .ref x42, .ref x43, .ref x44, .int 0, .int 0, .int 0, .int (-1)])), (x37, .inl (kA 0, 5, .inl (fun _ => 0)))]) [0, 1, 2] rfl
    have hDc := hD.sub (ws' := [(h0, .inr (10, [.ref x0, .int 0, .ref x1, .ref x2, .ref x3, .ref x4, .ref x5, .ref x6, .ref x7, .ref x8, .int 0, .int 3000])), (x7, .inr (5, [.ref x33, .ref x34, .ref x35, .ref x36, .ref x37, .ref x38, .ref x39, .ref x40, .ref x41, .ref x42, .ref x43, .ref x44, .int 0, .int 0, .int 0, .int (-1)])), (x37, .inl (kA 0, 5, .inl (fun _ => 0)))]) [0, 1, 2] (by decide) rfl
    have hFc := va_free (wc := [(h0, .inr (10, [.ref x0, .int 0, .ref x1, .ref x2, .ref x3, .ref x4, .ref x5, .ref x6, .ref x7, .ref x8, .int 0, .int 3000])), (x7, .inr (5, [.ref x33, .ref x34, .ref x35, .ref x36, .ref x37, .ref x38, .ref x39, .ref x40, .ref x41, .ref x42, .ref x43, .ref x44, .int 0, .int 0, .int 0, .int (-1)])), (x37, .inl (kA 0, 5, .inl (fun _ => 0)))]) hD hS hA [0, 1, 2] rfl
    refine va_calli (vx_runSW (As := [.ref h0, .int (xs 1), .int (xs 2), .int 1, .ref o0]) (rest := []) ⟨hx, hb, hml, hown, hts⟩ (a168_L_trace l hst D kA V H.size h0 (xs 1) (xs 2) 1 o0 x0 x1 x2 x3 x4 x5 x6 x7 x8 x33 x34 x35 x36 x37 x38 x39 x40 x41 x42 x43 x44) (vx_cwSW 5 hts (gw_SW gw_1783 gw_1784 gw_0 gw_1785) rfl rfl rfl (by decide +kernel) ⟨(Nat.le_of_ble_eq_true rfl), (Nat.le_of_ble_eq_true rfl)⟩) ⟨aP.blind, aP.pre hE hS hPc hK hDc hFc⟩ rfl rfl hl.1 rfl (lv_room (Nat.le_of_ble_eq_true rfl)) dL_law_1151 ⟨(Nat.le_of_ble_eq_true rfl), (Nat.le_of_ble_eq_true rfl)⟩) hS (fun q _ h => hFc q h) hFc (fun r_36 u t H1 locs ht hvm hw hB hz1 hk1 hS => ?_)
    obtain ⟨hP1, hD1⟩ := hB
    rw [ht] at hP1
    try dsimp only at hw hP1 hD1
    rcases hw with ⟨c_37, w_38⟩ | ⟨c_39, c_40, w_41⟩
    · skip
      subst w_38
      obtain ⟨hP, hD⟩ := va_join (wr := [(m0, .inr (11, y0)), (y4, .inl (kA 0, 2, .inl (fun _ => 0)))]) (w1 := []) hP hD [0, 1, 2] [3, 4] rfl rfl (by decide) (by decide) hk1 hFc hP1 hD1
      generalize H1 = H at hP hS ⊢
      have hP : va_P D vwCl [(m0, .inr (11, y0)), (y4, .inl (kA 0, 2, .inl (fun _ => 0)))] H := hP
      have hD : va_D A [(m0, .inr (11, y0)), (y4, .inl (kA 0, 2, .inl (fun _ => 0)))] := hD
      refine lv_istore (lv' := [(5, .int 1), (0, .ref b), (1, .ref h0), (2, .ref m0), (3, .ref o0), (4, .int 0)]) hx hb dL_law_1154 hl (by decide) rfl (fun ls hl => ?_)
      refine lv_aload_n hx hb dL_law_1156 rfl (lv_at hl 3 rfl) ?_
      refine lv_aload_n hx hb dL_law_1157 rfl (lv_at hl 1 rfl) ?_
      refine lv_iload hx hb dL_law_1158 (lv_at hl 5 rfl) ?_
      refine lv_iconst (v := 1) hx hb dL_law_1160 (by decide) ?_
      refine lv_iadd hx hb dL_law_1161 ?_
      refine W.eq (g2 := F0 m 1162 ls [.int 1, .ref b, .ref m0]) rfl ?_
      refine va_sld hx hb hX hbl hbA hS (show vp_in 1 8 by unfold vp_in; decide) dL_law_1162 ?_
      refine W.eq (g2 := F0 m 1163 ls [.int (xs 1), .ref m0]) rfl ?_
      refine lv_aload_n hx hb dL_law_1163 rfl (lv_at hl 1 rfl) ?_
      refine lv_iload hx hb dL_law_1164 (lv_at hl 5 rfl) ?_
      refine lv_iconst (v := 2) hx hb dL_law_1166 (by decide) ?_
      refine lv_iadd hx hb dL_law_1167 ?_
      refine W.eq (g2 := F0 m 1168 ls [.int 2, .ref b, .int (xs 1), .ref m0]) rfl ?_
      refine va_sld hx hb hX hbl hbA hS (show vp_in 2 8 by unfold vp_in; decide) dL_law_1168 ?_
      refine W.eq (g2 := F0 m 1169 ls [.int (xs 2), .int (xs 1), .ref m0]) rfl ?_
      refine lv_aload_n hx hb dL_law_1169 rfl (lv_at hl 1 rfl) ?_
      refine lv_iload hx hb dL_law_1170 (lv_at hl 5 rfl) ?_
      refine lv_iconst (v := 3) hx hb dL_law_1172 (by decide) ?_
      refine lv_iadd hx hb dL_law_1173 ?_
      refine W.eq (g2 := F0 m 1174 ls [.int 3, .ref b, .int (xs 2), .int (xs 1), .ref m0]) rfl ?_
      refine va_sld hx hb hX hbl hbA hS (show vp_in 3 8 by unfold vp_in; decide) dL_law_1174 ?_
      refine W.eq (g2 := F0 m 1175 ls [.int (xs 3), .int (xs 2), .int (xs 1), .ref m0]) rfl ?_
      refine lv_if_eq (tgt := 1182) hx hb dL_law_1175 (by decide) (fun c_42 => ?_) (fun c_42 => ?_)
      · exact absurd c_42 c_1
      · skip
        refine lv_iconst (v := 1) hx hb dL_law_1178 (by decide) ?_
        refine lv_goto (tgt := 1183) hx hb dL_law_1179 (by decide) ?_
        have hPc := hP.sub (ws' := [(m0, .inr (11, y0)), (y4, .inl (kA 0, 2, .inl (fun _ => 0)))]) [0, 1] rfl
        have hDc := hD.sub (ws' := [(m0, .inr (11, y0)), (y4, .inl (kA 0, 2, .inl (fun _ => 0)))]) [0, 1] (by decide) rfl
        have hFc := va_free (wc := [(m0, .inr (11, y0)), (y4, .inl (kA 0, 2, .inl (fun _ => 0)))]) hD hS hA [0, 1] rfl
        refine va_calli (va_runV (As := [.int (xs 1), .int (xs 2), .int 1]) (rest := []) ⟨hx, hb, hml, hown, hts⟩ (a144_X12_trace l  D kA V H.size m0 (xs 1) (xs 2) 1 y4 y0 (fun k hk => (hq k hk)) hq9 hq19 hq55) (cwV 3 hts (gw_V gw_2732 gw_2733 gw_2734 gw_16 gw_2735) rfl rfl rfl (by decide +kernel) ⟨(Nat.le_of_ble_eq_true rfl), (Nat.le_of_ble_eq_true rfl)⟩) ⟨aP.blind, va_recv hK hP (ci := 11) (q0 := 0) rfl rfl, aP.pre hE hS hPc hK hDc hFc⟩ rfl rfl hl.1 rfl (lv_room (Nat.le_of_ble_eq_true rfl)) dL_law_1183 ⟨(Nat.le_of_ble_eq_true rfl), (Nat.le_of_ble_eq_true rfl)⟩) hS (fun q _ h => hFc q h) hFc (fun r_43 u t H1 locs ht hvm hw hB hz1 hk1 hS => ?_)
        obtain ⟨u_44, rfl⟩ : ∃ z, z = u := ⟨u, rfl⟩
        obtain ⟨hP1, hD1⟩ := hB
        rw [ht] at hP1
        try dsimp only at hw hP1 hD1
        rcases hw with ⟨c_45, w_46, w_47⟩ | ⟨c_48, c_49, w_50, w_51⟩
        · skip
          subst w_46
          subst w_47
          obtain ⟨hP, hD⟩ := va_join (wr := []) (w1 := [(m0, .inr (11, y0.set 9 (.int 1))), (y4, .inl (kA 0, 2, .inl (fun _ => 0)))]) hP hD [0, 1] [] rfl rfl (by decide) (by decide) hk1 hFc hP1 hD1
          generalize H1 = H at hP hS ⊢
          have hP : va_P D vwCl [(m0, .inr (11, y0.set 9 (.int 1))), (y4, .inl (kA 0, 2, .inl (fun _ => 0)))] H := hP
          have hD : va_D A [(m0, .inr (11, y0.set 9 (.int 1))), (y4, .inl (kA 0, 2, .inl (fun _ => 0)))] := hD
          refine lv_istore (lv' := [(6, .int 0), (5, .int 1), (0, .ref b), (1, .ref h0), (2, .ref m0), (3, .ref o0), (4, .int 0)]) hx hb dL_law_1186 hl (by decide) rfl (fun ls hl => ?_)
          refine lv_aload_n hx hb dL_law_1188 rfl (lv_at hl 4 rfl) ?_
          have hPc := hP.sub (ws' := [(m0, .inr (11, y0.set 9 (.int 1)))]) [0] rfl
          have hDc := hD.sub (ws' := [(m0, .inr (11, y0.set 9 (.int 1)))]) [0] (by decide) rfl
          have hFc := va_free (wc := [(m0, .inr (11, y0.set 9 (.int 1)))]) hD hS hA [0] rfl
          refine va_calli (va_runV (As := []) (rest := []) ⟨hx, hb, hml, hown, hts⟩ (a174_X12_thrown l  D kA V H.size m0 (y0.set 9 (.int 1)) (fun k hk => (by rw [List.length_set]; exact (hq k hk))) (List.getElem?_set_self (hq 9 (by decide)))) (cwV 0 hts (gw_V gw_1879 gw_1880 gw_1881 gw_16 gw_1882) rfl rfl rfl (by decide +kernel) ⟨(Nat.le_of_ble_eq_true rfl), (Nat.le_of_ble_eq_true rfl)⟩) ⟨aP.blind, va_recv hK hP (ci := 11) (q0 := 0) rfl rfl, aP.pre hE hS hPc hK hDc hFc⟩ rfl rfl hl.1 rfl (lv_room (Nat.le_of_ble_eq_true rfl)) dL_law_1189 ⟨(Nat.le_of_ble_eq_true rfl), (Nat.le_of_ble_eq_true rfl)⟩) hS (fun q _ h => hFc q h) hFc (fun r_52 u t H1 locs ht hvm hw hB hz1 hk1 hS => ?_)
          obtain ⟨hP1, hD1⟩ := hB
          rw [ht] at hP1
          try dsimp only at hw hP1 hD1
          have w_53 := hw
          subst w_53
          obtain ⟨hP, hD⟩ := va_join (wr := [(y4, .inl (kA 0, 2, .inl (fun _ => 0)))]) (w1 := [(m0, .inr (11, (y0.set 9 (.int 1))))]) hP hD [0] [1] rfl rfl (by decide) (by decide) hk1 hFc hP1 hD1
          generalize H1 = H at hP hS ⊢
          have hP : va_P D vwCl [(y4, .inl (kA 0, 2, .inl (fun _ => 0))), (m0, .inr (11, (y0.set 9 (.int 1))))] H := hP
          have hD : va_D A [(y4, .inl (kA 0, 2, .inl (fun _ => 0))), (m0, .inr (11, (y0.set 9 (.int 1))))] := hD
          refine lv_iload hx hb dL_law_1192 (lv_at hl 1 rfl) ?_
          refine lv_icmp_eq (tgt := 1199) hx hb dL_law_1194 (by decide) (fun c_54 => ?_) (fun c_54 => ?_)
          · skip
            refine lv_iload hx hb dL_law_1199 (lv_at hl 1 rfl) ?_
            refine lv_if_ne (tgt := 1223) hx hb dL_law_1201 (by decide) (fun c_55 => ?_) (fun c_55 => ?_)
            · skip
              refine lv_goto (tgt := 1804) hx hb dL_law_1223 (by decide) ?_
              exact lk_tail hC hA2 (lv_sub hl [2, 6] rfl) hS (Nat.le_of_ble_eq_true rfl) (Nat.le_of_ble_eq_true rfl)
            · exact absurd c_55 (by decide)
          · exact absurd (by decide) c_54
        · skip
          subst w_50
          subst w_51
          exact absurd c_37 c_48
    · skip
      subst w_41
      obtain ⟨hP, hD⟩ := va_join (wr := [(m0, .inr (11, y0)), (y4, .inl (kA 0, 2, .inl (fun _ => 0)))]) (w1 := []) hP hD [0, 1, 2] [3, 4] rfl rfl (by decide) (by decide) hk1 hFc hP1 hD1
      generalize H1 = H at hP hS ⊢
      have hP : va_P D vwCl [(m0, .inr (11, y0)), (y4, .inl (kA 0, 2, .inl (fun _ => 0)))] H := hP
      have hD : va_D A [(m0, .inr (11, y0)), (y4, .inl (kA 0, 2, .inl (fun _ => 0)))] := hD
      refine lv_istore (lv' := [(5, .int 1), (0, .ref b), (1, .ref h0), (2, .ref m0), (3, .ref o0), (4, .int 0)]) hx hb dL_law_1154 hl (by decide) rfl (fun ls hl => ?_)
      refine lv_aload_n hx hb dL_law_1156 rfl (lv_at hl 3 rfl) ?_
      refine lv_aload_n hx hb dL_law_1157 rfl (lv_at hl 1 rfl) ?_
      refine lv_iload hx hb dL_law_1158 (lv_at hl 5 rfl) ?_
      refine lv_iconst (v := 1) hx hb dL_law_1160 (by decide) ?_
      refine lv_iadd hx hb dL_law_1161 ?_
      refine W.eq (g2 := F0 m 1162 ls [.int 1, .ref b, .ref m0]) rfl ?_
      refine va_sld hx hb hX hbl hbA hS (show vp_in 1 8 by unfold vp_in; decide) dL_law_1162 ?_
      refine W.eq (g2 := F0 m 1163 ls [.int (xs 1), .ref m0]) rfl ?_
      refine lv_aload_n hx hb dL_law_1163 rfl (lv_at hl 1 rfl) ?_
      refine lv_iload hx hb dL_law_1164 (lv_at hl 5 rfl) ?_
      refine lv_iconst (v := 2) hx hb dL_law_1166 (by decide) ?_
      refine lv_iadd hx hb dL_law_1167 ?_
      refine W.eq (g2 := F0 m 1168 ls [.int 2, .ref b, .int (xs 1), .ref m0]) rfl ?_
      refine va_sld hx hb hX hbl hbA hS (show vp_in 2 8 by unfold vp_in; decide) dL_law_1168 ?_
      refine W.eq (g2 := F0 m 1169 ls [.int (xs 2), .int (xs 1), .ref m0]) rfl ?_
      refine lv_aload_n hx hb dL_law_1169 rfl (lv_at hl 1 rfl) ?_
      refine lv_iload hx hb dL_law_1170 (lv_at hl 5 rfl) ?_
      refine lv_iconst (v := 3) hx hb dL_law_1172 (by decide) ?_
      refine lv_iadd hx hb dL_law_1173 ?_
      refine W.eq (g2 := F0 m 1174 ls [.int 3, .ref b, .int (xs 2), .int (xs 1), .ref m0]) rfl ?_
      refine va_sld hx hb hX hbl hbA hS (show vp_in 3 8 by unfold vp_in; decide) dL_law_1174 ?_
      refine W.eq (g2 := F0 m 1175 ls [.int (xs 3), .int (xs 2), .int (xs 1), .ref m0]) rfl ?_
      refine lv_if_eq (tgt := 1182) hx hb dL_law_1175 (by decide) (fun c_56 => ?_) (fun c_56 => ?_)
      · exact absurd c_56 c_1
      · skip
        refine lv_iconst (v := 1) hx hb dL_law_1178 (by decide) ?_
        refine lv_goto (tgt := 1183) hx hb dL_law_1179 (by decide) ?_
        have hPc := hP.sub (ws' := [(m0, .inr (11, y0)), (y4, .inl (kA 0, 2, .inl (fun _ => 0)))]) [0, 1] rfl
        have hDc := hD.sub (ws' := [(m0, .inr (11, y0)), (y4, .inl (kA 0, 2, .inl (fun _ => 0)))]) [0, 1] (by decide) rfl
        have hFc := va_free (wc := [(m0, .inr (11, y0)), (y4, .inl (kA 0, 2, .inl (fun _ => 0)))]) hD hS hA [0, 1] rfl
        refine va_calli (va_runV (As := [.int (xs 1), .int (xs 2), .int 1]) (rest := []) ⟨hx, hb, hml, hown, hts⟩ (a144_X12_trace l  D kA V H.size m0 (xs 1) (xs 2) 1 y4 y0 (fun k hk => (hq k hk)) hq9 hq19 hq55) (cwV 3 hts (gw_V gw_2732 gw_2733 gw_2734 gw_16 gw_2735) rfl rfl rfl (by decide +kernel) ⟨(Nat.le_of_ble_eq_true rfl), (Nat.le_of_ble_eq_true rfl)⟩) ⟨aP.blind, va_recv hK hP (ci := 11) (q0 := 0) rfl rfl, aP.pre hE hS hPc hK hDc hFc⟩ rfl rfl hl.1 rfl (lv_room (Nat.le_of_ble_eq_true rfl)) dL_law_1183 ⟨(Nat.le_of_ble_eq_true rfl), (Nat.le_of_ble_eq_true rfl)⟩) hS (fun q _ h => hFc q h) hFc (fun r_57 u t H1 locs ht hvm hw hB hz1 hk1 hS => ?_)
        obtain ⟨u_58, rfl⟩ : ∃ z, z = u := ⟨u, rfl⟩
        obtain ⟨hP1, hD1⟩ := hB
        rw [ht] at hP1
        try dsimp only at hw hP1 hD1
        rcases hw with ⟨c_59, w_60, w_61⟩ | ⟨c_62, c_63, w_64, w_65⟩
        · skip
          subst w_60
          subst w_61
          exact absurd c_59 c_39
        · skip
          subst w_64
          subst w_65
          obtain ⟨hP, hD⟩ := va_join (wr := []) (w1 := [(m0, .inr (11, y0.set 9 (.int 1))), (y4, .inl (kA 0, 2, .inl (fun _ => 0)))]) hP hD [0, 1] [] rfl rfl (by decide) (by decide) hk1 hFc hP1 hD1
          generalize H1 = H at hP hS ⊢
          have hP : va_P D vwCl [(m0, .inr (11, y0.set 9 (.int 1))), (y4, .inl (kA 0, 2, .inl (fun _ => 0)))] H := hP
          have hD : va_D A [(m0, .inr (11, y0.set 9 (.int 1))), (y4, .inl (kA 0, 2, .inl (fun _ => 0)))] := hD
          refine lv_istore (lv' := [(6, .int 0), (5, .int 1), (0, .ref b), (1, .ref h0), (2, .ref m0), (3, .ref o0), (4, .int 0)]) hx hb dL_law_1186 hl (by decide) rfl (fun ls hl => ?_)
          refine lv_aload_n hx hb dL_law_1188 rfl (lv_at hl 4 rfl) ?_
          have hPc := hP.sub (ws' := [(m0, .inr (11, y0.set 9 (.int 1)))]) [0] rfl
          have hDc := hD.sub (ws' := [(m0, .inr (11, y0.set 9 (.int 1)))]) [0] (by decide) rfl
          have hFc := va_free (wc := [(m0, .inr (11, y0.set 9 (.int 1)))]) hD hS hA [0] rfl
          refine va_calli (va_runV (As := []) (rest := []) ⟨hx, hb, hml, hown, hts⟩ (a174_X12_thrown l  D kA V H.size m0 (y0.set 9 (.int 1)) (fun k hk => (by rw [List.length_set]; exact (hq k hk))) (List.getElem?_set_self (hq 9 (by decide)))) (cwV 0 hts (gw_V gw_1879 gw_1880 gw_1881 gw_16 gw_1882) rfl rfl rfl (by decide +kernel) ⟨(Nat.le_of_ble_eq_true rfl), (Nat.le_of_ble_eq_true rfl)⟩) ⟨aP.blind, va_recv hK hP (ci := 11) (q0 := 0) rfl rfl, aP.pre hE hS hPc hK hDc hFc⟩ rfl rfl hl.1 rfl (lv_room (Nat.le_of_ble_eq_true rfl)) dL_law_1189 ⟨(Nat.le_of_ble_eq_true rfl), (Nat.le_of_ble_eq_true rfl)⟩) hS (fun q _ h => hFc q h) hFc (fun r_66 u t H1 locs ht hvm hw hB hz1 hk1 hS => ?_)
          obtain ⟨hP1, hD1⟩ := hB
          rw [ht] at hP1
          try dsimp only at hw hP1 hD1
          have w_67 := hw
          subst w_67
          obtain ⟨hP, hD⟩ := va_join (wr := [(y4, .inl (kA 0, 2, .inl (fun _ => 0)))]) (w1 := [(m0, .inr (11, (y0.set 9 (.int 1))))]) hP hD [0] [1] rfl rfl (by decide) (by decide) hk1 hFc hP1 hD1
          generalize H1 = H at hP hS ⊢
          have hP : va_P D vwCl [(y4, .inl (kA 0, 2, .inl (fun _ => 0))), (m0, .inr (11, (y0.set 9 (.int 1))))] H := hP
          have hD : va_D A [(y4, .inl (kA 0, 2, .inl (fun _ => 0))), (m0, .inr (11, (y0.set 9 (.int 1))))] := hD
          refine lv_iload hx hb dL_law_1192 (lv_at hl 1 rfl) ?_
          refine lv_icmp_eq (tgt := 1199) hx hb dL_law_1194 (by decide) (fun c_68 => ?_) (fun c_68 => ?_)
          · skip
            refine lv_iload hx hb dL_law_1199 (lv_at hl 1 rfl) ?_
            refine lv_if_ne (tgt := 1223) hx hb dL_law_1201 (by decide) (fun c_69 => ?_) (fun c_69 => ?_)
            · skip
              refine lv_goto (tgt := 1804) hx hb dL_law_1223 (by decide) ?_
              exact lk_tail hC hA2 (lv_sub hl [2, 6] rfl) hS (Nat.le_of_ble_eq_true rfl) (Nat.le_of_ble_eq_true rfl)
            · exact absurd c_69 (by decide)
          · exact absurd (by decide) c_68
