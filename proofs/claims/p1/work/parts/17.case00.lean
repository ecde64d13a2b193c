theorem dL_law_152 : decode cL_law 152 = .ok (.aload_n 1, 1) := by decide +kernel
theorem dL_law_153 : decode cL_law 153 = .ok (.aload_n 0, 1) := by decide +kernel
theorem dL_law_154 : decode cL_law 154 = .ok (.iload 4, 2) := by decide +kernel
theorem dL_law_156 : decode cL_law 156 = .ok (.iconst 1, 1) := by decide +kernel
theorem dL_law_157 : decode cL_law 157 = .ok (.iadd, 1) := by decide +kernel
theorem dL_law_158 : decode cL_law 158 = .ok (.iaload, 1) := by decide +kernel
theorem dL_law_159 : decode cL_law 159 = .ok (.aload_n 0, 1) := by decide +kernel
theorem dL_law_160 : decode cL_law 160 = .ok (.iload 4, 2) := by decide +kernel
theorem dL_law_162 : decode cL_law 162 = .ok (.iconst 2, 1) := by decide +kernel
theorem dL_law_163 : decode cL_law 163 = .ok (.iadd, 1) := by decide +kernel
theorem dL_law_164 : decode cL_law 164 = .ok (.iaload, 1) := by decide +kernel
theorem dL_law_165 : decode cL_law 165 = .ok (.aload_n 0, 1) := by decide +kernel
theorem dL_law_166 : decode cL_law 166 = .ok (.iload 4, 2) := by decide +kernel
theorem dL_law_168 : decode cL_law 168 = .ok (.iconst 3, 1) := by decide +kernel
theorem dL_law_169 : decode cL_law 169 = .ok (.iadd, 1) := by decide +kernel
theorem dL_law_170 : decode cL_law 170 = .ok (.iaload, 1) := by decide +kernel
theorem dL_law_171 : decode cL_law 171 = .ok (.aload_n 0, 1) := by decide +kernel
theorem dL_law_172 : decode cL_law 172 = .ok (.iload 4, 2) := by decide +kernel
theorem dL_law_174 : decode cL_law 174 = .ok (.iconst 4, 1) := by decide +kernel
theorem dL_law_175 : decode cL_law 175 = .ok (.iadd, 1) := by decide +kernel
theorem dL_law_176 : decode cL_law 176 = .ok (.iaload, 1) := by decide +kernel
theorem dL_law_177 : decode cL_law 177 = .ok (.aload_n 0, 1) := by decide +kernel
theorem dL_law_178 : decode cL_law 178 = .ok (.iload 4, 2) := by decide +kernel
theorem dL_law_180 : decode cL_law 180 = .ok (.iconst 5, 1) := by decide +kernel
theorem dL_law_181 : decode cL_law 181 = .ok (.iadd, 1) := by decide +kernel
theorem dL_law_182 : decode cL_law 182 = .ok (.iaload, 1) := by decide +kernel
theorem dL_law_183 : decode cL_law 183 = .ok (.invokevirtual 91, 3) := by decide +kernel
theorem dL_law_186 : decode cL_law 186 = .ok (.aload_n 2, 1) := by decide +kernel
theorem dL_law_187 : decode cL_law 187 = .ok (.aload_n 0, 1) := by decide +kernel
theorem dL_law_188 : decode cL_law 188 = .ok (.iload 4, 2) := by decide +kernel
theorem dL_law_190 : decode cL_law 190 = .ok (.iconst 1, 1) := by decide +kernel
theorem dL_law_191 : decode cL_law 191 = .ok (.iadd, 1) := by decide +kernel
theorem dL_law_192 : decode cL_law 192 = .ok (.iaload, 1) := by decide +kernel
theorem dL_law_193 : decode cL_law 193 = .ok (.aload_n 0, 1) := by decide +kernel
theorem dL_law_194 : decode cL_law 194 = .ok (.iload 4, 2) := by decide +kernel
theorem dL_law_196 : decode cL_law 196 = .ok (.iconst 2, 1) := by decide +kernel
theorem dL_law_197 : decode cL_law 197 = .ok (.iadd, 1) := by decide +kernel
theorem dL_law_198 : decode cL_law 198 = .ok (.iaload, 1) := by decide +kernel
theorem dL_law_199 : decode cL_law 199 = .ok (.aload_n 0, 1) := by decide +kernel
theorem dL_law_200 : decode cL_law 200 = .ok (.iload 4, 2) := by decide +kernel
theorem dL_law_202 : decode cL_law 202 = .ok (.iconst 3, 1) := by decide +kernel
theorem dL_law_203 : decode cL_law 203 = .ok (.iadd, 1) := by decide +kernel
theorem dL_law_204 : decode cL_law 204 = .ok (.iaload, 1) := by decide +kernel
theorem dL_law_205 : decode cL_law 205 = .ok (.aload_n 0, 1) := by decide +kernel
theorem dL_law_206 : decode cL_law 206 = .ok (.iload 4, 2) := by decide +kernel
theorem dL_law_208 : decode cL_law 208 = .ok (.iconst 4, 1) := by decide +kernel
theorem dL_law_209 : decode cL_law 209 = .ok (.iadd, 1) := by decide +kernel
theorem dL_law_210 : decode cL_law 210 = .ok (.iaload, 1) := by decide +kernel
theorem dL_law_211 : decode cL_law 211 = .ok (.aload_n 0, 1) := by decide +kernel
theorem dL_law_212 : decode cL_law 212 = .ok (.iload 4, 2) := by decide +kernel
theorem dL_law_214 : decode cL_law 214 = .ok (.iconst 5, 1) := by decide +kernel
theorem dL_law_215 : decode cL_law 215 = .ok (.iadd, 1) := by decide +kernel
theorem dL_law_216 : decode cL_law 216 = .ok (.iaload, 1) := by decide +kernel
theorem dL_law_217 : decode cL_law 217 = .ok (.invokevirtual 95, 3) := by decide +kernel
theorem dL_law_220 : decode cL_law 220 = .ok (.if_icmp .eq 1584, 3) := by decide +kernel
set_option maxHeartbeats 4000000 in
set_option maxRecDepth 100000 in
theorem lk_0 {p : Program} {l : Launch} {e : Env} {s : State} {m : MethodId} {below : List Frame} {meth : Method} {c : Code} {D : va_G} {kA : Nat → ClassId} {V : Nat → Nat} {b : Nat} {xs : Nat → Int32} {A : Nat → Prop} (hC : lw_C p l s m meth c b 8 xs D kA V A) (hA2 : ∀ q, A q → s.heap.size ≤ q) (h0 : Nat) (m0 : Nat) (o0 : Nat) (x0 : Nat) (x1 : Nat) (x2 : Nat) (x3 : Nat) (x4 : Nat) (x5 : Nat) (x6 : Nat) (x7 : Nat) (x8 : Nat) (y0 : List Value) (y1 : Nat) (hq : ∀ k, k < 121 → k < y0.length) (hq0 : y0[0]? = some (.ref y1)) (hq1 : y0[1]? = some (.int 0))  {H : Heap} {locs : List Loc} {ls : Array Slot} (hl : lv_has ls 8 [(0, .ref b), (1, .ref h0), (2, .ref m0), (3, .ref o0), (4, .int 0)]) (hS : va_S A s.heap H locs) (hP : va_P D vwCl [(h0, .inr (10, [.ref x0, .int 0, .ref x1, .ref x2, .ref x3, .ref x4, .ref x5, .ref x6, .ref x7, .ref x8, .int 0, .int 3000])), (x0, .inl (kA 3, 6000, .inl (fun _ => 0))), (m0, .inr (11, y0)), (y1, .inl (kA 0, 6000, .inl (fun _ => 0)))] H) (hD : va_D A [(h0, .inr (10, [.ref x0, .int 0, .ref x1, .ref x2, .ref x3, .ref x4, .ref x5, .ref x6, .ref x7, .ref x8, .int 0, .int 3000])), (x0, .inl (kA 3, 6000, .inl (fun _ => 0))), (m0, .inr (11, y0)), (y1, .inl (kA 0, 6000, .inl (fun _ => 0)))]) : W p l e room_1 s m #[Value.ref b] below meth c H locs 514 172793 (lw_Z below #[Value.ref b] s) (F0 m 152 ls []) := by
  have ⟨hst, hx, hb, hr, hml, hown, hts, hG, hX, hbl, hbA, hlocks, hE, hK, hA⟩ := hC
  refine lv_aload_n hx hb dL_law_152 rfl (lv_at hl 1 rfl) ?_
  refine lv_aload_n hx hb dL_law_153 rfl (lv_at hl 0 rfl) ?_
  refine lv_iload hx hb dL_law_154 (lv_at hl 4 rfl) ?_
  refine lv_iconst (v := 1) hx hb dL_law_156 (by decide) ?_
  refine lv_iadd hx hb dL_law_157 ?_
  refine W.eq (g2 := F0 m 158 ls [.int 1, .ref b, .ref h0]) rfl ?_
  refine va_sld hx hb hX hbl hbA hS (show vp_in 1 8 by unfold vp_in; decide) dL_law_158 ?_
  refine W.eq (g2 := F0 m 159 ls [.int (xs 1), .ref h0]) rfl ?_
  refine lv_aload_n hx hb dL_law_159 rfl (lv_at hl 0 rfl) ?_
  refine lv_iload hx hb dL_law_160 (lv_at hl 4 rfl) ?_
  refine lv_iconst (v := 2) hx hb dL_law_162 (by decide) ?_
  refine lv_iadd hx hb dL_law_163 ?_
  refine W.eq (g2 := F0 m 164 ls [.int 2, .ref b, .int (xs 1), .ref h0]) rfl ?_
  refine va_sld hx hb hX hbl hbA hS (show vp_in 2 8 by unfold vp_in; decide) dL_law_164 ?_
  refine W.eq (g2 := F0 m 165 ls [.int (xs 2), .int (xs 1), .ref h0]) rfl ?_
  refine lv_aload_n hx hb dL_law_165 rfl (lv_at hl 0 rfl) ?_
  refine lv_iload hx hb dL_law_166 (lv_at hl 4 rfl) ?_
  refine lv_iconst (v := 3) hx hb dL_law_168 (by decide) ?_
  refine lv_iadd hx hb dL_law_169 ?_
  refine W.eq (g2 := F0 m 170 ls [.int 3, .ref b, .int (xs 2), .int (xs 1), .ref h0]) rfl ?_
  refine va_sld hx hb hX hbl hbA hS (show vp_in 3 8 by unfold vp_in; decide) dL_law_170 ?_
  refine W.eq (g2 := F0 m 171 ls [.int (xs 3), .int (xs 2), .int (xs 1), .ref h0]) rfl ?_
  refine lv_aload_n hx hb dL_law_171 rfl (lv_at hl 0 rfl) ?_
  refine lv_iload hx hb dL_law_172 (lv_at hl 4 rfl) ?_
  refine lv_iconst (v := 4) hx hb dL_law_174 (by decide) ?_
  refine lv_iadd hx hb dL_law_175 ?_
  refine W.eq (g2 := F0 m 176 ls [.int 4, .ref b, .int (xs 3), .int (xs 2), .int (xs 1), .ref h0]) rfl ?_
  refine va_sld hx hb hX hbl hbA hS (show vp_in 4 8 by unfold vp_in; decide) dL_law_176 ?_
  refine W.eq (g2 := F0 m 177 ls [.int (xs 4), .int (xs 3), .int (xs 2), .int (xs 1), .ref h0]) rfl ?_
  refine lv_aload_n hx hb dL_law_177 rfl (lv_at hl 0 rfl) ?_
  refine lv_iload hx hb dL_law_178 (lv_at hl 4 rfl) ?_
  refine lv_iconst (v := 5) hx hb dL_law_180 (by decide) ?_
  refine lv_iadd hx hb dL_law_181 ?_
  refine W.eq (g2 := F0 m 182 ls [.int 5, .ref b, .int (xs 4), .int (xs 3), .int (xs 2), .int (xs 1), .ref h0]) rfl ?_
  refine va_sld hx hb hX hbl hbA hS (show vp_in 5 8 by unfold vp_in; decide) dL_law_182 ?_
  refine W.eq (g2 := F0 m 183 ls [.int (xs 5), .int (xs 4), .int (xs 3), .int (xs 2), .int (xs 1), .ref h0]) rfl ?_
  have hPc := hP.sub (ws' := [(h0, .inr (10, [.ref x0, .int 0, .ref x1, .ref x2, .ref x3, .ref x4, .ref x5, .ref x6, .ref x7, .ref x8, .int 0, .int 3000])), (x0, .inl (kA 3, 6000, .inl (fun _ => 0)))]) [0, 1] rfl
  have hDc := hD.sub (ws' := [(h0, .inr (10, [.ref x0, .int 0, .ref x1, .ref x2, .ref x3, .ref x4, .ref x5, .ref x6, .ref x7, .ref x8, .int 0, .int 3000])), (x0, .inl (kA 3, 6000, .inl (fun _ => 0)))]) [0, 1] (by decide) rfl
  have hFc := va_free (wc := [(h0, .inr (10, [.ref x0, .int 0, .ref x1, .ref x2, .ref x3, .ref x4, .ref x5, .ref x6, .ref x7, .ref x8, .int 0, .int 3000])), (x0, .inl (kA 3, 6000, .inl (fun _ => 0)))]) hD hS hA [0, 1] rfl
  refine va_calli (va_runV (As := [.int (xs 1), .int (xs 2), .int (xs 3), .int (xs 4), .int (xs 5)]) (rest := []) ⟨hx, hb, hml, hown, hts⟩ (a34_X11_feed l  D kA V H.size h0 (xs 1) (xs 2) (xs 3) (xs 4) (xs 5) x0 x1 x2 x3 x4 x5 x6 x7 x8) (cwV 5 hts (gw_V gw_602 gw_603 gw_604 gw_1 gw_605) rfl rfl rfl (by decide +kernel) ⟨(Nat.le_of_ble_eq_true rfl), (Nat.le_of_ble_eq_true rfl)⟩) ⟨aP.blind, va_recv hK hP (ci := 10) (q0 := 0) rfl rfl, aP.pre hE hS hPc hK hDc hFc⟩ rfl rfl hl.1 rfl (lv_room (Nat.le_of_ble_eq_true rfl)) dL_law_183 ⟨(Nat.le_of_ble_eq_true rfl), (Nat.le_of_ble_eq_true rfl)⟩) hS (fun q _ h => hFc q h) hFc (fun r_1 u t H1 locs ht hvm hw hB hz1 hk1 hS => ?_)
  obtain ⟨u_2, rfl⟩ : ∃ z, z = u := ⟨u, rfl⟩
  obtain ⟨hP1, hD1⟩ := hB
  rw [ht] at hP1
  try dsimp only at hw hP1 hD1
  have w_3 := hw
  subst w_3
  obtain ⟨hP, hD⟩ := va_join (wr := [(m0, .inr (11, y0)), (y1, .inl (kA 0, 6000, .inl (fun _ => 0)))]) (w1 := [(h0, .inr (10, [.ref x0, .int 20, .ref x1, .ref x2, .ref x3, .ref x4, .ref x5, .ref x6, .ref x7, .ref x8, .int 0, .int 3000])), (x0, .inl (kA 3, 6000, .inl u_2))]) hP hD [0, 1] [2, 3] rfl rfl (by decide) (by decide) hk1 hFc hP1 hD1
  generalize H1 = H at hP hS ⊢
  have hP : va_P D vwCl [(m0, .inr (11, y0)), (y1, .inl (kA 0, 6000, .inl (fun _ => 0))), (h0, .inr (10, [.ref x0, .int 20, .ref x1, .ref x2, .ref x3, .ref x4, .ref x5, .ref x6, .ref x7, .ref x8, .int 0, .int 3000])), (x0, .inl (kA 3, 6000, .inl u_2))] H := hP
  have hD : va_D A [(m0, .inr (11, y0)), (y1, .inl (kA 0, 6000, .inl (fun _ => 0))), (h0, .inr (10, [.ref x0, .int 20, .ref x1, .ref x2, .ref x3, .ref x4, .ref x5, .ref x6, .ref x7, .ref x8, .int 0, .int 3000])), (x0, .inl (kA 3, 6000, .inl u_2))] := hD
  refine lv_aload_n hx hb dL_law_186 rfl (lv_at hl 2 rfl) ?_
  refine lv_aload_n hx hb dL_law_187 rfl (lv_at hl 0 rfl) ?_
  refine lv_iload hx hb dL_law_188 (lv_at hl 4 rfl) ?_
  refine lv_iconst (v := 1) hx hb dL_law_190 (by decide) ?_
  refine lv_iadd hx hb dL_law_191 ?_
  refine W.eq (g2 := F0 m 192 ls [.int 1, .ref b, .ref m0, .int 1]) rfl ?_
  refine va_sld hx hb hX hbl hbA hS (show vp_in 1 8 by unfold vp_in; decide) dL_law_192 ?_
  refine W.eq (g2 := F0 m 193 ls [.int (xs 1), .ref m0, .int 1]) rfl ?_
  refine lv_aload_n hx hb dL_law_193 rfl (lv_at hl 0 rfl) ?_
  refine lv_iload hx hb dL_law_194 (lv_at hl 4 rfl) ?_
  refine lv_iconst (v := 2) hx hb dL_law_196 (by decide) ?_
  refine lv_iadd hx hb dL_law_197 ?_
  refine W.eq (g2 := F0 m 198 ls [.int 2, .ref b, .int (xs 1), .ref m0, .int 1]) rfl ?_
  refine va_sld hx hb hX hbl hbA hS (show vp_in 2 8 by unfold vp_in; decide) dL_law_198 ?_
  refine W.eq (g2 := F0 m 199 ls [.int (xs 2), .int (xs 1), .ref m0, .int 1]) rfl ?_
  refine lv_aload_n hx hb dL_law_199 rfl (lv_at hl 0 rfl) ?_
  refine lv_iload hx hb dL_law_200 (lv_at hl 4 rfl) ?_
  refine lv_iconst (v := 3) hx hb dL_law_202 (by decide) ?_
  refine lv_iadd hx hb dL_law_203 ?_
  refine W.eq (g2 := F0 m 204 ls [.int 3, .ref b, .int (xs 2), .int (xs 1), .ref m0, .int 1]) rfl ?_
  refine va_sld hx hb hX hbl hbA hS (show vp_in 3 8 by unfold vp_in; decide) dL_law_204 ?_
  refine W.eq (g2 := F0 m 205 ls [.int (xs 3), .int (xs 2), .int (xs 1), .ref m0, .int 1]) rfl ?_
  refine lv_aload_n hx hb dL_law_205 rfl (lv_at hl 0 rfl) ?_
  refine lv_iload hx hb dL_law_206 (lv_at hl 4 rfl) ?_
  refine lv_iconst (v := 4) hx hb dL_law_208 (by decide) ?_
  refine lv_iadd hx hb dL_law_209 ?_
  refine W.eq (g2 := F0 m 210 ls [.int 4, .ref b, .int (xs 3), .int (xs 2), .int (xs 1), .ref m0, .int 1]) rfl ?_
  refine va_sld hx hb hX hbl hbA hS (show vp_in 4 8 by unfold vp_in; decide) dL_law_210 ?_
  refine W.eq (g2 := F0 m 211 ls [.int (xs 4), .int (xs 3), .int (xs 2), .int (xs 1), .ref m0, .int 1]) rfl ?_
  refine lv_aload_n hx hb dL_law_211 rfl (lv_at hl 0 rfl) ?_
  refine lv_iload hx hb dL_law_212 (lv_at hl 4 rfl) ?_
  refine lv_iconst (v := 5) hx hb dL_law_214 (by decide) ?_
  refine lv_iadd hx hb dL_law_215 ?_
  refine W.eq (g2 := F0 m 216 ls [.int 5, .ref b, .int (xs 4), .int (xs 3), .int (xs 2), .int (xs 1), .ref m0, .int 1]) rfl ?_
  refine va_sld hx hb hX hbl hbA hS (show vp_in 5 8 by unfold vp_in; decide) dL_law_216 ?_
  refine W.eq (g2 := F0 m 217 ls [.int (xs 5), .int (xs 4), .int (xs 3), .int (xs 2), .int (xs 1), .ref m0, .int 1]) rfl ?_
  have hPc := hP.sub (ws' := [(m0, .inr (11, y0)), (y1, .inl (kA 0, 6000, .inl (fun _ => 0)))]) [0, 1] rfl
  have hDc := hD.sub (ws' := [(m0, .inr (11, y0)), (y1, .inl (kA 0, 6000, .inl (fun _ => 0)))]) [0, 1] (by decide) rfl
  have hFc := va_free (wc := [(m0, .inr (11, y0)), (y1, .inl (kA 0, 6000, .inl (fun _ => 0)))]) hD hS hA [0, 1] rfl
  refine va_calli (va_runV (As := [.int (xs 1), .int (xs 2), .int (xs 3), .int (xs 4), .int (xs 5)]) (rest := [.int 1]) ⟨hx, hb, hml, hown, hts⟩ (a95_X12_feed l  D kA V H.size m0 (xs 1) (xs 2) (xs 3) (xs 4) (xs 5) y1 y0 (fun k hk => (hq k hk)) hq0 hq1) (cwV 5 hts (gw_V gw_2254 gw_2255 gw_2256 gw_16 gw_2257) rfl rfl rfl (by decide +kernel) ⟨(Nat.le_of_ble_eq_true rfl), (Nat.le_of_ble_eq_true rfl)⟩) ⟨aP.blind, va_recv hK hP (ci := 11) (q0 := 0) rfl rfl, aP.pre hE hS hPc hK hDc hFc⟩ rfl rfl hl.1 rfl (lv_room (Nat.le_of_ble_eq_true rfl)) dL_law_217 ⟨(Nat.le_of_ble_eq_true rfl), (Nat.le_of_ble_eq_true rfl)⟩) hS (fun q _ h => hFc q h) hFc (fun r_4 u t H1 locs ht hvm hw hB hz1 hk1 hS => ?_)
  obtain ⟨u_5, rfl⟩ : ∃ z, z = u := ⟨u, rfl⟩
  obtain ⟨hP1, hD1⟩ := hB
  rw [ht] at hP1
  try dsimp only at hw hP1 hD1
  obtain ⟨w_6, w_7⟩ := hw
  subst w_6
  subst w_7
  obtain ⟨hP, hD⟩ := va_join (wr := [(h0, .inr (10, [.ref x0, .int 20, .ref x1, .ref x2, .ref x3, .ref x4, .ref x5, .ref x6, .ref x7, .ref x8, .int 0, .int 3000])), (x0, .inl (kA 3, 6000, .inl u_2))]) (w1 := [(m0, .inr (11, ((((((((((((((((((((y0.set 9 (.int 0)).set 1 (.int 1)).set 1 (.int 2)).set 1 (.int 3)).set 1 (.int 4)).set 1 (.int 5)).set 1 (.int 6)).set 1 (.int 7)).set 1 (.int 8)).set 1 (.int 9)).set 1 (.int 10)).set 1 (.int 11)).set 1 (.int 12)).set 1 (.int 13)).set 1 (.int 14)).set 1 (.int 15)).set 1 (.int 16)).set 1 (.int 17)).set 1 (.int 18)).set 1 (.int 19)).set 1 (.int 20))), (y1, .inl (kA 0, 6000, .inl (upd (upd (upd (upd (upd (upd (upd (upd (upd (upd (upd (upd (upd (upd (upd (upd (upd (upd (upd (upd (fun _ => 0) 0 (((xs 1) >>> (24 &&& 31)) &&& 255)) 1 (((xs 1) >>> (16 &&& 31)) &&& 255)) 2 (((xs 1) >>> (8 &&& 31)) &&& 255)) 3 (((xs 1) >>> (0 &&& 31)) &&& 255)) 4 (((xs 2) >>> (24 &&& 31)) &&& 255)) 5 (((xs 2) >>> (16 &&& 31)) &&& 255)) 6 (((xs 2) >>> (8 &&& 31)) &&& 255)) 7 (((xs 2) >>> (0 &&& 31)) &&& 255)) 8 (((xs 3) >>> (24 &&& 31)) &&& 255)) 9 (((xs 3) >>> (16 &&& 31)) &&& 255)) 10 (((xs 3) >>> (8 &&& 31)) &&& 255)) 11 (((xs 3) >>> (0 &&& 31)) &&& 255)) 12 (((xs 4) >>> (24 &&& 31)) &&& 255)) 13 (((xs 4) >>> (16 &&& 31)) &&& 255)) 14 (((xs 4) >>> (8 &&& 31)) &&& 255)) 15 (((xs 4) >>> (0 &&& 31)) &&& 255)) 16 (((xs 5) >>> (24 &&& 31)) &&& 255)) 17 (((xs 5) >>> (16 &&& 31)) &&& 255)) 18 (((xs 5) >>> (8 &&& 31)) &&& 255)) 19 (((xs 5) >>> (0 &&& 31)) &&& 255))))]) hP hD [0, 1] [2, 3] rfl rfl (by decide) (by decide) hk1 hFc hP1 hD1
  generalize H1 = H at hP hS ⊢
  have hP : va_P D vwCl [(h0, .inr (10, [.ref x0, .int 20, .ref x1, .ref x2, .ref x3, .ref x4, .ref x5, .ref x6, .ref x7, .ref x8, .int 0, .int 3000])), (x0, .inl (kA 3, 6000, .inl u_2)), (m0, .inr (11, ((((((((((((((((((((y0.set 9 (.int 0)).set 1 (.int 1)).set 1 (.int 2)).set 1 (.int 3)).set 1 (.int 4)).set 1 (.int 5)).set 1 (.int 6)).set 1 (.int 7)).set 1 (.int 8)).set 1 (.int 9)).set 1 (.int 10)).set 1 (.int 11)).set 1 (.int 12)).set 1 (.int 13)).set 1 (.int 14)).set 1 (.int 15)).set 1 (.int 16)).set 1 (.int 17)).set 1 (.int 18)).set 1 (.int 19)).set 1 (.int 20))), (y1, .inl (kA 0, 6000, .inl (upd (upd (upd (upd (upd (upd (upd (upd (upd (upd (upd (upd (upd (upd (upd (upd (upd (upd (upd (upd (fun _ => 0) 0 (((xs 1) >>> (24 &&& 31)) &&& 255)) 1 (((xs 1) >>> (16 &&& 31)) &&& 255)) 2 (((xs 1) >>> (8 &&& 31)) &&& 255)) 3 (((xs 1) >>> (0 &&& 31)) &&& 255)) 4 (((xs 2) >>> (24 &&& 31)) &&& 255)) 5 (((xs 2) >>> (16 &&& 31)) &&& 255)) 6 (((xs 2) >>> (8 &&& 31)) &&& 255)) 7 (((xs 2) >>> (0 &&& 31)) &&& 255)) 8 (((xs 3) >>> (24 &&& 31)) &&& 255)) 9 (((xs 3) >>> (16 &&& 31)) &&& 255)) 10 (((xs 3) >>> (8 &&& 31)) &&& 255)) 11 (((xs 3) >>> (0 &&& 31)) &&& 255)) 12 (((xs 4) >>> (24 &&& 31)) &&& 255)) 13 (((xs 4) >>> (16 &&& 31)) &&& 255)) 14 (((xs 4) >>> (8 &&& 31)) &&& 255)) 15 (((xs 4) >>> (0 &&& 31)) &&& 255)) 16 (((xs 5) >>> (24 &&& 31)) &&& 255)) 17 (((xs 5) >>> (16 &&& 31)) &&& 255)) 18 (((xs 5) >>> (8 &&& 31)) &&& 255)) 19 (((xs 5) >>> (0 &&& 31)) &&& 255))))] H := hP
  have hD : va_D A [(h0, .inr (10, [.ref x0, .int 20, .ref x1, .ref x2, .ref x3, .ref x4, .ref x5, .ref x6, .ref x7, .ref x8, .int 0, .int 3000])), (x0, .inl (kA 3, 6000, .inl u_2)), (m0, .inr (11, ((((((((((((((((((((y0.set 9 (.int 0)).set 1 (.int 1)).set 1 (.int 2)).set 1 (.int 3)).set 1 (.int 4)).set 1 (.int 5)).set 1 (.int 6)).set 1 (.int 7)).set 1 (.int 8)).set 1 (.int 9)).set 1 (.int 10)).set 1 (.int 11)).set 1 (.int 12)).set 1 (.int 13)).set 1 (.int 14)).set 1 (.int 15)).set 1 (.int 16)).set 1 (.int 17)).set 1 (.int 18)).set 1 (.int 19)).set 1 (.int 20))), (y1, .inl (kA 0, 6000, .inl (upd (upd (upd (upd (upd (upd (upd (upd (upd (upd (upd (upd (upd (upd (upd (upd (upd (upd (upd (upd (fun _ => 0) 0 (((xs 1) >>> (24 &&& 31)) &&& 255)) 1 (((xs 1) >>> (16 &&& 31)) &&& 255)) 2 (((xs 1) >>> (8 &&& 31)) &&& 255)) 3 (((xs 1) >>> (0 &&& 31)) &&& 255)) 4 (((xs 2) >>> (24 &&& 31)) &&& 255)) 5 (((xs 2) >>> (16 &&& 31)) &&& 255)) 6 (((xs 2) >>> (8 &&& 31)) &&& 255)) 7 (((xs 2) >>> (0 &&& 31)) &&& 255)) 8 (((xs 3) >>> (24 &&& 31)) &&& 255)) 9 (((xs 3) >>> (16 &&& 31)) &&& 255)) 10 (((xs 3) >>> (8 &&& 31)) &&& 255)) 11 (((xs 3) >>> (0 &&& 31)) &&& 255)) 12 (((xs 4) >>> (24 &&& 31)) &&& 255)) 13 (((xs 4) >>> (16 &&& 31)) &&& 255)) 14 (((xs 4) >>> (8 &&& 31)) &&& 255)) 15 (((xs 4) >>> (0 &&& 31)) &&& 255)) 16 (((xs 5) >>> (24 &&& 31)) &&& 255)) 17 (((xs 5) >>> (16 &&& 31)) &&& 255)) 18 (((xs 5) >>> (8 &&& 31)) &&& 255)) 19 (((xs 5) >>> (0 &&& 31)) &&& 255))))] := hD
  refine lv_icmp_eq (tgt := 1804) hx hb dL_law_220 (by decide) (fun c_8 => ?_) (fun c_8 => ?_)
  · skip
    exact lk_tail hC hA2 (lv_sub hl [0, 4] rfl) hS (Nat.le_of_ble_eq_true rfl) (Nat.le_of_ble_eq_true rfl)
  · exact absurd (by decide) c_8
