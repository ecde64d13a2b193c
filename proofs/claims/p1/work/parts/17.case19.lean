theorem dL_law_1293 : decode cL_law 1293 = .ok (.aload_n 1, 1) := by decide +kernel
theorem dL_law_1294 : decode cL_law 1294 = .ok (.aload_n 0, 1) := by decide +kernel
theorem dL_law_1295 : decode cL_law 1295 = .ok (.iload 4, 2) := by decide +kernel
theorem dL_law_1297 : decode cL_law 1297 = .ok (.iconst 1, 1) := by decide +kernel
theorem dL_law_1298 : decode cL_law 1298 = .ok (.iadd, 1) := by decide +kernel
theorem dL_law_1299 : decode cL_law 1299 = .ok (.iaload, 1) := by decide +kernel
theorem dL_law_1300 : decode cL_law 1300 = .ok (.aload_n 3, 1) := by decide +kernel
theorem dL_law_1301 : decode cL_law 1301 = .ok (.invokestatic 171, 3) := by decide +kernel
theorem dL_law_1304 : decode cL_law 1304 = .ok (.istore 5, 2) := by decide +kernel
theorem dL_law_1306 : decode cL_law 1306 = .ok (.aload_n 2, 1) := by decide +kernel
theorem dL_law_1307 : decode cL_law 1307 = .ok (.aload_n 0, 1) := by decide +kernel
theorem dL_law_1308 : decode cL_law 1308 = .ok (.iload 4, 2) := by decide +kernel
theorem dL_law_1310 : decode cL_law 1310 = .ok (.iconst 1, 1) := by decide +kernel
theorem dL_law_1311 : decode cL_law 1311 = .ok (.iadd, 1) := by decide +kernel
theorem dL_law_1312 : decode cL_law 1312 = .ok (.iaload, 1) := by decide +kernel
theorem dL_law_1313 : decode cL_law 1313 = .ok (.invokevirtual 173, 3) := by decide +kernel
theorem dL_law_1316 : decode cL_law 1316 = .ok (.istore 6, 2) := by decide +kernel
theorem dL_law_1318 : decode cL_law 1318 = .ok (.aload_n 2, 1) := by decide +kernel
theorem dL_law_1319 : decode cL_law 1319 = .ok (.invokevirtual 116, 3) := by decide +kernel
theorem dL_law_1322 : decode cL_law 1322 = .ok (.iload 5, 2) := by decide +kernel
theorem dL_law_1324 : decode cL_law 1324 = .ok (.if_icmp .eq 5, 3) := by decide +kernel
theorem dL_law_1329 : decode cL_law 1329 = .ok (.iload 5, 2) := by decide +kernel
theorem dL_law_1331 : decode cL_law 1331 = .ok (.ifCond .ne 15, 3) := by decide +kernel
theorem dL_law_1334 : decode cL_law 1334 = .ok (.aload_n 3, 1) := by decide +kernel
theorem dL_law_1335 : decode cL_law 1335 = .ok (.iconst 0, 1) := by decide +kernel
theorem dL_law_1336 : decode cL_law 1336 = .ok (.laload, 1) := by decide +kernel
theorem dL_law_1337 : decode cL_law 1337 = .ok (.iload 6, 2) := by decide +kernel
theorem dL_law_1339 : decode cL_law 1339 = .ok (.i2l, 1) := by decide +kernel
theorem dL_law_1340 : decode cL_law 1340 = .ok (.lcmp, 1) := by decide +kernel
theorem dL_law_1341 : decode cL_law 1341 = .ok (.ifCond .eq 5, 3) := by decide +kernel
theorem dL_law_1346 : decode cL_law 1346 = .ok (.goto 458, 3) := by decide +kernel
set_option maxHeartbeats 4000000 in
set_option maxRecDepth 100000 in
theorem lk_19 {p : Program} {l : Launch} {e : Env} {s : State} {m : MethodId} {below : List Frame} {meth : Method} {c : Code} {D : va_G} {kA : Nat → ClassId} {V : Nat → Nat} {b : Nat} {xs : Nat → Int32} {A : Nat → Prop} (hC : lw_C p l s m meth c b 8 xs D kA V A) (hA2 : ∀ q, A q → s.heap.size ≤ q) (h0 : Nat) (m0 : Nat) (o0 : Nat) (x0 : Nat) (x1 : Nat) (x2 : Nat) (x3 : Nat) (x4 : Nat) (x5 : Nat) (x6 : Nat) (x7 : Nat) (x8 : Nat) (x26 : Nat) (x27 : Nat) (x28 : Nat) (x29 : Nat) (x30 : Nat) (x31 : Nat) (x32 : Nat) (x33 : Nat) (x34 : Nat) (x35 : Nat) (x36 : Nat) (x37 : Nat) (x38 : Nat) (x39 : Nat) (x40 : Nat) (x41 : Nat) (x42 : Nat) (x43 : Nat) (x44 : Nat) (y0 : List Value) (y4 : Nat) (y6 : Nat) (y7 : Nat) (y8 : Nat) (y9 : Nat) (hq : ∀ k, k < 121 → k < y0.length) (hq1 : y0[1]? = some (.int 0)) (hq9 : y0[9]? = some (.int 0)) (hq19 : y0[19]? = some (.ref y4)) (hq36 : y0[36]? = some (.ref y6)) (hq37 : y0[37]? = some (.ref y7)) (hq42 : y0[42]? = some (.ref y8)) (hq48 : y0[48]? = some (.ref y9)) (hq55 : y0[55]? = some (.int 0)) (hq98 : y0[98]? = some (.int 0)) (hq103 : y0[103]? = some (.int 0)) (hq104 : y0[104]? = some (.int 0)) (hq105 : y0[105]? = some (.int 3000))  {H : Heap} {locs : List Loc} {ls : Array Slot} (hl : lv_has ls 8 [(0, .ref b), (1, .ref h0), (2, .ref m0), (3, .ref o0), (4, .int 0)]) (hS : va_S A s.heap H locs) (hP : va_P D vwCl [(h0, .inr (10, [.ref x0, .int 0, .ref x1, .ref x2, .ref x3, .ref x4, .ref x5, .ref x6, .ref x7, .ref x8, .int 0, .int 3000])), (x6, .inr (9, [.ref x26, .ref x27, .ref x28, .int 0, .ref x29, .ref x30, .ref x31, .ref x32, .int 0, .int 0])), (x7, .inr (5, [.ref x33, .ref x34, .ref x35, .ref x36, .ref x37, .ref x38, .ref x39, .ref x40, .ref x41, .ref x42, .ref x43, .ref x44, .int 0, .int 0, .int 0, .int (-1)])), (x37, .inl (kA 0, 5, .inl (fun _ => 0))), (m0, .inr (11, y0)), (y4, .inl (kA 0, 2, .inl (fun _ => 0))), (y6, .inl (kA 0, 2, .inl (fun _ => 0))), (y7, .inl (kA 0, 2, .inl (fun _ => 0))), (y8, .inl (kA 0, 2, .inl (fun _ => 0))), (y9, .inl (kA 0, 2, .inl (fun _ => 0))), (o0, .inl (kA 1, 1, .inr (.inl (fun _ => 0))))] H) (hD : va_D A [(h0, .inr (10, [.ref x0, .int 0, .ref x1, .ref x2, .ref x3, .ref x4, .ref x5, .ref x6, .ref x7, .ref x8, .int 0, .int 3000])), (x6, .inr (9, [.ref x26, .ref x27, .ref x28, .int 0, .ref x29, .ref x30, .ref x31, .ref x32, .int 0, .int 0])), (x7, .inr (5, [.ref x33, .ref x34, .ref x35, .ref x36, .ref x37, .ref x38, .ref x39, .ref x40, .ref x41, .ref x42, .ref x43, .ref x44, .int 0, .int 0, .int 0, .int (-1)])), (x37, .inl (kA 0, 5, .inl (fun _ => 0))), (m0, .inr (11, y0)), (y4, .inl (kA 0, 2, .inl (fun _ => 0))), (y6, .inl (kA 0, 2, .inl (fun _ => 0))), (y7, .inl (kA 0, 2, .inl (fun _ => 0))), (y8, .inl (kA 0, 2, .inl (fun _ => 0))), (y9, .inl (kA 0, 2, .inl (fun _ => 0))), (o0, .inl (kA 1, 1, .inr (.inl (fun _ => 0))))]) : W p l e room_1 s m #[Value.ref b] below meth c H locs 514 172793 (lw_Z below #[Value.ref b] s) (F0 m 1293 ls []) := by
  have ⟨hst, hx, hb, hr, hml, hown, hts, hG, hX, hbl, hbA, hlocks, hE, hK, hA⟩ := hC
  refine lv_aload_n hx hb dL_law_1293 rfl (lv_at hl 1 rfl) ?_
  refine lv_aload_n hx hb dL_law_1294 rfl (lv_at hl 0 rfl) ?_
  refine lv_iload hx hb dL_law_1295 (lv_at hl 4 rfl) ?_
  refine lv_iconst (v := 1) hx hb dL_law_1297 (by decide) ?_
  refine lv_iadd hx hb dL_law_1298 ?_
  refine W.eq (g2 := F0 m 1299 ls [.int 1, .ref b, .ref h0]) rfl ?_
  refine va_sld hx hb hX hbl hbA hS (show vp_in 1 8 by unfold vp_in; decide) dL_law_1299 ?_
  refine W.eq (g2 := F0 m 1300 ls [.int (xs 1), .ref h0]) rfl ?_
  refine lv_aload_n hx hb dL_law_1300 rfl (lv_at hl 3 rfl) ?_
  have hPc := hP.sub (ws' := [(h0, .inr (10, [.ref x0, .int 0, .ref x1, .ref x2, .ref x3, .ref x4, .ref x5, .ref x6, .ref x7, .ref x8, .int 0, .int 3000])), (x6, .inr (9, [.ref x26, .ref x27, .ref x28, .int 0, .ref x29, .ref x30, .ref x31, .ref x32, .int 0, .int 0])), (x7, .inr (5, [.ref x33, .ref x34, .ref x35, .ref x36, .ref x37, .ref x38, .ref x39, .ref x40, .ref x41, .ref x42, .ref x43, .ref x44, .int 0, .int 0, .int 0, .int (-1)])), (x37, .inl (kA 0, 5, .inl (fun _ => 0))), (o0, .inl (kA 1, 1, .inr (.inl (fun _ => 0))))]) [0, 1, 2, 3, 10] rfl
  have hDc := hD.sub (ws' := [(h0, .inr (10, [.ref x0, .int 0, .ref x1, .ref x2, .ref x3, .ref x4, .ref x5, .ref x6, .ref x7, .ref x8, .int 0, .int 3000])), (x6, .inr (9, [.ref x26, .ref x27, .ref x28, .int 0, .ref x29, .ref x30, .ref x31, .ref x32, .int 0, .int 0])), (x7, .inr (5, [.ref x33, .ref x34, .ref x35, .ref x36, .ref x37, .ref x38, .ref x39, .ref x40, .ref x41, .ref x42, .ref x43, .ref x44, .int 0, .int 0, .int 0, .int (-1)])), (x37, .inl (kA 0, 5, .inl (fun _ => 0))), (o0, .inl (kA 1, 1, .inr (.inl (fun _ => 0))))]) [0, 1, 2, 3, 10] (by decide) rfl
  have hFc := va_free (wc := [(h0, .inr (10, [.ref x0, .int 0, .ref x1, .ref x2, .ref x3, .ref x4, .ref x5, .ref x6, .ref x7, .ref x8, .int 0, .int 3000])), (x6, .inr (9, [.ref x26, .ref x27, .ref x28, .int 0, .ref x29, .ref x30, .ref x31, .ref x32, .int 0, .int 0])), (x7, .inr (5, [.ref x33, .ref x34, .ref x35, .ref x36, .ref x37, .ref x38, .ref x39, .ref x40, .ref x41, .ref x42, .ref x43, .ref x44, .int 0, .int 0, .int 0, .int (-1)])), (x37, .inl (kA 0, 5, .inl (fun _ => 0))), (o0, .inl (kA 1, 1, .inr (.inl (fun _ => 0))))]) hD hS hA [0, 1, 2, 3, 10] rfl
  refine va_calli (vx_runSW (As := [.ref h0, .int (xs 1), .ref o0]) (rest := []) ⟨hx, hb, hml, hown, hts⟩ (a170_L_count l hst D kA V H.size h0 (xs 1) o0 x0 x1 x2 x3 x4 x5 x6 x7 x8 x26 x27 x28 x29 x30 x31 x32 x33 x34 x35 x36 x37 x38 x39 x40 x41 x42 x43 x44) (vx_cwSW 3 hts (gw_SW gw_1819 gw_1820 gw_0 gw_1821) rfl rfl rfl (by decide +kernel) ⟨(Nat.le_of_ble_eq_true rfl), (Nat.le_of_ble_eq_true rfl)⟩) ⟨aP.blind, aP.pre hE hS hPc hK hDc hFc⟩ rfl rfl hl.1 rfl (lv_room (Nat.le_of_ble_eq_true rfl)) dL_law_1301 ⟨(Nat.le_of_ble_eq_true rfl), (Nat.le_of_ble_eq_true rfl)⟩) hS (fun q _ h => hFc q h) hFc (fun r_1 u t H1 locs ht hvm hw hB hz1 hk1 hS => ?_)
  obtain ⟨u_2, rfl⟩ : ∃ z, z = u := ⟨u, rfl⟩
  obtain ⟨hP1, hD1⟩ := hB
  rw [ht] at hP1
  try dsimp only at hw hP1 hD1
  rcases hw with ⟨c_3, c_4, c_5, c_6, c_7, c_8, c_9, c_10, c_11, c_12, c_13, w_14, w_15⟩ | ⟨c_16, w_17, w_18⟩ | ⟨c_19, c_20, w_21, w_22⟩ | ⟨c_23, c_24, c_25, w_26, w_27⟩ | ⟨c_28, c_29, c_30, c_31, w_32, w_33⟩ | ⟨c_34, c_35, c_36, c_37, c_38, w_39, w_40⟩ | ⟨c_41, c_42, c_43, c_44, c_45, c_46, w_47, w_48⟩ | ⟨c_49, c_50, c_51, c_52, c_53, c_54, c_55, w_56, w_57⟩ | ⟨c_58, c_59, c_60, c_61, c_62, c_63, c_64, c_65, w_66, w_67⟩ | ⟨c_68, c_69, c_70, c_71, c_72, c_73, c_74, c_75, c_76, w_77, w_78⟩ | ⟨c_79, c_80, c_81, c_82, c_83, c_84, c_85, c_86, c_87, c_88, w_89, w_90⟩ | ⟨c_91, c_92, c_93, c_94, c_95, c_96, c_97, c_98, c_99, c_100, c_101, w_102, w_103⟩
  · skip
    subst w_14
    subst w_15
    obtain ⟨hP, hD⟩ := va_join (wr := [(m0, .inr (11, y0)), (y4, .inl (kA 0, 2, .inl (fun _ => 0))), (y6, .inl (kA 0, 2, .inl (fun _ => 0))), (y7, .inl (kA 0, 2, .inl (fun _ => 0))), (y8, .inl (kA 0, 2, .inl (fun _ => 0))), (y9, .inl (kA 0, 2, .inl (fun _ => 0)))]) (w1 := [(o0, .inl (kA 1, 1, .inr (.inl (fun _ => 0))))]) hP hD [0, 1, 2, 3, 10] [4, 5, 6, 7, 8, 9] rfl rfl (by decide) (by decide) hk1 hFc hP1 hD1
    generalize H1 = H at hP hS ⊢
    have hP : va_P D vwCl [(m0, .inr (11, y0)), (y4, .inl (kA 0, 2, .inl (fun _ => 0))), (y6, .inl (kA 0, 2, .inl (fun _ => 0))), (y7, .inl (kA 0, 2, .inl (fun _ => 0))), (y8, .inl (kA 0, 2, .inl (fun _ => 0))), (y9, .inl (kA 0, 2, .inl (fun _ => 0))), (o0, .inl (kA 1, 1, .inr (.inl (fun _ => 0))))] H := hP
    have hD : va_D A [(m0, .inr (11, y0)), (y4, .inl (kA 0, 2, .inl (fun _ => 0))), (y6, .inl (kA 0, 2, .inl (fun _ => 0))), (y7, .inl (kA 0, 2, .inl (fun _ => 0))), (y8, .inl (kA 0, 2, .inl (fun _ => 0))), (y9, .inl (kA 0, 2, .inl (fun _ => 0))), (o0, .inl (kA 1, 1, .inr (.inl (fun _ => 0))))] := hD
    refine lv_istore (lv' := [(5, .int 1), (0, .ref b), (1, .ref h0), (2, .ref m0), (3, .ref o0), (4, .int 0)]) hx hb dL_law_1304 hl (by decide) rfl (fun ls hl => ?_)
    refine lv_aload_n hx hb dL_law_1306 rfl (lv_at hl 3 rfl) ?_
    refine lv_aload_n hx hb dL_law_1307 rfl (lv_at hl 1 rfl) ?_
    refine lv_iload hx hb dL_law_1308 (lv_at hl 5 rfl) ?_
    refine lv_iconst (v := 1) hx hb dL_law_1310 (by decide) ?_
    refine lv_iadd hx hb dL_law_1311 ?_
    refine W.eq (g2 := F0 m 1312 ls [.int 1, .ref b, .ref m0]) rfl ?_
    refine va_sld hx hb hX hbl hbA hS (show vp_in 1 8 by unfold vp_in; decide) dL_law_1312 ?_
    refine W.eq (g2 := F0 m 1313 ls [.int (xs 1), .ref m0]) rfl ?_
    have hPc := hP.sub (ws' := [(m0, .inr (11, y0)), (y4, .inl (kA 0, 2, .inl (fun _ => 0))), (y6, .inl (kA 0, 2, .inl (fun _ => 0))), (y7, .inl (kA 0, 2, .inl (fun _ => 0))), (y8, .inl (kA 0, 2, .inl (fun _ => 0))), (y9, .inl (kA 0, 2, .inl (fun _ => 0)))]) [0, 1, 2, 3, 4, 5] rfl
    have hDc := hD.sub (ws' := [(m0, .inr (11, y0)), (y4, .inl (kA 0, 2, .inl (fun _ => 0))), (y6, .inl (kA 0, 2, .inl (fun _ => 0))), (y7, .inl (kA 0, 2, .inl (fun _ => 0))), (y8, .inl (kA 0, 2, .inl (fun _ => 0))), (y9, .inl (kA 0, 2, .inl (fun _ => 0)))]) [0, 1, 2, 3, 4, 5] (by decide) rfl
    have hFc := va_free (wc := [(m0, .inr (11, y0)), (y4, .inl (kA 0, 2, .inl (fun _ => 0))), (y6, .inl (kA 0, 2, .inl (fun _ => 0))), (y7, .inl (kA 0, 2, .inl (fun _ => 0))), (y8, .inl (kA 0, 2, .inl (fun _ => 0))), (y9, .inl (kA 0, 2, .inl (fun _ => 0)))]) hD hS hA [0, 1, 2, 3, 4, 5] rfl
    refine va_calli (va_runV (As := [.int (xs 1)]) (rest := []) ⟨hx, hb, hml, hown, hts⟩ (a147_X12_count l  D kA V H.size m0 (xs 1) y4 y6 y7 y8 y9 y0 (fun k hk => (hq k hk)) hq1 hq19 hq36 hq37 hq42 hq48 hq55 hq98 hq103 hq104 hq105) (cwV 1 hts (gw_V gw_2740 gw_2741 gw_2742 gw_16 gw_2743) rfl rfl rfl (by decide +kernel) ⟨(Nat.le_of_ble_eq_true rfl), (Nat.le_of_ble_eq_true rfl)⟩) ⟨aP.blind, va_recv hK hP (ci := 11) (q0 := 0) rfl rfl, aP.pre hE hS hPc hK hDc hFc⟩ rfl rfl hl.1 rfl (lv_room (Nat.le_of_ble_eq_true rfl)) dL_law_1313 ⟨(Nat.le_of_ble_eq_true rfl), (Nat.le_of_ble_eq_true rfl)⟩) hS (fun q _ h => hFc q h) hFc (fun r_104 u t H1 locs ht hvm hw hB hz1 hk1 hS => ?_)
    obtain ⟨u_105, rfl⟩ : ∃ z, z = u := ⟨u, rfl⟩
    obtain ⟨hP1, hD1⟩ := hB
    rw [ht] at hP1
    try dsimp only at hw hP1 hD1
    rcases hw with ⟨c_106, c_107, c_108, c_109, c_110, c_111, c_112, c_113, c_114, c_115, c_116, c_117, w_118, w_119⟩ | ⟨c_120, c_121, c_122, c_123, c_124, c_125, c_126, c_127, c_128, c_129, c_130, c_131, c_132, w_133, w_134⟩ | ⟨c_135, c_136, c_137, w_138, w_139⟩ | ⟨c_140, c_141, c_142, c_143, w_144, w_145⟩ | ⟨c_146, c_147, c_148, c_149, c_150, w_151, w_152⟩ | ⟨c_153, c_154, c_155, c_156, c_157, c_158, w_159, w_160⟩ | ⟨c_161, c_162, c_163, c_164, c_165, c_166, c_167, w_168, w_169⟩ | ⟨c_170, c_171, c_172, c_173, c_174, c_175, c_176, c_177, w_178, w_179⟩ | ⟨c_180, c_181, c_182, c_183, c_184, c_185, c_186, c_187, c_188, w_189, w_190⟩ | ⟨c_191, c_192, c_193, c_194, c_195, c_196, c_197, c_198, c_199, c_200, w_201, w_202⟩ | ⟨c_203, c_204, c_205, c_206, c_207, c_208, c_209, c_210, c_211, c_212, c_213, w_214, w_215⟩ | ⟨c_216, c_217, c_218, c_219, c_220, c_221, c_222, c_223, c_224, c_225, c_226, c_227, w_228, w_229⟩ | ⟨c_230, c_231, c_232, c_233, c_234, c_235, c_236, c_237, c_238, c_239, c_240, c_241, c_242, w_243, w_244⟩
    · skip
      subst w_118
      subst w_119
      obtain ⟨hP, hD⟩ := va_join (wr := [(o0, .inl (kA 1, 1, .inr (.inl (fun _ => 0))))]) (w1 := [(m0, .inr (11, y0.set 9 (.int 1))), (y4, .inl (kA 0, 2, .inl (fun _ => 0))), (y6, .inl (kA 0, 2, .inl (fun _ => 0))), (y7, .inl (kA 0, 2, .inl (fun _ => 0))), (y8, .inl (kA 0, 2, .inl (fun _ => 0))), (y9, .inl (kA 0, 2, .inl (fun _ => 0)))]) hP hD [0, 1, 2, 3, 4, 5] [6] rfl rfl (by decide) (by decide) hk1 hFc hP1 hD1
      generalize H1 = H at hP hS ⊢
      have hP : va_P D vwCl [(o0, .inl (kA 1, 1, .inr (.inl (fun _ => 0)))), (m0, .inr (11, y0.set 9 (.int 1))), (y4, .inl (kA 0, 2, .inl (fun _ => 0))), (y6, .inl (kA 0, 2, .inl (fun _ => 0))), (y7, .inl (kA 0, 2, .inl (fun _ => 0))), (y8, .inl (kA 0, 2, .inl (fun _ => 0))), (y9, .inl (kA 0, 2, .inl (fun _ => 0)))] H := hP
      have hD : va_D A [(o0, .inl (kA 1, 1, .inr (.inl (fun _ => 0)))), (m0, .inr (11, y0.set 9 (.int 1))), (y4, .inl (kA 0, 2, .inl (fun _ => 0))), (y6, .inl (kA 0, 2, .inl (fun _ => 0))), (y7, .inl (kA 0, 2, .inl (fun _ => 0))), (y8, .inl (kA 0, 2, .inl (fun _ => 0))), (y9, .inl (kA 0, 2, .inl (fun _ => 0)))] := hD
      refine lv_istore (lv' := [(6, .int 0), (5, .int 1), (0, .ref b), (1, .ref h0), (2, .ref m0), (3, .ref o0), (4, .int 0)]) hx hb dL_law_1316 hl (by decide) rfl (fun ls hl => ?_)
      refine lv_aload_n hx hb dL_law_1318 rfl (lv_at hl 4 rfl) ?_
      have hPc := hP.sub (ws' := [(m0, .inr (11, y0.set 9 (.int 1)))]) [1] rfl
      have hDc := hD.sub (ws' := [(m0, .inr (11, y0.set 9 (.int 1)))]) [1] (by decide) rfl
      have hFc := va_free (wc := [(m0, .inr (11, y0.set 9 (.int 1)))]) hD hS hA [1] rfl
      refine va_calli (va_runV (As := []) (rest := []) ⟨hx, hb, hml, hown, hts⟩ (a174_X12_thrown l  D kA V H.size m0 (y0.set 9 (.int 1)) (fun k hk => (by rw [List.length_set]; exact (hq k hk))) (List.getElem?_set_self (hq 9 (by decide)))) (cwV 0 hts (gw_V gw_1879 gw_1880 gw_1881 gw_16 gw_1882) rfl rfl rfl (by decide +kernel) ⟨(Nat.le_of_ble_eq_true rfl), (Nat.le_of_ble_eq_true rfl)⟩) ⟨aP.blind, va_recv hK hP (ci := 11) (q0 := 1) rfl rfl, aP.pre hE hS hPc hK hDc hFc⟩ rfl rfl hl.1 rfl (lv_room (Nat.le_of_ble_eq_true rfl)) dL_law_1319 ⟨(Nat.le_of_ble_eq_true rfl), (Nat.le_of_ble_eq_true rfl)⟩) hS (fun q _ h => hFc q h) hFc (fun r_245 u t H1 locs ht hvm hw hB hz1 hk1 hS => ?_)
      obtain ⟨hP1, hD1⟩ := hB
      rw [ht] at hP1
      try dsimp only at hw hP1 hD1
      have w_246 := hw
      subst w_246
      obtain ⟨hP, hD⟩ := va_join (wr := [(o0, .inl (kA 1, 1, .inr (.inl (fun _ => 0)))), (y4, .inl (kA 0, 2, .inl (fun _ => 0))), (y6, .inl (kA 0, 2, .inl (fun _ => 0))), (y7, .inl (kA 0, 2, .inl (fun _ => 0))), (y8, .inl (kA 0, 2, .inl (fun _ => 0))), (y9, .inl (kA 0, 2, .inl (fun _ => 0)))]) (w1 := [(m0, .inr (11, (y0.set 9 (.int 1))))]) hP hD [1] [0, 2, 3, 4, 5, 6] rfl rfl (by decide) (by decide) hk1 hFc hP1 hD1
      generalize H1 = H at hP hS ⊢
      have hP : va_P D vwCl [(o0, .inl (kA 1, 1, .inr (.inl (fun _ => 0)))), (y4, .inl (kA 0, 2, .inl (fun _ => 0))), (y6, .inl (kA 0, 2, .inl (fun _ => 0))), (y7, .inl (kA 0, 2, .inl (fun _ => 0))), (y8, .inl (kA 0, 2, .inl (fun _ => 0))), (y9, .inl (kA 0, 2, .inl (fun _ => 0))), (m0, .inr (11, (y0.set 9 (.int 1))))] H := hP
      have hD : va_D A [(o0, .inl (kA 1, 1, .inr (.inl (fun _ => 0)))), (y4, .inl (kA 0, 2, .inl (fun _ => 0))), (y6, .inl (kA 0, 2, .inl (fun _ => 0))), (y7, .inl (kA 0, 2, .inl (fun _ => 0))), (y8, .inl (kA 0, 2, .inl (fun _ => 0))), (y9, .inl (kA 0, 2, .inl (fun _ => 0))), (m0, .inr (11, (y0.set 9 (.int 1))))] := hD
      refine lv_iload hx hb dL_law_1322 (lv_at hl 1 rfl) ?_
      refine lv_icmp_eq (tgt := 1329) hx hb dL_law_1324 (by decide) (fun c_247 => ?_) (fun c_247 => ?_)
      · skip
        refine lv_iload hx hb dL_law_1329 (lv_at hl 1 rfl) ?_
        refine lv_if_ne (tgt := 1346) hx hb dL_law_1331 (by decide) (fun c_248 => ?_) (fun c_248 => ?_)
        · skip
          refine lv_goto (tgt := 1804) hx hb dL_law_1346 (by decide) ?_
          exact lk_tail hC hA2 (lv_sub hl [2, 6] rfl) hS (Nat.le_of_ble_eq_true rfl) (Nat.le_of_ble_eq_true rfl)
        · exact absurd c_248 (by decide)
      · exact absurd (by decide) c_247
    · skip
      subst w_133
      subst w_134
      obtain ⟨hP, hD⟩ := va_join (wr := [(o0, .inl (kA 1, 1, .inr (.inl (fun _ => 0))))]) (w1 := [(m0, .inr (11, y0.set 9 (.int 1))), (y4, .inl (kA 0, 2, .inl (fun _ => 0))), (y6, .inl (kA 0, 2, .inl (fun _ => 0))), (y7, .inl (kA 0, 2, .inl (fun _ => 0))), (y8, .inl (kA 0, 2, .inl (fun _ => 0))), (y9, .inl (kA 0, 2, .inl (fun _ => 0)))]) hP hD [0, 1, 2, 3, 4, 5] [6] rfl rfl (by decide) (by decide) hk1 hFc hP1 hD1
      generalize H1 = H at hP hS ⊢
      have hP : va_P D vwCl [(o0, .inl (kA 1, 1, .inr (.inl (fun _ => 0)))), (m0, .inr (11, y0.set 9 (.int 1))), (y4, .inl (kA 0, 2, .inl (fun _ => 0))), (y6, .inl (kA 0, 2, .inl (fun _ => 0))), (y7, .inl (kA 0, 2, .inl (fun _ => 0))), (y8, .inl (kA 0, 2, .inl (fun _ => 0))), (y9, .inl (kA 0, 2, .inl (fun _ => 0)))] H := hP
      have hD : va_D A [(o0, .inl (kA 1, 1, .inr (.inl (fun _ => 0)))), (m0, .inr (11, y0.set 9 (.int 1))), (y4, .inl (kA 0, 2, .inl (fun _ => 0))), (y6, .inl (kA 0, 2, .inl (fun _ => 0))), (y7, .inl (kA 0, 2, .inl (fun _ => 0))), (y8, .inl (kA 0, 2, .inl (fun _ => 0))), (y9, .inl (kA 0, 2, .inl (fun _ => 0)))] := hD
      refine lv_istore (lv' := [(6, .int 0), (5, .int 1), (0, .ref b), (1, .ref h0), (2, .ref m0), (3, .ref o0), (4, .int 0)]) hx hb dL_law_1316 hl (by decide) rfl (fun ls hl => ?_)
      refine lv_aload_n hx hb dL_law_1318 rfl (lv_at hl 4 rfl) ?_
      have hPc := hP.sub (ws' := [(m0, .inr (11, y0.set 9 (.int 1)))]) [1] rfl
      have hDc := hD.sub (ws' := [(m0, .inr (11, y0.set 9 (.int 1)))]) [1] (by decide) rfl
      have hFc := va_free (wc := [(m0, .inr (11, y0.set 9 (.int 1)))]) hD hS hA [1] rfl
      refine va_calli (va_runV (As := []) (rest := []) ⟨hx, hb, hml, hown, hts⟩ (a174_X12_thrown l  D kA V H.size m0 (y0.set 9 (.int 1)) (fun k hk => (by rw [List.length_set]; exact (hq k hk))) (List.getElem?_set_self (hq 9 (by decide)))) (cwV 0 hts (gw_V gw_1879 gw_1880 gw_1881 gw_16 gw_1882) rfl rfl rfl (by decide +kernel) ⟨(Nat.le_of_ble_eq_true rfl), (Nat.le_of_ble_eq_true rfl)⟩) ⟨aP.blind, va_recv hK hP (ci := 11) (q0 := 1) rfl rfl, aP.pre hE hS hPc hK hDc hFc⟩ rfl rfl hl.1 rfl (lv_room (Nat.le_of_ble_eq_true rfl)) dL_law_1319 ⟨(Nat.le_of_ble_eq_true rfl), (Nat.le_of_ble_eq_true rfl)⟩) hS (fun q _ h => hFc q h) hFc (fun r_249 u t H1 locs ht hvm hw hB hz1 hk1 hS => ?_)
      obtain ⟨hP1, hD1⟩ := hB
      rw [ht] at hP1
      try dsimp only at hw hP1 hD1
      have w_250 := hw
      subst w_250
      obtain ⟨hP, hD⟩ := va_join (wr := [(o0, .inl (kA 1, 1, .inr (.inl (fun _ => 0)))), (y4, .inl (kA 0, 2, .inl (fun _ => 0))), (y6, .inl (kA 0, 2, .inl (fun _ => 0))), (y7, .inl (kA 0, 2, .inl (fun _ => 0))), (y8, .inl (kA 0, 2, .inl (fun _ => 0))), (y9, .inl (kA 0, 2, .inl (fun _ => 0)))]) (w1 := [(m0, .inr (11, (y0.set 9 (.int 1))))]) hP hD [1] [0, 2, 3, 4, 5, 6] rfl rfl (by decide) (by decide) hk1 hFc hP1 hD1
      generalize H1 = H at hP hS ⊢
      have hP : va_P D vwCl [(o0, .inl (kA 1, 1, .inr (.inl (fun _ => 0)))), (y4, .inl (kA 0, 2, .inl (fun _ => 0))), (y6, .inl (kA 0, 2, .inl (fun _ => 0))), (y7, .inl (kA 0, 2, .inl (fun _ => 0))), (y8, .inl (kA 0, 2, .inl (fun _ => 0))), (y9, .inl (kA 0, 2, .inl (fun _ => 0))), (m0, .inr (11, (y0.set 9 (.int 1))))] H := hP
      have hD : va_D A [(o0, .inl (kA 1, 1, .inr (.inl (fun _ => 0)))), (y4, .inl (kA 0, 2, .inl (fun _ => 0))), (y6, .inl (kA 0, 2, .inl (fun _ => 0))), (y7, .inl (kA 0, 2, .inl (fun _ => 0))), (y8, .inl (kA 0, 2, .inl (fun _ => 0))), (y9, .inl (kA 0, 2, .inl (fun _ => 0))), (m0, .inr (11, (y0.set 9 (.int 1))))] := hD
      refine lv_iload hx hb dL_law_1322 (lv_at hl 1 rfl) ?_
      refine lv_icmp_eq (tgt := 1329) hx hb dL_law_1324 (by decide) (fun c_251 => ?_) (fun c_251 => ?_)
      · skip
        refine lv_iload hx hb dL_law_1329 (lv_at hl 1 rfl) ?_
        refine lv_if_ne (tgt := 1346) hx hb dL_law_1331 (by decide) (fun c_252 => ?_) (fun c_252 => ?_)
        · skip
          refine lv_goto (tgt := 1804) hx hb dL_law_1346 (by decide) ?_
          exact lk_tail hC hA2 (lv_sub hl [2, 6] rfl) hS (Nat.le_of_ble_eq_true rfl) (Nat.le_of_ble_eq_true rfl)
        · exact absurd c_252 (by decide)
      · exact absurd (by decide) c_251
    · skip
      subst w_138
      subst w_139
      exact absurd c_137 c_3
    · skip
      subst w_144
      subst w_145
      exact absurd c_143 c_4
    · skip
      subst w_151
      subst w_152
      exact absurd c_150 c_5
    · skip
      subst w_159
      subst w_160
      exact absurd c_158 c_6
    · skip
      subst w_168
      subst w_169
      exact absurd c_167 c_7
    · skip
      subst w_178
      subst w_179
      exact absurd c_177 c_8
    · skip
      subst w_189
      subst w_190
      exact absurd c_188 c_9
    · skip
      subst w_201
      subst w_202
      exact absurd c_200 c_10
    · skip
      subst w_214
      subst w_215
      exact absurd c_213 c_11
    · skip
      subst w_228
      subst w_229
      exact absurd c_227 c_12
    · skip
      subst w_243
      subst w_244
      exact absurd c_242 c_13
  · skip
    subst w_17
    subst w_18
    obtain ⟨hP, hD⟩ := va_join (wr := [(m0, .inr (11, y0)), (y4, .inl (kA 0, 2, .inl (fun _ => 0))), (y6, .inl (kA 0, 2, .inl (fun _ => 0))), (y7, .inl (kA 0, 2, .inl (fun _ => 0))), (y8, .inl (kA 0, 2, .inl (fun _ => 0))), (y9, .inl (kA 0, 2, .inl (fun _ => 0)))]) (w1 := [(o0, .inl (kA 1, 1, .inr (.inl (vp_updL (fun _ => 0) 0 ((0 : Int32).toInt64)))))]) hP hD [0, 1, 2, 3, 10] [4, 5, 6, 7, 8, 9] rfl rfl (by decide) (by decide) hk1 hFc hP1 hD1
    generalize H1 = H at hP hS ⊢
    have hP : va_P D vwCl [(m0, .inr (11, y0)), (y4, .inl (kA 0, 2, .inl (fun _ => 0))), (y6, .inl (kA 0, 2, .inl (fun _ => 0))), (y7, .inl (kA 0, 2, .inl (fun _ => 0))), (y8, .inl (kA 0, 2, .inl (fun _ => 0))), (y9, .inl (kA 0, 2, .inl (fun _ => 0))), (o0, .inl (kA 1, 1, .inr (.inl (vp_updL (fun _ => 0) 0 ((0 : Int32).toInt64)))))] H := hP
    have hD : va_D A [(m0, .inr (11, y0)), (y4, .inl (kA 0, 2, .inl (fun _ => 0))), (y6, .inl (kA 0, 2, .inl (fun _ => 0))), (y7, .inl (kA 0, 2, .inl (fun _ => 0))), (y8, .inl (kA 0, 2, .inl (fun _ => 0))), (y9, .inl (kA 0, 2, .inl (fun _ => 0))), (o0, .inl (kA 1, 1, .inr (.inl (vp_updL (fun _ => 0) 0 ((0 : Int32).toInt64)))))] := hD
    refine lv_istore (lv' := [(5, .int 0), (0, .ref b), (1, .ref h0), (2, .ref m0), (3, .ref o0), (4, .int 0)]) hx hb dL_law_1304 hl (by decide) rfl (fun ls hl => ?_)
    refine lv_aload_n hx hb dL_law_1306 rfl (lv_at hl 3 rfl) ?_
    refine lv_aload_n hx hb dL_law_1307 rfl (lv_at hl 1 rfl) ?_
    refine lv_iload hx hb dL_law_1308 (lv_at hl 5 rfl) ?_
    refine lv_iconst (v := 1) hx hb dL_law_1310 (by decide) ?_
    refine lv_iadd hx hb dL_law_1311 ?_
    refine W.eq (g2 := F0 m 1312 ls [.int 1, .ref b, .ref m0]) rfl ?_
    refine va_sld hx hb hX hbl hbA hS (show vp_in 1 8 by unfold vp_in; decide) dL_law_1312 ?_
    refine W.eq (g2 := F0 m 1313 ls [.int (xs 1), .ref m0]) rfl ?_
    have hPc := hP.sub (ws' := [(m0, .inr (11, y0)), (y4, .inl (kA 0, 2, .inl (fun _ => 0))), (y6, .inl (kA 0, 2, .inl (fun _ => 0))), (y7, .inl (kA 0, 2, .inl (fun _ => 0))), (y8, .inl (kA 0, 2, .inl (fun _ => 0))), (y9, .inl (kA 0, 2, .inl (fun _ => 0)))]) [0, 1, 2, 3, 4, 5] rfl
    have hDc := hD.sub (ws' := [(m0, .inr (11, y0)), (y4, .inl (kA 0, 2, .inl (fun _ => 0))), (y6, .inl (kA 0, 2, .inl (fun _ => 0))), (y7, .inl (kA 0, 2, .inl (fun _ => 0))), (y8, .inl (kA 0, 2, .inl (fun _ => 0))), (y9, .inl (kA 0, 2, .inl (fun _ => 0)))]) [0, 1, 2, 3, 4, 5] (by decide) rfl
    have hFc := va_free (wc := [(m0, .inr (11, y0)), (y4, .inl (kA 0, 2, .inl (fun _ => 0))), (y6, .inl (kA 0, 2, .inl (fun _ => 0))), (y7, .inl (kA 0, 2, .inl (fun _ => 0))), (y8, .inl (kA 0, 2, .inl (fun _ => 0))), (y9, .inl (kA 0, 2, .inl (fun _ => 0)))]) hD hS hA [0, 1, 2, 3, 4, 5] rfl
    refine va_calli (va_runV (As := [.int (xs 1)]) (rest := []) ⟨hx, hb, hml, hown, hts⟩ (a147_X12_count l  D kA V H.size m0 (xs 1) y4 y6 y7 y8 y9 y0 (fun k hk => (hq k hk)) hq1 hq19 hq36 hq37 hq42 hq48 hq55 hq98 hq103 hq104 hq105) (cwV 1 hts (gw_V gw_2740 gw_2741 gw_2742 gw_16 gw_2743) rfl rfl rfl (by decide +kernel) ⟨(Nat.le_of_ble_eq_true rfl), (Nat.le_of_ble_eq_true rfl)⟩) ⟨aP.blind, va_recv hK hP (ci := 11) (q0 := 0) rfl rfl, aP.pre hE hS hPc hK hDc hFc⟩ rfl rfl hl.1 rfl (lv_room (Nat.le_of_ble_eq_true rfl)) dL_law_1313 ⟨(Nat.le_of_ble_eq_true rfl), (Nat.le_of_ble_eq_true rfl)⟩) hS (fun q _ h => hFc q h) hFc (fun r_253 u t H1 locs ht hvm hw hB hz1 hk1 hS => ?_)
    obtain ⟨u_254, rfl⟩ : ∃ z, z = u := ⟨u, rfl⟩
    obtain ⟨hP1, hD1⟩ := hB
    rw [ht] at hP1
    try dsimp only at hw hP1 hD1
    rcases hw with ⟨c_255, c_256, c_257, c_258, c_259, c_260, c_261, c_262, c_263, c_264, c_265, c_266, w_267, w_268⟩ | ⟨c_269, c_270, c_271, c_272, c_273, c_274, c_275, c_276, c_277, c_278, c_279, c_280, c_281, w_282, w_283⟩ | ⟨c_284, c_285, c_286, w_287, w_288⟩ | ⟨c_289, c_290, c_291, c_292, w_293, w_294⟩ | ⟨c_295, c_296, c_297, c_298, c_299, w_300, w_301⟩ | ⟨c_302, c_303, c_304, c_305, c_306, c_307, w_308, w_309⟩ | ⟨c_310, c_311, c_312, c_313, c_314, c_315, c_316, w_317, w_318⟩ | ⟨c_319, c_320, c_321, c_322, c_323, c_324, c_325, c_326, w_327, w_328⟩ | ⟨c_329, c_330, c_331, c_332, c_333, c_334, c_335, c_336, c_337, w_338, w_339⟩ | ⟨c_340, c_341, c_342, c_343, c_344, c_345, c_346, c_347, c_348, c_349, w_350, w_351⟩ | ⟨c_352, c_353, c_354, c_355, c_356, c_357, c_358, c_359, c_360, c_361, c_362, w_363, w_364⟩ | ⟨c_365, c_366, c_367, c_368, c_369, c_370, c_371, c_372, c_373, c_374, c_375, c_376, w_377, w_378⟩ | ⟨c_379, c_380, c_381, c_382, c_383, c_384, c_385, c_386, c_387, c_388, c_389, c_390, c_391, w_392, w_393⟩
    · skip
      subst w_267
      subst w_268
      exact False.elim (by have a1 := (ixA (n := 0) c_255 (by decide)); have a2 := (iyE (n := 0) c_16 (by decide)); omega)
    · skip
      subst w_282
      subst w_283
      exact False.elim (by have a1 := (iyS (n := 10) c_270 (by decide)); have a2 := (iyE (n := 0) c_16 (by decide)); omega)
    · skip
      subst w_287
      subst w_288
      obtain ⟨hP, hD⟩ := va_join (wr := [(o0, .inl (kA 1, 1, .inr (.inl (vp_updL (fun _ => 0) 0 ((0 : Int32).toInt64)))))]) (w1 := [(m0, .inr (11, y0.set 9 (.int 0))), (y4, .inl (kA 0, 2, .inl (fun _ => 0))), (y6, .inl (kA 0, 2, .inl (fun _ => 0))), (y7, .inl (kA 0, 2, .inl (fun _ => 0))), (y8, .inl (kA 0, 2, .inl (fun _ => 0))), (y9, .inl (kA 0, 2, .inl (fun _ => 0)))]) hP hD [0, 1, 2, 3, 4, 5] [6] rfl rfl (by decide) (by decide) hk1 hFc hP1 hD1
      generalize H1 = H at hP hS ⊢
      have hP : va_P D vwCl [(o0, .inl (kA 1, 1, .inr (.inl (vp_updL (fun _ => 0) 0 ((0 : Int32).toInt64))))), (m0, .inr (11, y0.set 9 (.int 0))), (y4, .inl (kA 0, 2, .inl (fun _ => 0))), (y6, .inl (kA 0, 2, .inl (fun _ => 0))), (y7, .inl (kA 0, 2, .inl (fun _ => 0))), (y8, .inl (kA 0, 2, .inl (fun _ => 0))), (y9, .inl (kA 0, 2, .inl (fun _ => 0)))] H := hP
      have hD : va_D A [(o0, .inl (kA 1, 1, .inr (.inl (vp_updL (fun _ => 0) 0 ((0 : Int32).toInt64))))), (m0, .inr (11, y0.set 9 (.int 0))), (y4, .inl (kA 0, 2, .inl (fun _ => 0))), (y6, .inl (kA 0, 2, .inl (fun _ => 0))), (y7, .inl (kA 0, 2, .inl (fun _ => 0))), (y8, .inl (kA 0, 2, .inl (fun _ => 0))), (y9, .inl (kA 0, 2, .inl (fun _ => 0)))] := hD
      refine lv_istore (lv' := [(6, .int 0), (5, .int 0), (0, .ref b), (1, .ref h0), (2, .ref m0), (3, .ref o0), (4, .int 0)]) hx hb dL_law_1316 hl (by decide) rfl (fun ls hl => ?_)
      refine lv_aload_n hx hb dL_law_1318 rfl (lv_at hl 4 rfl) ?_
      have hPc := hP.sub (ws' := [(m0, .inr (11, y0.set 9 (.int 0)))]) [1] rfl
      have hDc := hD.sub (ws' := [(m0, .inr (11, y0.set 9 (.int 0)))]) [1] (by decide) rfl
      have hFc := va_free (wc := [(m0, .inr (11, y0.set 9 (.int 0)))]) hD hS hA [1] rfl
      refine va_calli (va_runV (As := []) (rest := []) ⟨hx, hb, hml, hown, hts⟩ (a94_X12_thrown l  D kA V H.size m0 (y0.set 9 (.int 0)) (fun k hk => (by rw [List.length_set]; exact (hq k hk))) (List.getElem?_set_self (hq 9 (by decide)))) (cwV 0 hts (gw_V gw_1879 gw_1880 gw_1881 gw_16 gw_1882) rfl rfl rfl (by decide +kernel) ⟨(Nat.le_of_ble_eq_true rfl), (Nat.le_of_ble_eq_true rfl)⟩) ⟨aP.blind, va_recv hK hP (ci := 11) (q0 := 1) rfl rfl, aP.pre hE hS hPc hK hDc hFc⟩ rfl rfl hl.1 rfl (lv_room (Nat.le_of_ble_eq_true rfl)) dL_law_1319 ⟨(Nat.le_of_ble_eq_true rfl), (Nat.le_of_ble_eq_true rfl)⟩) hS (fun q _ h => hFc q h) hFc (fun r_394 u t H1 locs ht hvm hw hB hz1 hk1 hS => ?_)
      obtain ⟨hP1, hD1⟩ := hB
      rw [ht] at hP1
      try dsimp only at hw hP1 hD1
      have w_395 := hw
      subst w_395
      obtain ⟨hP, hD⟩ := va_join (wr := [(o0, .inl (kA 1, 1, .inr (.inl (vp_updL (fun _ => 0) 0 ((0 : Int32).toInt64))))), (y4, .inl (kA 0, 2, .inl (fun _ => 0))), (y6, .inl (kA 0, 2, .inl (fun _ => 0))), (y7, .inl (kA 0, 2, .inl (fun _ => 0))), (y8, .inl (kA 0, 2, .inl (fun _ => 0))), (y9, .inl (kA 0, 2, .inl (fun _ => 0)))]) (w1 := [(m0, .inr (11, (y0.set 9 (.int 0))))]) hP hD [1] [0, 2, 3, 4, 5, 6] rfl rfl (by decide) (by decide) hk1 hFc hP1 hD1
      generalize H1 = H at hP hS ⊢
      have hP : va_P D vwCl [(o0, .inl (kA 1, 1, .inr (.inl (vp_updL (fun _ => 0) 0 ((0 : Int32).toInt64))))), (y4, .inl (kA 0, 2, .inl (fun _ => 0))), (y6, .inl (kA 0, 2, .inl (fun _ => 0))), (y7, .inl (kA 0, 2, .inl (fun _ => 0))), (y8, .inl (kA 0, 2, .inl (fun _ => 0))), (y9, .inl (kA 0, 2, .inl (fun _ => 0))), (m0, .inr (11, (y0.set 9 (.int 0))))] H := hP
      have hD : va_D A [(o0, .inl (kA 1, 1, .inr (.inl (vp_updL (fun _ => 0) 0 ((0 : Int32).toInt64))))), (y4, .inl (kA 0, 2, .inl (fun _ => 0))), (y6, .inl (kA 0, 2, .inl (fun _ => 0))), (y7, .inl (kA 0, 2, .inl (fun _ => 0))), (y8, .inl (kA 0, 2, .inl (fun _ => 0))), (y9, .inl (kA 0, 2, .inl (fun _ => 0))), (m0, .inr (11, (y0.set 9 (.int 0))))] := hD
      refine lv_iload hx hb dL_law_1322 (lv_at hl 1 rfl) ?_
      refine lv_icmp_eq (tgt := 1329) hx hb dL_law_1324 (by decide) (fun c_396 => ?_) (fun c_396 => ?_)
      · skip
        refine lv_iload hx hb dL_law_1329 (lv_at hl 1 rfl) ?_
        refine lv_if_ne (tgt := 1346) hx hb dL_law_1331 (by decide) (fun c_397 => ?_) (fun c_397 => ?_)
        · exact absurd (by decide) c_397
        · skip
          refine lv_aload_n hx hb dL_law_1334 rfl (lv_at hl 5 rfl) ?_
          refine lv_iconst (v := 0) hx hb dL_law_1335 (by decide) ?_
          refine va_lald hx hb hK hP 0 1 rfl rfl (show vp_in 0 1 by unfold vp_in; decide) dL_law_1336 ?_
          refine W.eq (g2 := F0 m 1337 ls [.long ((0 : Int32).toInt64)]) rfl ?_
          refine lv_iload hx hb dL_law_1337 (lv_at hl 0 rfl) ?_
          refine lv_i2l (v := (0 : Int32).toInt64) hx hb dL_law_1339 rfl ?_
          refine W.lcmp hx hb dL_law_1340 ?_
          refine lv_if_eq (tgt := 1346) hx hb dL_law_1341 (by decide) (fun c_398 => ?_) (fun c_398 => ?_)
          · skip
            refine lv_goto (tgt := 1804) hx hb dL_law_1346 (by decide) ?_
            exact lk_tail hC hA2 (lv_sub hl [2, 6] rfl) hS (Nat.le_of_ble_eq_true rfl) (Nat.le_of_ble_eq_true rfl)
          · exact absurd ((lg_cmp_eq _ _).mpr rfl) c_398
      · exact absurd (by decide) c_396
    · skip
      subst w_293
      subst w_294
      exact absurd c_16 c_291
    · skip
      subst w_300
      subst w_301
      exact absurd c_16 c_297
    · skip
      subst w_308
      subst w_309
      exact absurd c_16 c_304
    · skip
      subst w_317
      subst w_318
      exact absurd c_16 c_312
    · skip
      subst w_327
      subst w_328
      exact absurd c_16 c_321
    · skip
      subst w_338
      subst w_339
      exact absurd c_16 c_331
    · skip
      subst w_350
      subst w_351
      exact absurd c_16 c_342
    · skip
      subst w_363
      subst w_364
      exact absurd c_16 c_354
    · skip
      subst w_377
      subst w_378
      exact absurd c_16 c_367
    · skip
      subst w_392
      subst w_393
      exact absurd c_16 c_381
  · skip
    subst w_21
    subst w_22
    obtain ⟨hP, hD⟩ := va_join (wr := [(m0, .inr (11, y0)), (y4, .inl (kA 0, 2, .inl (fun _ => 0))), (y6, .inl (kA 0, 2, .inl (fun _ => 0))), (y7, .inl (kA 0, 2, .inl (fun _ => 0))), (y8, .inl (kA 0, 2, .inl (fun _ => 0))), (y9, .inl (kA 0, 2, .inl (fun _ => 0)))]) (w1 := [(o0, .inl (kA 1, 1, .inr (.inl (vp_updL (fun _ => 0) 0 ((0 : Int32).toInt64)))))]) hP hD [0, 1, 2, 3, 10] [4, 5, 6, 7, 8, 9] rfl rfl (by decide) (by decide) hk1 hFc hP1 hD1
    generalize H1 = H at hP hS ⊢
    have hP : va_P D vwCl [(m0, .inr (11, y0)), (y4, .inl (kA 0, 2, .inl (fun _ => 0))), (y6, .inl (kA 0, 2, .inl (fun _ => 0))), (y7, .inl (kA 0, 2, .inl (fun _ => 0))), (y8, .inl (kA 0, 2, .inl (fun _ => 0))), (y9, .inl (kA 0, 2, .inl (fun _ => 0))), (o0, .inl (kA 1, 1, .inr (.inl (vp_updL (fun _ => 0) 0 ((0 : Int32).toInt64)))))] H := hP
    have hD : va_D A [(m0, .inr (11, y0)), (y4, .inl (kA 0, 2, .inl (fun _ => 0))), (y6, .inl (kA 0, 2, .inl (fun _ => 0))), (y7, .inl (kA 0, 2, .inl (fun _ => 0))), (y8, .inl (kA 0, 2, .inl (fun _ => 0))), (y9, .inl (kA 0, 2, .inl (fun _ => 0))), (o0, .inl (kA 1, 1, .inr (.inl (vp_updL (fun _ => 0) 0 ((0 : Int32).toInt64)))))] := hD
    refine lv_istore (lv' := [(5, .int 0), (0, .ref b), (1, .ref h0), (2, .ref m0), (3, .ref o0), (4, .int 0)]) hx hb dL_law_1304 hl (by decide) rfl (fun ls hl => ?_)
    refine lv_aload_n hx hb dL_law_1306 rfl (lv_at hl 3 rfl) ?_
    refine lv_aload_n hx hb dL_law_1307 rfl (lv_at hl 1 rfl) ?_
    refine lv_iload hx hb dL_law_1308 (lv_at hl 5 rfl) ?_
    refine lv_iconst (v := 1) hx hb dL_law_1310 (by decide) ?_
    refine lv_iadd hx hb dL_law_1311 ?_
    refine W.eq (g2 := F0 m 1312 ls [.int 1, .ref b, .ref m0]) rfl ?_
    refine va_sld hx hb hX hbl hbA hS (show vp_in 1 8 by unfold vp_in; decide) dL_law_1312 ?_
    refine W.eq (g2 := F0 m 1313 ls [.int (xs 1), .ref m0]) rfl ?_
    have hPc := hP.sub (ws' := [(m0, .inr (11, y0)), (y4, .inl (kA 0, 2, .inl (fun _ => 0))), (y6, .inl (kA 0, 2, .inl (fun _ => 0))), (y7, .inl (kA 0, 2, .inl (fun _ => 0))), (y8, .inl (kA 0, 2, .inl (fun _ => 0))), (y9, .inl (kA 0, 2, .inl (fun _ => 0)))]) [0, 1, 2, 3, 4, 5] rfl
    have hDc := hD.sub (ws' := [(m0, .inr (11, y0)), (y4, .inl (kA 0, 2, .inl (fun _ => 0))), (y6, .inl (kA 0, 2, .inl (fun _ => 0))), (y7, .inl (kA 0, 2, .inl (fun _ => 0))), (y8, .inl (kA 0, 2, .inl (fun _ => 0))), (y9, .inl (kA 0, 2, .inl (fun _ => 0)))]) [0, 1, 2, 3, 4, 5] (by decide) rfl
    have hFc := va_free (wc := [(m0, .inr (11, y0)), (y4, .inl (kA 0, 2, .inl (fun _ => 0))), (y6, .inl (kA 0, 2, .inl (fun _ => 0))), (y7, .inl (kA 0, 2, .inl (fun _ => 0))), (y8, .inl (kA 0, 2, .inl (fun _ => 0))), (y9, .inl (kA 0, 2, .inl (fun _ => 0)))]) hD hS hA [0, 1, 2, 3, 4, 5] rfl
    refine va_calli (va_runV (As := [.int (xs 1)]) (rest := []) ⟨hx, hb, hml, hown, hts⟩ (a147_X12_count l  D kA V H.size m0 (xs 1) y4 y6 y7 y8 y9 y0 (fun k hk => (hq k hk)) hq1 hq19 hq36 hq37 hq42 hq48 hq55 hq98 hq103 hq104 hq105) (cwV 1 hts (gw_V gw_2740 gw_2741 gw_2742 gw_16 gw_2743) rfl rfl rfl (by decide +kernel) ⟨(Nat.le_of_ble_eq_true rfl), (Nat.le_of_ble_eq_true rfl)⟩) ⟨aP.blind, va_recv hK hP (ci := 11) (q0 := 0) rfl rfl, aP.pre hE hS hPc hK hDc hFc⟩ rfl rfl hl.1 rfl (lv_room (Nat.le_of_ble_eq_true rfl)) dL_law_1313 ⟨(Nat.le_of_ble_eq_true rfl), (Nat.le_of_ble_eq_true rfl)⟩) hS (fun q _ h => hFc q h) hFc (fun r_399 u t H1 locs ht hvm hw hB hz1 hk1 hS => ?_)
    obtain ⟨u_400, rfl⟩ : ∃ z, z = u := ⟨u, rfl⟩
    obtain ⟨hP1, hD1⟩ := hB
    rw [ht] at hP1
    try dsimp only at hw hP1 hD1
    rcases hw with ⟨c_401, c_402, c_403, c_404, c_405, c_406, c_407, c_408, c_409, c_410, c_411, c_412, w_413, w_414⟩ | ⟨c_415, c_416, c_417, c_418, c_419, c_420, c_421, c_422, c_423, c_424, c_425, c_426, c_427, w_428, w_429⟩ | ⟨c_430, c_431, c_432, w_433, w_434⟩ | ⟨c_435, c_436, c_437, c_438, w_439, w_440⟩ | ⟨c_441, c_442, c_443, c_444, c_445, w_446, w_447⟩ | ⟨c_448, c_449, c_450, c_451, c_452, c_453, w_454, w_455⟩ | ⟨c_456, c_457, c_458, c_459, c_460, c_461, c_462, w_463, w_464⟩ | ⟨c_465, c_466, c_467, c_468, c_469, c_470, c_471, c_472, w_473, w_474⟩ | ⟨c_475, c_476, c_477, c_478, c_479, c_480, c_481, c_482, c_483, w_484, w_485⟩ | ⟨c_486, c_487, c_488, c_489, c_490, c_491, c_492, c_493, c_494, c_495, w_496, w_497⟩ | ⟨c_498, c_499, c_500, c_501, c_502, c_503, c_504, c_505, c_506, c_507, c_508, w_509, w_510⟩ | ⟨c_511, c_512, c_513, c_514, c_515, c_516, c_517, c_518, c_519, c_520, c_521, c_522, w_523, w_524⟩ | ⟨c_525, c_526, c_527, c_528, c_529, c_530, c_531, c_532, c_533, c_534, c_535, c_536, c_537, w_538, w_539⟩
    · skip
      subst w_413
      subst w_414
      exact False.elim (by have a1 := (ixA (n := 0) c_401 (by decide)); have a2 := (iyE (n := 1) c_20 (by decide)); omega)
    · skip
      subst w_428
      subst w_429
      exact False.elim (by have a1 := (iyS (n := 10) c_416 (by decide)); have a2 := (iyE (n := 1) c_20 (by decide)); omega)
    · skip
      subst w_433
      subst w_434
      exact absurd c_432 c_19
    · skip
      subst w_439
      subst w_440
      obtain ⟨hP, hD⟩ := va_join (wr := [(o0, .inl (kA 1, 1, .inr (.inl (vp_updL (fun _ => 0) 0 ((0 : Int32).toInt64)))))]) (w1 := [(m0, .inr (11, y0.set 9 (.int 0))), (y4, .inl (kA 0, 2, .inl (fun _ => 0))), (y6, .inl (kA 0, 2, .inl (fun _ => 0))), (y7, .inl (kA 0, 2, .inl (fun _ => 0))), (y8, .inl (kA 0, 2, .inl (fun _ => 0))), (y9, .inl (kA 0, 2, .inl (fun _ => 0)))]) hP hD [0, 1, 2, 3, 4, 5] [6] rfl rfl (by decide) (by decide) hk1 hFc hP1 hD1
      generalize H1 = H at hP hS ⊢
      have hP : va_P D vwCl [(o0, .inl (kA 1, 1, .inr (.inl (vp_updL (fun _ => 0) 0 ((0 : Int32).toInt64))))), (m0, .inr (11, y0.set 9 (.int 0))), (y4, .inl (kA 0, 2, .inl (fun _ => 0))), (y6, .inl (kA 0, 2, .inl (fun _ => 0))), (y7, .inl (kA 0, 2, .inl (fun _ => 0))), (y8, .inl (kA 0, 2, .inl (fun _ => 0))), (y9, .inl (kA 0, 2, .inl (fun _ => 0)))] H := hP
      have hD : va_D A [(o0, .inl (kA 1, 1, .inr (.inl (vp_updL (fun _ => 0) 0 ((0 : Int32).toInt64))))), (m0, .inr (11, y0.set 9 (.int 0))), (y4, .inl (kA 0, 2, .inl (fun _ => 0))), (y6, .inl (kA 0, 2, .inl (fun _ => 0))), (y7, .inl (kA 0, 2, .inl (fun _ => 0))), (y8, .inl (kA 0, 2, .inl (fun _ => 0))), (y9, .inl (kA 0, 2, .inl (fun _ => 0)))] := hD
      refine lv_istore (lv' := [(6, .int 0), (5, .int 0), (0, .ref b), (1, .ref h0), (2, .ref m0), (3, .ref o0), (4, .int 0)]) hx hb dL_law_1316 hl (by decide) rfl (fun ls hl => ?_)
      refine lv_aload_n hx hb dL_law_1318 rfl (lv_at hl 4 rfl) ?_
      have hPc := hP.sub (ws' := [(m0, .inr (11, y0.set 9 (.int 0)))]) [1] rfl
      have hDc := hD.sub (ws' := [(m0, .inr (11, y0.set 9 (.int 0)))]) [1] (by decide) rfl
      have hFc := va_free (wc := [(m0, .inr (11, y0.set 9 (.int 0)))]) hD hS hA [1] rfl
      refine va_calli (va_runV (As := []) (rest := []) ⟨hx, hb, hml, hown, hts⟩ (a94_X12_thrown l  D kA V H.size m0 (y0.set 9 (.int 0)) (fun k hk => (by rw [List.length_set]; exact (hq k hk))) (List.getElem?_set_self (hq 9 (by decide)))) (cwV 0 hts (gw_V gw_1879 gw_1880 gw_1881 gw_16 gw_1882) rfl rfl rfl (by decide +kernel) ⟨(Nat.le_of_ble_eq_true rfl), (Nat.le_of_ble_eq_true rfl)⟩) ⟨aP.blind, va_recv hK hP (ci := 11) (q0 := 1) rfl rfl, aP.pre hE hS hPc hK hDc hFc⟩ rfl rfl hl.1 rfl (lv_room (Nat.le_of_ble_eq_true rfl)) dL_law_1319 ⟨(Nat.le_of_ble_eq_true rfl), (Nat.le_of_ble_eq_true rfl)⟩) hS (fun q _ h => hFc q h) hFc (fun r_540 u t H1 locs ht hvm hw hB hz1 hk1 hS => ?_)
      obtain ⟨hP1, hD1⟩ := hB
      rw [ht] at hP1
      try dsimp only at hw hP1 hD1
      have w_541 := hw
      subst w_541
      obtain ⟨hP, hD⟩ := va_join (wr := [(o0, .inl (kA 1, 1, .inr (.inl (vp_updL (fun _ => 0) 0 ((0 : Int32).toInt64))))), (y4, .inl (kA 0, 2, .inl (fun _ => 0))), (y6, .inl (kA 0, 2, .inl (fun _ => 0))), (y7, .inl (kA 0, 2, .inl (fun _ => 0))), (y8, .inl (kA 0, 2, .inl (fun _ => 0))), (y9, .inl (kA 0, 2, .inl (fun _ => 0)))]) (w1 := [(m0, .inr (11, (y0.set 9 (.int 0))))]) hP hD [1] [0, 2, 3, 4, 5, 6] rfl rfl (by decide) (by decide) hk1 hFc hP1 hD1
      generalize H1 = H at hP hS ⊢
      have hP : va_P D vwCl [(o0, .inl (kA 1, 1, .inr (.inl (vp_updL (fun _ => 0) 0 ((0 : Int32).toInt64))))), (y4, .inl (kA 0, 2, .inl (fun _ => 0))), (y6, .inl (kA 0, 2, .inl (fun _ => 0))), (y7, .inl (kA 0, 2, .inl (fun _ => 0))), (y8, .inl (kA 0, 2, .inl (fun _ => 0))), (y9, .inl (kA 0, 2, .inl (fun _ => 0))), (m0, .inr (11, (y0.set 9 (.int 0))))] H := hP
      have hD : va_D A [(o0, .inl (kA 1, 1, .inr (.inl (vp_updL (fun _ => 0) 0 ((0 : Int32).toInt64))))), (y4, .inl (kA 0, 2, .inl (fun _ => 0))), (y6, .inl (kA 0, 2, .inl (fun _ => 0))), (y7, .inl (kA 0, 2, .inl (fun _ => 0))), (y8, .inl (kA 0, 2, .inl (fun _ => 0))), (y9, .inl (kA 0, 2, .inl (fun _ => 0))), (m0, .inr (11, (y0.set 9 (.int 0))))] := hD
      refine lv_iload hx hb dL_law_1322 (lv_at hl 1 rfl) ?_
      refine lv_icmp_eq (tgt := 1329) hx hb dL_law_1324 (by decide) (fun c_542 => ?_) (fun c_542 => ?_)
      · skip
        refine lv_iload hx hb dL_law_1329 (lv_at hl 1 rfl) ?_
        refine lv_if_ne (tgt := 1346) hx hb dL_law_1331 (by decide) (fun c_543 => ?_) (fun c_543 => ?_)
        · exact absurd (by decide) c_543
        · skip
          refine lv_aload_n hx hb dL_law_1334 rfl (lv_at hl 5 rfl) ?_
          refine lv_iconst (v := 0) hx hb dL_law_1335 (by decide) ?_
          refine va_lald hx hb hK hP 0 1 rfl rfl (show vp_in 0 1 by unfold vp_in; decide) dL_law_1336 ?_
          refine W.eq (g2 := F0 m 1337 ls [.long ((0 : Int32).toInt64)]) rfl ?_
          refine lv_iload hx hb dL_law_1337 (lv_at hl 0 rfl) ?_
          refine lv_i2l (v := (0 : Int32).toInt64) hx hb dL_law_1339 rfl ?_
          refine W.lcmp hx hb dL_law_1340 ?_
          refine lv_if_eq (tgt := 1346) hx hb dL_law_1341 (by decide) (fun c_544 => ?_) (fun c_544 => ?_)
          · skip
            refine lv_goto (tgt := 1804) hx hb dL_law_1346 (by decide) ?_
            exact lk_tail hC hA2 (lv_sub hl [2, 6] rfl) hS (Nat.le_of_ble_eq_true rfl) (Nat.le_of_ble_eq_true rfl)
          · exact absurd ((lg_cmp_eq _ _).mpr rfl) c_544
      · exact absurd (by decide) c_542
    · skip
      subst w_446
      subst w_447
      exact absurd c_20 c_444
    · skip
      subst w_454
      subst w_455
      exact absurd c_20 c_451
    · skip
      subst w_463
      subst w_464
      exact absurd c_20 c_459
    · skip
      subst w_473
      subst w_474
      exact absurd c_20 c_468
    · skip
      subst w_484
      subst w_485
      exact absurd c_20 c_478
    · skip
      subst w_496
      subst w_497
      exact absurd c_20 c_489
    · skip
      subst w_509
      subst w_510
      exact absurd c_20 c_501
    · skip
      subst w_523
      subst w_524
      exact absurd c_20 c_514
    · skip
      subst w_538
      subst w_539
      exact absurd c_20 c_528
  · skip
    subst w_26
    subst w_27
    obtain ⟨hP, hD⟩ := va_join (wr := [(m0, .inr (11, y0)), (y4, .inl (kA 0, 2, .inl (fun _ => 0))), (y6, .inl (kA 0, 2, .inl (fun _ => 0))), (y7, .inl (kA 0, 2, .inl (fun _ => 0))), (y8, .inl (kA 0, 2, .inl (fun _ => 0))), (y9, .inl (kA 0, 2, .inl (fun _ => 0)))]) (w1 := [(o0, .inl (kA 1, 1, .inr (.inl (vp_updL (fun _ => 0) 0 ((0 : Int32).toInt64)))))]) hP hD [0, 1, 2, 3, 10] [4, 5, 6, 7, 8, 9] rfl rfl (by decide) (by decide) hk1 hFc hP1 hD1
    generalize H1 = H at hP hS ⊢
    have hP : va_P D vwCl [(m0, .inr (11, y0)), (y4, .inl (kA 0, 2, .inl (fun _ => 0))), (y6, .inl (kA 0, 2, .inl (fun _ => 0))), (y7, .inl (kA 0, 2, .inl (fun _ => 0))), (y8, .inl (kA 0, 2, .inl (fun _ => 0))), (y9, .inl (kA 0, 2, .inl (fun _ => 0))), (o0, .inl (kA 1, 1, .inr (.inl (vp_updL (fun _ => 0) 0 ((0 : Int32).toInt64)))))] H := hP
    have hD : va_D A [(m0, .inr (11, y0)), (y4, .inl (kA 0, 2, .inl (fun _ => 0))), (y6, .inl (kA 0, 2, .inl (fun _ => 0))), (y7, .inl (kA 0, 2, .inl (fun _ => 0))), (y8, .inl (kA 0, 2, .inl (fun _ => 0))), (y9, .inl (kA 0, 2, .inl (fun _ => 0))), (o0, .inl (kA 1, 1, .inr (.inl (vp_updL (fun _ => 0) 0 ((0 : Int32).toInt64)))))] := hD
    refine lv_istore (lv' := [(5, .int 0), (0, .ref b), (1, .ref h0), (2, .ref m0), (3, .ref o0), (4, .int 0)]) hx hb dL_law_1304 hl (by decide) rfl (fun ls hl => ?_)
    refine lv_aload_n hx hb dL_law_1306 rfl (lv_at hl 3 rfl) ?_
    refine lv_aload_n hx hb dL_law_1307 rfl (lv_at hl 1 rfl) ?_
    refine lv_iload hx hb dL_law_1308 (lv_at hl 5 rfl) ?_
    refine lv_iconst (v := 1) hx hb dL_law_1310 (by decide) ?_
    refine lv_iadd hx hb dL_law_1311 ?_
    refine W.eq (g2 := F0 m 1312 ls [.int 1, .ref b, .ref m0]) rfl ?_
    refine va_sld hx hb hX hbl hbA hS (show vp_in 1 8 by unfold vp_in; decide) dL_law_1312 ?_
    refine W.eq (g2 := F0 m 1313 ls [.int (xs 1), .ref m0]) rfl ?_
    have hPc := hP.sub (ws' := [(m0, .inr (11, y0)), (y4, .inl (kA 0, 2, .inl (fun _ => 0))), (y6, .inl (kA 0, 2, .inl (fun _ => 0))), (y7, .inl (kA 0, 2, .inl (fun _ => 0))), (y8, .inl (kA 0, 2, .inl (fun _ => 0))), (y9, .inl (kA 0, 2, .inl (fun _ => 0)))]) [0, 1, 2, 3, 4, 5] rfl
    have hDc := hD.sub (ws' := [(m0, .inr (11, y0)), (y4, .inl (kA 0, 2, .inl (fun _ => 0))), (y6, .inl (kA 0, 2, .inl (fun _ => 0))), (y7, .inl (kA 0, 2, .inl (fun _ => 0))), (y8, .inl (kA 0, 2, .inl (fun _ => 0))), (y9, .inl (kA 0, 2, .inl (fun _ => 0)))]) [0, 1, 2, 3, 4, 5] (by decide) rfl
    have hFc := va_free (wc := [(m0, .inr (11, y0)), (y4, .inl (kA 0, 2, .inl (fun _ => 0))), (y6, .inl (kA 0, 2, .inl (fun _ => 0))), (y7, .inl (kA 0, 2, .inl (fun _ => 0))), (y8, .inl (kA 0, 2, .inl (fun _ => 0))), (y9, .inl (kA 0, 2, .inl (fun _ => 0)))]) hD hS hA [0, 1, 2, 3, 4, 5] rfl
    refine va_calli (va_runV (As := [.int (xs 1)]) (rest := []) ⟨hx, hb, hml, hown, hts⟩ (a147_X12_count l  D kA V H.size m0 (xs 1) y4 y6 y7 y8 y9 y0 (fun k hk => (hq k hk)) hq1 hq19 hq36 hq37 hq42 hq48 hq55 hq98 hq103 hq104 hq105) (cwV 1 hts (gw_V gw_2740 gw_2741 gw_2742 gw_16 gw_2743) rfl rfl rfl (by decide +kernel) ⟨(Nat.le_of_ble_eq_true rfl), (Nat.le_of_ble_eq_true rfl)⟩) ⟨aP.blind, va_recv hK hP (ci := 11) (q0 := 0) rfl rfl, aP.pre hE hS hPc hK hDc hFc⟩ rfl rfl hl.1 rfl (lv_room (Nat.le_of_ble_eq_true rfl)) dL_law_1313 ⟨(Nat.le_of_ble_eq_true rfl), (Nat.le_of_ble_eq_true rfl)⟩) hS (fun q _ h => hFc q h) hFc (fun r_545 u t H1 locs ht hvm hw hB hz1 hk1 hS => ?_)
    obtain ⟨u_546, rfl⟩ : ∃ z, z = u := ⟨u, rfl⟩
    obtain ⟨hP1, hD1⟩ := hB
    rw [ht] at hP1
    try dsimp only at hw hP1 hD1
    rcases hw with ⟨c_547, c_548, c_549, c_550, c_551, c_552, c_553, c_554, c_555, c_556, c_557, c_558, w_559, w_560⟩ | ⟨c_561, c_562, c_563, c_564, c_565, c_566, c_567, c_568, c_569, c_570, c_571, c_572, c_573, w_574, w_575⟩ | ⟨c_576, c_577, c_578, w_579, w_580⟩ | ⟨c_581, c_582, c_583, c_584, w_585, w_586⟩ | ⟨c_587, c_588, c_589, c_590, c_591, w_592, w_593⟩ | ⟨c_594, c_595, c_596, c_597, c_598, c_599, w_600, w_601⟩ | ⟨c_602, c_603, c_604, c_605, c_606, c_607, c_608, w_609, w_610⟩ | ⟨c_611, c_612, c_613, c_614, c_615, c_616, c_617, c_618, w_619, w_620⟩ | ⟨c_621, c_622, c_623, c_624, c_625, c_626, c_627, c_628, c_629, w_630, w_631⟩ | ⟨c_632, c_633, c_634, c_635, c_636, c_637, c_638, c_639, c_640, c_641, w_642, w_643⟩ | ⟨c_644, c_645, c_646, c_647, c_648, c_649, c_650, c_651, c_652, c_653, c_654, w_655, w_656⟩ | ⟨c_657, c_658, c_659, c_660, c_661, c_662, c_663, c_664, c_665, c_666, c_667, c_668, w_669, w_670⟩ | ⟨c_671, c_672, c_673, c_674, c_675, c_676, c_677, c_678, c_679, c_680, c_681, c_682, c_683, w_684, w_685⟩
    · skip
      subst w_559
      subst w_560
      exact False.elim (by have a1 := (ixA (n := 0) c_547 (by decide)); have a2 := (iyE (n := 2) c_25 (by decide)); omega)
    · skip
      subst w_574
      subst w_575
      exact False.elim (by have a1 := (iyS (n := 10) c_562 (by decide)); have a2 := (iyE (n := 2) c_25 (by decide)); omega)
    · skip
      subst w_579
      subst w_580
      exact absurd c_578 c_23
    · skip
      subst w_585
      subst w_586
      exact absurd c_584 c_24
    · skip
      subst w_592
      subst w_593
      obtain ⟨hP, hD⟩ := va_join (wr := [(o0, .inl (kA 1, 1, .inr (.inl (vp_updL (fun _ => 0) 0 ((0 : Int32).toInt64)))))]) (w1 := [(m0, .inr (11, y0.set 9 (.int 0))), (y4, .inl (kA 0, 2, .inl (fun _ => 0))), (y6, .inl (kA 0, 2, .inl (fun _ => 0))), (y7, .inl (kA 0, 2, .inl (fun _ => 0))), (y8, .inl (kA 0, 2, .inl (fun _ => 0))), (y9, .inl (kA 0, 2, .inl (fun _ => 0)))]) hP hD [0, 1, 2, 3, 4, 5] [6] rfl rfl (by decide) (by decide) hk1 hFc hP1 hD1
      generalize H1 = H at hP hS ⊢
      have hP : va_P D vwCl [(o0, .inl (kA 1, 1, .inr (.inl (vp_updL (fun _ => 0) 0 ((0 : Int32).toInt64))))), (m0, .inr (11, y0.set 9 (.int 0))), (y4, .inl (kA 0, 2, .inl (fun _ => 0))), (y6, .inl (kA 0, 2, .inl (fun _ => 0))), (y7, .inl (kA 0, 2, .inl (fun _ => 0))), (y8, .inl (kA 0, 2, .inl (fun _ => 0))), (y9, .inl (kA 0, 2, .inl (fun _ => 0)))] H := hP
      have hD : va_D A [(o0, .inl (kA 1, 1, .inr (.inl (vp_updL (fun _ => 0) 0 ((0 : Int32).toInt64))))), (m0, .inr (11, y0.set 9 (.int 0))), (y4, .inl (kA 0, 2, .inl (fun _ => 0))), (y6, .inl (kA 0, 2, .inl (fun _ => 0))), (y7, .inl (kA 0, 2, .inl (fun _ => 0))), (y8, .inl (kA 0, 2, .inl (fun _ => 0))), (y9, .inl (kA 0, 2, .inl (fun _ => 0)))] := hD
      refine lv_istore (lv' := [(6, .int 0), (5, .int 0), (0, .ref b), (1, .ref h0), (2, .ref m0), (3, .ref o0), (4, .int 0)]) hx hb dL_law_1316 hl (by decide) rfl (fun ls hl => ?_)
      refine lv_aload_n hx hb dL_law_1318 rfl (lv_at hl 4 rfl) ?_
      have hPc := hP.sub (ws' := [(m0, .inr (11, y0.set 9 (.int 0)))]) [1] rfl
      have hDc := hD.sub (ws' := [(m0, .inr (11, y0.set 9 (.int 0)))]) [1] (by decide) rfl
      have hFc := va_free (wc := [(m0, .inr (11, y0.set 9 (.int 0)))]) hD hS hA [1] rfl
      refine va_calli (va_runV (As := []) (rest := []) ⟨hx, hb, hml, hown, hts⟩ (a94_X12_thrown l  D kA V H.size m0 (y0.set 9 (.int 0)) (fun k hk => (by rw [List.length_set]; exact (hq k hk))) (List.getElem?_set_self (hq 9 (by decide)))) (cwV 0 hts (gw_V gw_1879 gw_1880 gw_1881 gw_16 gw_1882) rfl rfl rfl (by decide +kernel) ⟨(Nat.le_of_ble_eq_true rfl), (Nat.le_of_ble_eq_true rfl)⟩) ⟨aP.blind, va_recv hK hP (ci := 11) (q0 := 1) rfl rfl, aP.pre hE hS hPc hK hDc hFc⟩ rfl rfl hl.1 rfl (lv_room (Nat.le_of_ble_eq_true rfl)) dL_law_1319 ⟨(Nat.le_of_ble_eq_true rfl), (Nat.le_of_ble_eq_true rfl)⟩) hS (fun q _ h => hFc q h) hFc (fun r_686 u t H1 locs ht hvm hw hB hz1 hk1 hS => ?_)
      obtain ⟨hP1, hD1⟩ := hB
      rw [ht] at hP1
      try dsimp only at hw hP1 hD1
      have w_687 := hw
      subst w_687
      obtain ⟨hP, hD⟩ := va_join (wr := [(o0, .inl (kA 1, 1, .inr (.inl (vp_updL (fun _ => 0) 0 ((0 : Int32).toInt64))))), (y4, .inl (kA 0, 2, .inl (fun _ => 0))), (y6, .inl (kA 0, 2, .inl (fun _ => 0))), (y7, .inl (kA 0, 2, .inl (fun _ => 0))), (y8, .inl (kA 0, 2, .inl (fun _ => 0))), (y9, .inl (kA 0, 2, .inl (fun _ => 0)))]) (w1 := [(m0, .inr (11, (y0.set 9 (.int 0))))]) hP hD [1] [0, 2, 3, 4, 5, 6] rfl rfl (by decide) (by decide) hk1 hFc hP1 hD1
      generalize H1 = H at hP hS ⊢
      have hP : va_P D vwCl [(o0, .inl (kA 1, 1, .inr (.inl (vp_updL (fun _ => 0) 0 ((0 : Int32).toInt64))))), (y4, .inl (kA 0, 2, .inl (fun _ => 0))), (y6, .inl (kA 0, 2, .inl (fun _ => 0))), (y7, .inl (kA 0, 2, .inl (fun _ => 0))), (y8, .inl (kA 0, 2, .inl (fun _ => 0))), (y9, .inl (kA 0, 2, .inl (fun _ => 0))), (m0, .inr (11, (y0.set 9 (.int 0))))] H := hP
      have hD : va_D A [(o0, .inl (kA 1, 1, .inr (.inl (vp_updL (fun _ => 0) 0 ((0 : Int32).toInt64))))), (y4, .inl (kA 0, 2, .inl (fun _ => 0))), (y6, .inl (kA 0, 2, .inl (fun _ => 0))), (y7, .inl (kA 0, 2, .inl (fun _ => 0))), (y8, .inl (kA 0, 2, .inl (fun _ => 0))), (y9, .inl (kA 0, 2, .inl (fun _ => 0))), (m0, .inr (11, (y0.set 9 (.int 0))))] := hD
      refine lv_iload hx hb dL_law_1322 (lv_at hl 1 rfl) ?_
      refine lv_icmp_eq (tgt := 1329) hx hb dL_law_1324 (by decide) (fun c_688 => ?_) (fun c_688 => ?_)
      · skip
        refine lv_iload hx hb dL_law_1329 (lv_at hl 1 rfl) ?_
        refine lv_if_ne (tgt := 1346) hx hb dL_law_1331 (by decide) (fun c_689 => ?_) (fun c_689 => ?_)
        · exact absurd (by decide) c_689
        · skip
          refine lv_aload_n hx hb dL_law_1334 rfl (lv_at hl 5 rfl) ?_
          refine lv_iconst (v := 0) hx hb dL_law_1335 (by decide) ?_
          refine va_lald hx hb hK hP 0 1 rfl rfl (show vp_in 0 1 by unfold vp_in; decide) dL_law_1336 ?_
          refine W.eq (g2 := F0 m 1337 ls [.long ((0 : Int32).toInt64)]) rfl ?_
          refine lv_iload hx hb dL_law_1337 (lv_at hl 0 rfl) ?_
          refine lv_i2l (v := (0 : Int32).toInt64) hx hb dL_law_1339 rfl ?_
          refine W.lcmp hx hb dL_law_1340 ?_
          refine lv_if_eq (tgt := 1346) hx hb dL_law_1341 (by decide) (fun c_690 => ?_) (fun c_690 => ?_)
          · skip
            refine lv_goto (tgt := 1804) hx hb dL_law_1346 (by decide) ?_
            exact lk_tail hC hA2 (lv_sub hl [2, 6] rfl) hS (Nat.le_of_ble_eq_true rfl) (Nat.le_of_ble_eq_true rfl)
          · exact absurd ((lg_cmp_eq _ _).mpr rfl) c_690
      · exact absurd (by decide) c_688
    · skip
      subst w_600
      subst w_601
      exact absurd c_25 c_598
    · skip
      subst w_609
      subst w_610
      exact absurd c_25 c_606
    · skip
      subst w_619
      subst w_620
      exact absurd c_25 c_615
    · skip
      subst w_630
      subst w_631
      exact absurd c_25 c_625
    · skip
      subst w_642
      subst w_643
      exact absurd c_25 c_636
    · skip
      subst w_655
      subst w_656
      exact absurd c_25 c_648
    · skip
      subst w_669
      subst w_670
      exact absurd c_25 c_661
    · skip
      subst w_684
      subst w_685
      exact absurd c_25 c_675
  · skip
    subst w_32
    subst w_33
    obtain ⟨hP, hD⟩ := va_join (wr := [(m0, .inr (11, y0)), (y4, .inl (kA 0, 2, .inl (fun _ => 0))), (y6, .inl (kA 0, 2, .inl (fun _ => 0))), (y7, .inl (kA 0, 2, .inl (fun _ => 0))), (y8, .inl (kA 0, 2, .inl (fun _ => 0))), (y9, .inl (kA 0, 2, .inl (fun _ => 0)))]) (w1 := [(o0, .inl (kA 1, 1, .inr (.inl (vp_updL (fun _ => 0) 0 ((0 : Int32).toInt64)))))]) hP hD [0, 1, 2, 3, 10] [4, 5, 6, 7, 8, 9] rfl rfl (by decide) (by decide) hk1 hFc hP1 hD1
    generalize H1 = H at hP hS ⊢
    have hP : va_P D vwCl [(m0, .inr (11, y0)), (y4, .inl (kA 0, 2, .inl (fun _ => 0))), (y6, .inl (kA 0, 2, .inl (fun _ => 0))), (y7, .inl (kA 0, 2, .inl (fun _ => 0))), (y8, .inl (kA 0, 2, .inl (fun _ => 0))), (y9, .inl (kA 0, 2, .inl (fun _ => 0))), (o0, .inl (kA 1, 1, .inr (.inl (vp_updL (fun _ => 0) 0 ((0 : Int32).toInt64)))))] H := hP
    have hD : va_D A [(m0, .inr (11, y0)), (y4, .inl (kA 0, 2, .inl (fun _ => 0))), (y6, .inl (kA 0, 2, .inl (fun _ => 0))), (y7, .inl (kA 0, 2, .inl (fun _ => 0))), (y8, .inl (kA 0, 2, .inl (fun _ => 0))), (y9, .inl (kA 0, 2, .inl (fun _ => 0))), (o0, .inl (kA 1, 1, .inr (.inl (vp_updL (fun _ => 0) 0 ((0 : Int32).toInt64)))))] := hD
    refine lv_istore (lv' := [(5, .int 0), (0, .ref b), (1, .ref h0), (2, .ref m0), (3, .ref o0), (4, .int 0)]) hx hb dL_law_1304 hl (by decide) rfl (fun ls hl => ?_)
    refine lv_aload_n hx hb dL_law_1306 rfl (lv_at hl 3 rfl) ?_
    refine lv_aload_n hx hb dL_law_1307 rfl (lv_at hl 1 rfl) ?_
    refine lv_iload hx hb dL_law_1308 (lv_at hl 5 rfl) ?_
    refine lv_iconst (v := 1) hx hb dL_law_1310 (by decide) ?_
    refine lv_iadd hx hb dL_law_1311 ?_
    refine W.eq (g2 := F0 m 1312 ls [.int 1, .ref b, .ref m0]) rfl ?_
    refine va_sld hx hb hX hbl hbA hS (show vp_in 1 8 by unfold vp_in; decide) dL_law_1312 ?_
    refine W.eq (g2 := F0 m 1313 ls [.int (xs 1), .ref m0]) rfl ?_
    have hPc := hP.sub (ws' := [(m0, .inr (11, y0)), (y4, .inl (kA 0, 2, .inl (fun _ => 0))), (y6, .inl (kA 0, 2, .inl (fun _ => 0))), (y7, .inl (kA 0, 2, .inl (fun _ => 0))), (y8, .inl (kA 0, 2, .inl (fun _ => 0))), (y9, .inl (kA 0, 2, .inl (fun _ => 0)))]) [0, 1, 2, 3, 4, 5] rfl
    have hDc := hD.sub (ws' := [(m0, .inr (11, y0)), (y4, .inl (kA 0, 2, .inl (fun _ => 0))), (y6, .inl (kA 0, 2, .inl (fun _ => 0))), (y7, .inl (kA 0, 2, .inl (fun _ => 0))), (y8, .inl (kA 0, 2, .inl (fun _ => 0))), (y9, .inl (kA 0, 2, .inl (fun _ => 0)))]) [0, 1, 2, 3, 4, 5] (by decide) rfl
    have hFc := va_free (wc := [(m0, .inr (11, y0)), (y4, .inl (kA 0, 2, .inl (fun _ => 0))), (y6, .inl (kA 0, 2, .inl (fun _ => 0))), (y7, .inl (kA 0, 2, .inl (fun _ => 0))), (y8, .inl (kA 0, 2, .inl (fun _ => 0))), (y9, .inl (kA 0, 2, .inl (fun _ => 0)))]) hD hS hA [0, 1, 2, 3, 4, 5] rfl
    refine va_calli (va_runV (As := [.int (xs 1)]) (rest := []) ⟨hx, hb, hml, hown, hts⟩ (a147_X12_count l  D kA V H.size m0 (xs 1) y4 y6 y7 y8 y9 y0 (fun k hk => (hq k hk)) hq1 hq19 hq36 hq37 hq42 hq48 hq55 hq98 hq103 hq104 hq105) (cwV 1 hts (gw_V gw_2740 gw_2741 gw_2742 gw_16 gw_2743) rfl rfl rfl (by decide +kernel) ⟨(Nat.le_of_ble_eq_true rfl), (Nat.le_of_ble_eq_true rfl)⟩) ⟨aP.blind, va_recv hK hP (ci := 11) (q0 := 0) rfl rfl, aP.pre hE hS hPc hK hDc hFc⟩ rfl rfl hl.1 rfl (lv_room (Nat.le_of_ble_eq_true rfl)) dL_law_1313 ⟨(Nat.le_of_ble_eq_true rfl), (Nat.le_of_ble_eq_true rfl)⟩) hS (fun q _ h => hFc q h) hFc (fun r_691 u t H1 locs ht hvm hw hB hz1 hk1 hS => ?_)
    obtain ⟨u_692, rfl⟩ : ∃ z, z = u := ⟨u, rfl⟩
    obtain ⟨hP1, hD1⟩ := hB
    rw [ht] at hP1
    try dsimp only at hw hP1 hD1
    rcases hw with ⟨c_693, c_694, c_695, c_696, c_697, c_698, c_699, c_700, c_701, c_702, c_703, c_704, w_705, w_706⟩ | ⟨c_707, c_708, c_709, c_710, c_711, c_712, c_713, c_714, c_715, c_716, c_717, c_718, c_719, w_720, w_721⟩ | ⟨c_722, c_723, c_724, w_725, w_726⟩ | ⟨c_727, c_728, c_729, c_730, w_731, w_732⟩ | ⟨c_733, c_734, c_735, c_736, c_737, w_738, w_739⟩ | ⟨c_740, c_741, c_742, c_743, c_744, c_745, w_746, w_747⟩ | ⟨c_748, c_749, c_750, c_751, c_752, c_753, c_754, w_755, w_756⟩ | ⟨c_757, c_758, c_759, c_760, c_761, c_762, c_763, c_764, w_765, w_766⟩ | ⟨c_767, c_768, c_769, c_770, c_771, c_772, c_773, c_774, c_775, w_776, w_777⟩ | ⟨c_778, c_779, c_780, c_781, c_782, c_783, c_784, c_785, c_786, c_787, w_788, w_789⟩ | ⟨c_790, c_791, c_792, c_793, c_794, c_795, c_796, c_797, c_798, c_799, c_800, w_801, w_802⟩ | ⟨c_803, c_804, c_805, c_806, c_807, c_808, c_809, c_810, c_811, c_812, c_813, c_814, w_815, w_816⟩ | ⟨c_817, c_818, c_819, c_820, c_821, c_822, c_823, c_824, c_825, c_826, c_827, c_828, c_829, w_830, w_831⟩
    · skip
      subst w_705
      subst w_706
      exact False.elim (by have a1 := (ixA (n := 0) c_693 (by decide)); have a2 := (iyE (n := 3) c_31 (by decide)); omega)
    · skip
      subst w_720
      subst w_721
      exact False.elim (by have a1 := (iyS (n := 10) c_708 (by decide)); have a2 := (iyE (n := 3) c_31 (by decide)); omega)
    · skip
      subst w_725
      subst w_726
      exact absurd c_724 c_28
    · skip
      subst w_731
      subst w_732
      exact absurd c_730 c_29
    · skip
      subst w_738
      subst w_739
      exact absurd c_737 c_30
    · skip
      subst w_746
      subst w_747
      obtain ⟨hP, hD⟩ := va_join (wr := [(o0, .inl (kA 1, 1, .inr (.inl (vp_updL (fun _ => 0) 0 ((0 : Int32).toInt64)))))]) (w1 := [(m0, .inr (11, y0.set 9 (.int 0))), (y4, .inl (kA 0, 2, .inl (fun _ => 0))), (y6, .inl (kA 0, 2, .inl (fun _ => 0))), (y7, .inl (kA 0, 2, .inl (fun _ => 0))), (y8, .inl (kA 0, 2, .inl (fun _ => 0))), (y9, .inl (kA 0, 2, .inl (fun _ => 0)))]) hP hD [0, 1, 2, 3, 4, 5] [6] rfl rfl (by decide) (by decide) hk1 hFc hP1 hD1
      generalize H1 = H at hP hS ⊢
      have hP : va_P D vwCl [(o0, .inl (kA 1, 1, .inr (.inl (vp_updL (fun _ => 0) 0 ((0 : Int32).toInt64))))), (m0, .inr (11, y0.set 9 (.int 0))), (y4, .inl (kA 0, 2, .inl (fun _ => 0))), (y6, .inl (kA 0, 2, .inl (fun _ => 0))), (y7, .inl (kA 0, 2, .inl (fun _ => 0))), (y8, .inl (kA 0, 2, .inl (fun _ => 0))), (y9, .inl (kA 0, 2, .inl (fun _ => 0)))] H := hP
      have hD : va_D A [(o0, .inl (kA 1, 1, .inr (.inl (vp_updL (fun _ => 0) 0 ((0 : Int32).toInt64))))), (m0, .inr (11, y0.set 9 (.int 0))), (y4, .inl (kA 0, 2, .inl (fun _ => 0))), (y6, .inl (kA 0, 2, .inl (fun _ => 0))), (y7, .inl (kA 0, 2, .inl (fun _ => 0))), (y8, .inl (kA 0, 2, .inl (fun _ => 0))), (y9, .inl (kA 0, 2, .inl (fun _ => 0)))] := hD
      refine lv_istore (lv' := [(6, .int 0), (5, .int 0), (0, .ref b), (1, .ref h0), (2, .ref m0), (3, .ref o0), (4, .int 0)]) hx hb dL_law_1316 hl (by decide) rfl (fun ls hl => ?_)
      refine lv_aload_n hx hb dL_law_1318 rfl (lv_at hl 4 rfl) ?_
      have hPc := hP.sub (ws' := [(m0, .inr (11, y0.set 9 (.int 0)))]) [1] rfl
      have hDc := hD.sub (ws' := [(m0, .inr (11, y0.set 9 (.int 0)))]) [1] (by decide) rfl
      have hFc := va_free (wc := [(m0, .inr (11, y0.set 9 (.int 0)))]) hD hS hA [1] rfl
      refine va_calli (va_runV (As := []) (rest := []) ⟨hx, hb, hml, hown, hts⟩ (a94_X12_thrown l  D kA V H.size m0 (y0.set 9 (.int 0)) (fun k hk => (by rw [List.length_set]; exact (hq k hk))) (List.getElem?_set_self (hq 9 (by decide)))) (cwV 0 hts (gw_V gw_1879 gw_1880 gw_1881 gw_16 gw_1882) rfl rfl rfl (by decide +kernel) ⟨(Nat.le_of_ble_eq_true rfl), (Nat.le_of_ble_eq_true rfl)⟩) ⟨aP.blind, va_recv hK hP (ci := 11) (q0 := 1) rfl rfl, aP.pre hE hS hPc hK hDc hFc⟩ rfl rfl hl.1 rfl (lv_room (Nat.le_of_ble_eq_true rfl)) dL_law_1319 ⟨(Nat.le_of_ble_eq_true rfl), (Nat.le_of_ble_eq_true rfl)⟩) hS (fun q _ h => hFc q h) hFc (fun r_832 u t H1 locs ht hvm hw hB hz1 hk1 hS => ?_)
      obtain ⟨hP1, hD1⟩ := hB
      rw [ht] at hP1
      try dsimp only at hw hP1 hD1
      have w_833 := hw
      subst w_833
      obtain ⟨hP, hD⟩ := va_join (wr := [(o0, .inl (kA 1, 1, .inr (.inl (vp_updL (fun _ => 0) 0 ((0 : Int32).toInt64))))), (y4, .inl (kA 0, 2, .inl (fun _ => 0))), (y6, .inl (kA 0, 2, .inl (fun _ => 0))), (y7, .inl (kA 0, 2, .inl (fun _ => 0))), (y8, .inl (kA 0, 2, .inl (fun _ => 0))), (y9, .inl (kA 0, 2, .inl (fun _ => 0)))]) (w1 := [(m0, .inr (11, (y0.set 9 (.int 0))))]) hP hD [1] [0, 2, 3, 4, 5, 6] rfl rfl (by decide) (by decide) hk1 hFc hP1 hD1
      generalize H1 = H at hP hS ⊢
      have hP : va_P D vwCl [(o0, .inl (kA 1, 1, .inr (.inl (vp_updL (fun _ => 0) 0 ((0 : Int32).toInt64))))), (y4, .inl (kA 0, 2, .inl (fun _ => 0))), (y6, .inl (kA 0, 2, .inl (fun _ => 0))), (y7, .inl (kA 0, 2, .inl (fun _ => 0))), (y8, .inl (kA 0, 2, .inl (fun _ => 0))), (y9, .inl (kA 0, 2, .inl (fun _ => 0))), (m0, .inr (11, (y0.set 9 (.int 0))))] H := hP
      have hD : va_D A [(o0, .inl (kA 1, 1, .inr (.inl (vp_updL (fun _ => 0) 0 ((0 : Int32).toInt64))))), (y4, .inl (kA 0, 2, .inl (fun _ => 0))), (y6, .inl (kA 0, 2, .inl (fun _ => 0))), (y7, .inl (kA 0, 2, .inl (fun _ => 0))), (y8, .inl (kA 0, 2, .inl (fun _ => 0))), (y9, .inl (kA 0, 2, .inl (fun _ => 0))), (m0, .inr (11, (y0.set 9 (.int 0))))] := hD
      refine lv_iload hx hb dL_law_1322 (lv_at hl 1 rfl) ?_
      refine lv_icmp_eq (tgt := 1329) hx hb dL_law_1324 (by decide) (fun c_834 => ?_) (fun c_834 => ?_)
      · skip
        refine lv_iload hx hb dL_law_1329 (lv_at hl 1 rfl) ?_
        refine lv_if_ne (tgt := 1346) hx hb dL_law_1331 (by decide) (fun c_835 => ?_) (fun c_835 => ?_)
        · exact absurd (by decide) c_835
        · skip
          refine lv_aload_n hx hb dL_law_1334 rfl (lv_at hl 5 rfl) ?_
          refine lv_iconst (v := 0) hx hb dL_law_1335 (by decide) ?_
          refine va_lald hx hb hK hP 0 1 rfl rfl (show vp_in 0 1 by unfold vp_in; decide) dL_law_1336 ?_
          refine W.eq (g2 := F0 m 1337 ls [.long ((0 : Int32).toInt64)]) rfl ?_
          refine lv_iload hx hb dL_law_1337 (lv_at hl 0 rfl) ?_
          refine lv_i2l (v := (0 : Int32).toInt64) hx hb dL_law_1339 rfl ?_
          refine W.lcmp hx hb dL_law_1340 ?_
          refine lv_if_eq (tgt := 1346) hx hb dL_law_1341 (by decide) (fun c_836 => ?_) (fun c_836 => ?_)
          · skip
            refine lv_goto (tgt := 1804) hx hb dL_law_1346 (by decide) ?_
            exact lk_tail hC hA2 (lv_sub hl [2, 6] rfl) hS (Nat.le_of_ble_eq_true rfl) (Nat.le_of_ble_eq_true rfl)
          · exact absurd ((lg_cmp_eq _ _).mpr rfl) c_836
      · exact absurd (by decide) c_834
    · skip
      subst w_755
      subst w_756
      exact absurd c_31 c_753
    · skip
      subst w_765
      subst w_766
      exact absurd c_31 c_762
    · skip
      subst w_776
      subst w_777
      exact absurd c_31 c_772
    · skip
      subst w_788
      subst w_789
      exact absurd c_31 c_783
    · skip
      subst w_801
      subst w_802
      exact absurd c_31 c_795
    · skip
      subst w_815
      subst w_816
      exact absurd c_31 c_808
    · skip
      subst w_830
      subst w_831
      exact absurd c_31 c_822
  · skip
    subst w_39
    subst w_40
    obtain ⟨hP, hD⟩ := va_join (wr := [(m0, .inr (11, y0)), (y4, .inl (kA 0, 2, .inl (fun _ => 0))), (y6, .inl (kA 0, 2, .inl (fun _ => 0))), (y7, .inl (kA 0, 2, .inl (fun _ => 0))), (y8, .inl (kA 0, 2, .inl (fun _ => 0))), (y9, .inl (kA 0, 2, .inl (fun _ => 0)))]) (w1 := [(o0, .inl (kA 1, 1, .inr (.inl (vp_updL (fun _ => 0) 0 ((0 : Int32).toInt64)))))]) hP hD [0, 1, 2, 3, 10] [4, 5, 6, 7, 8, 9] rfl rfl (by decide) (by decide) hk1 hFc hP1 hD1
    generalize H1 = H at hP hS ⊢
    have hP : va_P D vwCl [(m0, .inr (11, y0)), (y4, .inl (kA 0, 2, .inl (fun _ => 0))), (y6, .inl (kA 0, 2, .inl (fun _ => 0))), (y7, .inl (kA 0, 2, .inl (fun _ => 0))), (y8, .inl (kA 0, 2, .inl (fun _ => 0))), (y9, .inl (kA 0, 2, .inl (fun _ => 0))), (o0, .inl (kA 1, 1, .inr (.inl (vp_updL (fun _ => 0) 0 ((0 : Int32).toInt64)))))] H := hP
    have hD : va_D A [(m0, .inr (11, y0)), (y4, .inl (kA 0, 2, .inl (fun _ => 0))), (y6, .inl (kA 0, 2, .inl (fun _ => 0))), (y7, .inl (kA 0, 2, .inl (fun _ => 0))), (y8, .inl (kA 0, 2, .inl (fun _ => 0))), (y9, .inl (kA 0, 2, .inl (fun _ => 0))), (o0, .inl (kA 1, 1, .inr (.inl (vp_updL (fun _ => 0) 0 ((0 : Int32).toInt64)))))] := hD
    refine lv_istore (lv' := [(5, .int 0), (0, .ref b), (1, .ref h0), (2, .ref m0), (3, .ref o0), (4, .int 0)]) hx hb dL_law_1304 hl (by decide) rfl (fun ls hl => ?_)
    refine lv_aload_n hx hb dL_law_1306 rfl (lv_at hl 3 rfl) ?_
    refine lv_aload_n hx hb dL_law_1307 rfl (lv_at hl 1 rfl) ?_
    refine lv_iload hx hb dL_law_1308 (lv_at hl 5 rfl) ?_
    refine lv_iconst (v := 1) hx hb dL_law_1310 (by decide) ?_
    refine lv_iadd hx hb dL_law_1311 ?_
    refine W.eq (g2 := F0 m 1312 ls [.int 1, .ref b, .ref m0]) rfl ?_
    refine va_sld hx hb hX hbl hbA hS (show vp_in 1 8 by unfold vp_in; decide) dL_law_1312 ?_
    refine W.eq (g2 := F0 m 1313 ls [.int (xs 1), .ref m0]) rfl ?_
    have hPc := hP.sub (ws' := [(m0, .inr (11, y0)), (y4, .inl (kA 0, 2, .inl (fun _ => 0))), (y6, .inl (kA 0, 2, .inl (fun _ => 0))), (y7, .inl (kA 0, 2, .inl (fun _ => 0))), (y8, .inl (kA 0, 2, .inl (fun _ => 0))), (y9, .inl (kA 0, 2, .inl (fun _ => 0)))]) [0, 1, 2, 3, 4, 5] rfl
    have hDc := hD.sub (ws' := [(m0, .inr (11, y0)), (y4, .inl (kA 0, 2, .inl (fun _ => 0))), (y6, .inl (kA 0, 2, .inl (fun _ => 0))), (y7, .inl (kA 0, 2, .inl (fun _ => 0))), (y8, .inl (kA 0, 2, .inl (fun _ => 0))), (y9, .inl (kA 0, 2, .inl (fun _ => 0)))]) [0, 1, 2, 3, 4, 5] (by decide) rfl
    have hFc := va_free (wc := [(m0, .inr (11, y0)), (y4, .inl (kA 0, 2, .inl (fun _ => 0))), (y6, .inl (kA 0, 2, .inl (fun _ => 0))), (y7, .inl (kA 0, 2, .inl (fun _ => 0))), (y8, .inl (kA 0, 2, .inl (fun _ => 0))), (y9, .inl (kA 0, 2, .inl (fun _ => 0)))]) hD hS hA [0, 1, 2, 3, 4, 5] rfl
    refine va_calli (va_runV (As := [.int (xs 1)]) (rest := []) ⟨hx, hb, hml, hown, hts⟩ (a147_X12_count l  D kA V H.size m0 (xs 1) y4 y6 y7 y8 y9 y0 (fun k hk => (hq k hk)) hq1 hq19 hq36 hq37 hq42 hq48 hq55 hq98 hq103 hq104 hq105) (cwV 1 hts (gw_V gw_2740 gw_2741 gw_2742 gw_16 gw_2743) rfl rfl rfl (by decide +kernel) ⟨(Nat.le_of_ble_eq_true rfl), (Nat.le_of_ble_eq_true rfl)⟩) ⟨aP.blind, va_recv hK hP (ci := 11) (q0 := 0) rfl rfl, aP.pre hE hS hPc hK hDc hFc⟩ rfl rfl hl.1 rfl (lv_room (Nat.le_of_ble_eq_true rfl)) dL_law_1313 ⟨(Nat.le_of_ble_eq_true rfl), (Nat.le_of_ble_eq_true rfl)⟩) hS (fun q _ h => hFc q h) hFc (fun r_837 u t H1 locs ht hvm hw hB hz1 hk1 hS => ?_)
    obtain ⟨u_838, rfl⟩ : ∃ z, z = u := ⟨u, rfl⟩
    obtain ⟨hP1, hD1⟩ := hB
    rw [ht] at hP1
    try dsimp only at hw hP1 hD1
    rcases hw with ⟨c_839, c_840, c_841, c_842, c_843, c_844, c_845, c_846, c_847, c_848, c_849, c_850, w_851, w_852⟩ | ⟨c_853, c_854, c_855, c_856, c_857, c_858, c_859, c_860, c_861, c_862, c_863, c_864, c_865, w_866, w_867⟩ | ⟨c_868, c_869, c_870, w_871, w_872⟩ | ⟨c_873, c_874, c_875, c_876, w_877, w_878⟩ | ⟨c_879, c_880, c_881, c_882, c_883, w_884, w_885⟩ | ⟨c_886, c_887, c_888, c_889, c_890, c_891, w_892, w_893⟩ | ⟨c_894, c_895, c_896, c_897, c_898, c_899, c_900, w_901, w_902⟩ | ⟨c_903, c_904, c_905, c_906, c_907, c_908, c_909, c_910, w_911, w_912⟩ | ⟨c_913, c_914, c_915, c_916, c_917, c_918, c_919, c_920, c_921, w_922, w_923⟩ | ⟨c_924, c_925, c_926, c_927, c_928, c_929, c_930, c_931, c_932, c_933, w_934, w_935⟩ | ⟨c_936, c_937, c_938, c_939, c_940, c_941, c_942, c_943, c_944, c_945, c_946, w_947, w_948⟩ | ⟨c_949, c_950, c_951, c_952, c_953, c_954, c_955, c_956, c_957, c_958, c_959, c_960, w_961, w_962⟩ | ⟨c_963, c_964, c_965, c_966, c_967, c_968, c_969, c_970, c_971, c_972, c_973, c_974, c_975, w_976, w_977⟩
    · skip
      subst w_851
      subst w_852
      exact False.elim (by have a1 := (ixA (n := 0) c_839 (by decide)); have a2 := (iyE (n := 4) c_38 (by decide)); omega)
    · skip
      subst w_866
      subst w_867
      exact False.elim (by have a1 := (iyS (n := 10) c_854 (by decide)); have a2 := (iyE (n := 4) c_38 (by decide)); omega)
    · skip
      subst w_871
      subst w_872
      exact absurd c_870 c_34
    · skip
      subst w_877
      subst w_878
      exact absurd c_876 c_35
    · skip
      subst w_884
      subst w_885
      exact absurd c_883 c_36
    · skip
      subst w_892
      subst w_893
      exact absurd c_891 c_37
    · skip
      subst w_901
      subst w_902
      obtain ⟨hP, hD⟩ := va_join (wr := [(o0, .inl (kA 1, 1, .inr (.inl (vp_updL (fun _ => 0) 0 ((0 : Int32).toInt64)))))]) (w1 := [(m0, .inr (11, y0.set 9 (.int 0))), (y4, .inl (kA 0, 2, .inl (fun _ => 0))), (y6, .inl (kA 0, 2, .inl (fun _ => 0))), (y7, .inl (kA 0, 2, .inl (fun _ => 0))), (y8, .inl (kA 0, 2, .inl (fun _ => 0))), (y9, .inl (kA 0, 2, .inl (fun _ => 0)))]) hP hD [0, 1, 2, 3, 4, 5] [6] rfl rfl (by decide) (by decide) hk1 hFc hP1 hD1
      generalize H1 = H at hP hS ⊢
      have hP : va_P D vwCl [(o0, .inl (kA 1, 1, .inr (.inl (vp_updL (fun _ => 0) 0 ((0 : Int32).toInt64))))), (m0, .inr (11, y0.set 9 (.int 0))), (y4, .inl (kA 0, 2, .inl (fun _ => 0))), (y6, .inl (kA 0, 2, .inl (fun _ => 0))), (y7, .inl (kA 0, 2, .inl (fun _ => 0))), (y8, .inl (kA 0, 2, .inl (fun _ => 0))), (y9, .inl (kA 0, 2, .inl (fun _ => 0)))] H := hP
      have hD : va_D A [(o0, .inl (kA 1, 1, .inr (.inl (vp_updL (fun _ => 0) 0 ((0 : Int32).toInt64))))), (m0, .inr (11, y0.set 9 (.int 0))), (y4, .inl (kA 0, 2, .inl (fun _ => 0))), (y6, .inl (kA 0, 2, .inl (fun _ => 0))), (y7, .inl (kA 0, 2, .inl (fun _ => 0))), (y8, .inl (kA 0, 2, .inl (fun _ => 0))), (y9, .inl (kA 0, 2, .inl (fun _ => 0)))] := hD
      refine lv_istore (lv' := [(6, .int 0), (5, .int 0), (0, .ref b), (1, .ref h0), (2, .ref m0), (3, .ref o0), (4, .int 0)]) hx hb dL_law_1316 hl (by decide) rfl (fun ls hl => ?_)
      refine lv_aload_n hx hb dL_law_1318 rfl (lv_at hl 4 rfl) ?_
      have hPc := hP.sub (ws' := [(m0, .inr (11, y0.set 9 (.int 0)))]) [1] rfl
      have hDc := hD.sub (ws' := [(m0, .inr (11, y0.set 9 (.int 0)))]) [1] (by decide) rfl
      have hFc := va_free (wc := [(m0, .inr (11, y0.set 9 (.int 0)))]) hD hS hA [1] rfl
      refine va_calli (va_runV (As := []) (rest := []) ⟨hx, hb, hml, hown, hts⟩ (a94_X12_thrown l  D kA V H.size m0 (y0.set 9 (.int 0)) (fun k hk => (by rw [List.length_set]; exact (hq k hk))) (List.getElem?_set_self (hq 9 (by decide)))) (cwV 0 hts (gw_V gw_1879 gw_1880 gw_1881 gw_16 gw_1882) rfl rfl rfl (by decide +kernel) ⟨(Nat.le_of_ble_eq_true rfl), (Nat.le_of_ble_eq_true rfl)⟩) ⟨aP.blind, va_recv hK hP (ci := 11) (q0 := 1) rfl rfl, aP.pre hE hS hPc hK hDc hFc⟩ rfl rfl hl.1 rfl (lv_room (Nat.le_of_ble_eq_true rfl)) dL_law_1319 ⟨(Nat.le_of_ble_eq_true rfl), (Nat.le_of_ble_eq_true rfl)⟩) hS (fun q _ h => hFc q h) hFc (fun r_978 u t H1 locs ht hvm hw hB hz1 hk1 hS => ?_)
      obtain ⟨hP1, hD1⟩ := hB
      rw [ht] at hP1
      try dsimp only at hw hP1 hD1
      have w_979 := hw
      subst w_979
      obtain ⟨hP, hD⟩ := va_join (wr := [(o0, .inl (kA 1, 1, .inr (.inl (vp_updL (fun _ => 0) 0 ((0 : Int32).toInt64))))), (y4, .inl (kA 0, 2, .inl (fun _ => 0))), (y6, .inl (kA 0, 2, .inl (fun _ => 0))), (y7, .inl (kA 0, 2, .inl (fun _ => 0))), (y8, .inl (kA 0, 2, .inl (fun _ => 0))), (y9, .inl (kA 0, 2, .inl (fun _ => 0)))]) (w1 := [(m0, .inr (11, (y0.set 9 (.int 0))))]) hP hD [1] [0, 2, 3, 4, 5, 6] rfl rfl (by decide) (by decide) hk1 hFc hP1 hD1
      generalize H1 = H at hP hS ⊢
      have hP : va_P D vwCl [(o0, .inl (kA 1, 1, .inr (.inl (vp_updL (fun _ => 0) 0 ((0 : Int32).toInt64))))), (y4, .inl (kA 0, 2, .inl (fun _ => 0))), (y6, .inl (kA 0, 2, .inl (fun _ => 0))), (y7, .inl (kA 0, 2, .inl (fun _ => 0))), (y8, .inl (kA 0, 2, .inl (fun _ => 0))), (y9, .inl (kA 0, 2, .inl (fun _ => 0))), (m0, .inr (11, (y0.set 9 (.int 0))))] H := hP
      have hD : va_D A [(o0, .inl (kA 1, 1, .inr (.inl (vp_updL (fun _ => 0) 0 ((0 : Int32).toInt64))))), (y4, .inl (kA 0, 2, .inl (fun _ => 0))), (y6, .inl (kA 0, 2, .inl (fun _ => 0))), (y7, .inl (kA 0, 2, .inl (fun _ => 0))), (y8, .inl (kA 0, 2, .inl (fun _ => 0))), (y9, .inl (kA 0, 2, .inl (fun _ => 0))), (m0, .inr (11, (y0.set 9 (.int 0))))] := hD
      refine lv_iload hx hb dL_law_1322 (lv_at hl 1 rfl) ?_
      refine lv_icmp_eq (tgt := 1329) hx hb dL_law_1324 (by decide) (fun c_980 => ?_) (fun c_980 => ?_)
      · skip
        refine lv_iload hx hb dL_law_1329 (lv_at hl 1 rfl) ?_
        refine lv_if_ne (tgt := 1346) hx hb dL_law_1331 (by decide) (fun c_981 => ?_) (fun c_981 => ?_)
        · exact absurd (by decide) c_981
        · skip
          refine lv_aload_n hx hb dL_law_1334 rfl (lv_at hl 5 rfl) ?_
          refine lv_iconst (v := 0) hx hb dL_law_1335 (by decide) ?_
          refine va_lald hx hb hK hP 0 1 rfl rfl (show vp_in 0 1 by unfold vp_in; decide) dL_law_1336 ?_
          refine W.eq (g2 := F0 m 1337 ls [.long ((0 : Int32).toInt64)]) rfl ?_
          refine lv_iload hx hb dL_law_1337 (lv_at hl 0 rfl) ?_
          refine lv_i2l (v := (0 : Int32).toInt64) hx hb dL_law_1339 rfl ?_
          refine W.lcmp hx hb dL_law_1340 ?_
          refine lv_if_eq (tgt := 1346) hx hb dL_law_1341 (by decide) (fun c_982 => ?_) (fun c_982 => ?_)
          · skip
            refine lv_goto (tgt := 1804) hx hb dL_law_1346 (by decide) ?_
            exact lk_tail hC hA2 (lv_sub hl [2, 6] rfl) hS (Nat.le_of_ble_eq_true rfl) (Nat.le_of_ble_eq_true rfl)
          · exact absurd ((lg_cmp_eq _ _).mpr rfl) c_982
      · exact absurd (by decide) c_980
    · skip
      subst w_911
      subst w_912
      exact absurd c_38 c_909
    · skip
      subst w_922
      subst w_923
      exact absurd c_38 c_919
    · skip
      subst w_934
      subst w_935
      exact absurd c_38 c_930
    · skip
      subst w_947
      subst w_948
      exact absurd c_38 c_942
    · skip
      subst w_961
      subst w_962
      exact absurd c_38 c_955
    · skip
      subst w_976
      subst w_977
      exact absurd c_38 c_969
  · skip
    subst w_47
    subst w_48
    obtain ⟨hP, hD⟩ := va_join (wr := [(m0, .inr (11, y0)), (y4, .inl (kA 0, 2, .inl (fun _ => 0))), (y6, .inl (kA 0, 2, .inl (fun _ => 0))), (y7, .inl (kA 0, 2, .inl (fun _ => 0))), (y8, .inl (kA 0, 2, .inl (fun _ => 0))), (y9, .inl (kA 0, 2, .inl (fun _ => 0)))]) (w1 := [(o0, .inl (kA 1, 1, .inr (.inl (vp_updL (fun _ => 0) 0 ((0 : Int32).toInt64)))))]) hP hD [0, 1, 2, 3, 10] [4, 5, 6, 7, 8, 9] rfl rfl (by decide) (by decide) hk1 hFc hP1 hD1
    generalize H1 = H at hP hS ⊢
    have hP : va_P D vwCl [(m0, .inr (11, y0)), (y4, .inl (kA 0, 2, .inl (fun _ => 0))), (y6, .inl (kA 0, 2, .inl (fun _ => 0))), (y7, .inl (kA 0, 2, .inl (fun _ => 0))), (y8, .inl (kA 0, 2, .inl (fun _ => 0))), (y9, .inl (kA 0, 2, .inl (fun _ => 0))), (o0, .inl (kA 1, 1, .inr (.inl (vp_updL (fun _ => 0) 0 ((0 : Int32).toInt64)))))] H := hP
    have hD : va_D A [(m0, .inr (11, y0)), (y4, .inl (kA 0, 2, .inl (fun _ => 0))), (y6, .inl (kA 0, 2, .inl (fun _ => 0))), (y7, .inl (kA 0, 2, .inl (fun _ => 0))), (y8, .inl (kA 0, 2, .inl (fun _ => 0))), (y9, .inl (kA 0, 2, .inl (fun _ => 0))), (o0, .inl (kA 1, 1, .inr (.inl (vp_updL (fun _ => 0) 0 ((0 : Int32).toInt64)))))] := hD
    refine lv_istore (lv' := [(5, .int 0), (0, .ref b), (1, .ref h0), (2, .ref m0), (3, .ref o0), (4, .int 0)]) hx hb dL_law_1304 hl (by decide) rfl (fun ls hl => ?_)
    refine lv_aload_n hx hb dL_law_1306 rfl (lv_at hl 3 rfl) ?_
    refine lv_aload_n hx hb dL_law_1307 rfl (lv_at hl 1 rfl) ?_
    refine lv_iload hx hb dL_law_1308 (lv_at hl 5 rfl) ?_
    refine lv_iconst (v := 1) hx hb dL_law_1310 (by decide) ?_
    refine lv_iadd hx hb dL_law_1311 ?_
    refine W.eq (g2 := F0 m 1312 ls [.int 1, .ref b, .ref m0]) rfl ?_
    refine va_sld hx hb hX hbl hbA hS (show vp_in 1 8 by unfold vp_in; decide) dL_law_1312 ?_
    refine W.eq (g2 := F0 m 1313 ls [.int (xs 1), .ref m0]) rfl ?_
    have hPc := hP.sub (ws' := [(m0, .inr (11, y0)), (y4, .inl (kA 0, 2, .inl (fun _ => 0))), (y6, .inl (kA 0, 2, .inl (fun _ => 0))), (y7, .inl (kA 0, 2, .inl (fun _ => 0))), (y8, .inl (kA 0, 2, .inl (fun _ => 0))), (y9, .inl (kA 0, 2, .inl (fun _ => 0)))]) [0, 1, 2, 3, 4, 5] rfl
    have hDc := hD.sub (ws' := [(m0, .inr (11, y0)), (y4, .inl (kA 0, 2, .inl (fun _ => 0))), (y6, .inl (kA 0, 2, .inl (fun _ => 0))), (y7, .inl (kA 0, 2, .inl (fun _ => 0))), (y8, .inl (kA 0, 2, .inl (fun _ => 0))), (y9, .inl (kA 0, 2, .inl (fun _ => 0)))]) [0, 1, 2, 3, 4, 5] (by decide) rfl
    have hFc := va_free (wc := [(m0, .inr (11, y0)), (y4, .inl (kA 0, 2, .inl (fun _ => 0))), (y6, .inl (kA 0, 2, .inl (fun _ => 0))), (y7, .inl (kA 0, 2, .inl (fun _ => 0))), (y8, .inl (kA 0, 2, .inl (fun _ => 0))), (y9, .inl (kA 0, 2, .inl (fun _ => 0)))]) hD hS hA [0, 1, 2, 3, 4, 5] rfl
    refine va_calli (va_runV (As := [.int (xs 1)]) (rest := []) ⟨hx, hb, hml, hown, hts⟩ (a147_X12_count l  D kA V H.size m0 (xs 1) y4 y6 y7 y8 y9 y0 (fun k hk => (hq k hk)) hq1 hq19 hq36 hq37 hq42 hq48 hq55 hq98 hq103 hq104 hq105) (cwV 1 hts (gw_V gw_2740 gw_2741 gw_2742 gw_16 gw_2743) rfl rfl rfl (by decide +kernel) ⟨(Nat.le_of_ble_eq_true rfl), (Nat.le_of_ble_eq_true rfl)⟩) ⟨aP.blind, va_recv hK hP (ci := 11) (q0 := 0) rfl rfl, aP.pre hE hS hPc hK hDc hFc⟩ rfl rfl hl.1 rfl (lv_room (Nat.le_of_ble_eq_true rfl)) dL_law_1313 ⟨(Nat.le_of_ble_eq_true rfl), (Nat.le_of_ble_eq_true rfl)⟩) hS (fun q _ h => hFc q h) hFc (fun r_983 u t H1 locs ht hvm hw hB hz1 hk1 hS => ?_)
    obtain ⟨u_984, rfl⟩ : ∃ z, z = u := ⟨u, rfl⟩
    obtain ⟨hP1, hD1⟩ := hB
    rw [ht] at hP1
    try dsimp only at hw hP1 hD1
    rcases hw with ⟨c_985, c_986, c_987, c_988, c_989, c_990, c_991, c_992, c_993, c_994, c_995, c_996, w_997, w_998⟩ | ⟨c_999, c_1000, c_1001, c_1002, c_1003, c_1004, c_1005, c_1006, c_1007, c_1008, c_1009, c_1010, c_1011, w_1012, w_1013⟩ | ⟨c_1014, c_1015, c_1016, w_1017, w_1018⟩ | ⟨c_1019, c_1020, c_1021, c_1022, w_1023, w_1024⟩ | ⟨c_1025, c_1026, c_1027, c_1028, c_1029, w_1030, w_1031⟩ | ⟨c_1032, c_1033, c_1034, c_1035, c_1036, c_1037, w_1038, w_1039⟩ | ⟨c_1040, c_1041, c_1042, c_1043, c_1044, c_1045, c_1046, w_1047, w_1048⟩ | ⟨c_1049, c_1050, c_1051, c_1052, c_1053, c_1054, c_1055, c_1056, w_1057, w_1058⟩ | ⟨c_1059, c_1060, c_1061, c_1062, c_1063, c_1064, c_1065, c_1066, c_1067, w_1068, w_1069⟩ | ⟨c_1070, c_1071, c_1072, c_1073, c_1074, c_1075, c_1076, c_1077, c_1078, c_1079, w_1080, w_1081⟩ | ⟨c_1082, c_1083, c_1084, c_1085, c_1086, c_1087, c_1088, c_1089, c_1090, c_1091, c_1092, w_1093, w_1094⟩ | ⟨c_1095, c_1096, c_1097, c_1098, c_1099, c_1100, c_1101, c_1102, c_1103, c_1104, c_1105, c_1106, w_1107, w_1108⟩ | ⟨c_1109, c_1110, c_1111, c_1112, c_1113, c_1114, c_1115, c_1116, c_1117, c_1118, c_1119, c_1120, c_1121, w_1122, w_1123⟩
    · skip
      subst w_997
      subst w_998
      exact False.elim (by have a1 := (ixA (n := 0) c_985 (by decide)); have a2 := (iyE (n := 5) c_46 (by decide)); omega)
    · skip
      subst w_1012
      subst w_1013
      exact False.elim (by have a1 := (iyS (n := 10) c_1000 (by decide)); have a2 := (iyE (n := 5) c_46 (by decide)); omega)
    · skip
      subst w_1017
      subst w_1018
      exact absurd c_1016 c_41
    · skip
      subst w_1023
      subst w_1024
      exact absurd c_1022 c_42
    · skip
      subst w_1030
      subst w_1031
      exact absurd c_1029 c_43
    · skip
      subst w_1038
      subst w_1039
      exact absurd c_1037 c_44
    · skip
      subst w_1047
      subst w_1048
      exact absurd c_1046 c_45
    · skip
      subst w_1057
      subst w_1058
      obtain ⟨hP, hD⟩ := va_join (wr := [(o0, .inl (kA 1, 1, .inr (.inl (vp_updL (fun _ => 0) 0 ((0 : Int32).toInt64)))))]) (w1 := [(m0, .inr (11, y0.set 9 (.int 0))), (y4, .inl (kA 0, 2, .inl (fun _ => 0))), (y6, .inl (kA 0, 2, .inl (fun _ => 0))), (y7, .inl (kA 0, 2, .inl (fun _ => 0))), (y8, .inl (kA 0, 2, .inl (fun _ => 0))), (y9, .inl (kA 0, 2, .inl (fun _ => 0)))]) hP hD [0, 1, 2, 3, 4, 5] [6] rfl rfl (by decide) (by decide) hk1 hFc hP1 hD1
      generalize H1 = H at hP hS ⊢
      have hP : va_P D vwCl [(o0, .inl (kA 1, 1, .inr (.inl (vp_updL (fun _ => 0) 0 ((0 : Int32).toInt64))))), (m0, .inr (11, y0.set 9 (.int 0))), (y4, .inl (kA 0, 2, .inl (fun _ => 0))), (y6, .inl (kA 0, 2, .inl (fun _ => 0))), (y7, .inl (kA 0, 2, .inl (fun _ => 0))), (y8, .inl (kA 0, 2, .inl (fun _ => 0))), (y9, .inl (kA 0, 2, .inl (fun _ => 0)))] H := hP
      have hD : va_D A [(o0, .inl (kA 1, 1, .inr (.inl (vp_updL (fun _ => 0) 0 ((0 : Int32).toInt64))))), (m0, .inr (11, y0.set 9 (.int 0))), (y4, .inl (kA 0, 2, .inl (fun _ => 0))), (y6, .inl (kA 0, 2, .inl (fun _ => 0))), (y7, .inl (kA 0, 2, .inl (fun _ => 0))), (y8, .inl (kA 0, 2, .inl (fun _ => 0))), (y9, .inl (kA 0, 2, .inl (fun _ => 0)))] := hD
      refine lv_istore (lv' := [(6, .int 0), (5, .int 0), (0, .ref b), (1, .ref h0), (2, .ref m0), (3, .ref o0), (4, .int 0)]) hx hb dL_law_1316 hl (by decide) rfl (fun ls hl => ?_)
      refine lv_aload_n hx hb dL_law_1318 rfl (lv_at hl 4 rfl) ?_
      have hPc := hP.sub (ws' := [(m0, .inr (11, y0.set 9 (.int 0)))]) [1] rfl
      have hDc := hD.sub (ws' := [(m0, .inr (11, y0.set 9 (.int 0)))]) [1] (by decide) rfl
      have hFc := va_free (wc := [(m0, .inr (11, y0.set 9 (.int 0)))]) hD hS hA [1] rfl
      refine va_calli (va_runV (As := []) (rest := []) ⟨hx, hb, hml, hown, hts⟩ (a94_X12_thrown l  D kA V H.size m0 (y0.set 9 (.int 0)) (fun k hk => (by rw [List.length_set]; exact (hq k hk))) (List.getElem?_set_self (hq 9 (by decide)))) (cwV 0 hts (gw_V gw_1879 gw_1880 gw_1881 gw_16 gw_1882) rfl rfl rfl (by decide +kernel) ⟨(Nat.le_of_ble_eq_true rfl), (Nat.le_of_ble_eq_true rfl)⟩) ⟨aP.blind, va_recv hK hP (ci := 11) (q0 := 1) rfl rfl, aP.pre hE hS hPc hK hDc hFc⟩ rfl rfl hl.1 rfl (lv_room (Nat.le_of_ble_eq_true rfl)) dL_law_1319 ⟨(Nat.le_of_ble_eq_true rfl), (Nat.le_of_ble_eq_true rfl)⟩) hS (fun q _ h => hFc q h) hFc (fun r_1124 u t H1 locs ht hvm hw hB hz1 hk1 hS => ?_)
      obtain ⟨hP1, hD1⟩ := hB
      rw [ht] at hP1
      try dsimp only at hw hP1 hD1
      have w_1125 := hw
      subst w_1125
      obtain ⟨hP, hD⟩ := va_join (wr := [(o0, .inl (kA 1, 1, .inr (.inl (vp_updL (fun _ => 0) 0 ((0 : Int32).toInt64))))), (y4, .inl (kA 0, 2, .inl (fun _ => 0))), (y6, .inl (kA 0, 2, .inl (fun _ => 0))), (y7, .inl (kA 0, 2, .inl (fun _ => 0))), (y8, .inl (kA 0, 2, .inl (fun _ => 0))), (y9, .inl (kA 0, 2, .inl (fun _ => 0)))]) (w1 := [(m0, .inr (11, (y0.set 9 (.int 0))))]) hP hD [1] [0, 2, 3, 4, 5, 6] rfl rfl (by decide) (by decide) hk1 hFc hP1 hD1
      generalize H1 = H at hP hS ⊢
      have hP : va_P D vwCl [(o0, .inl (kA 1, 1, .inr (.inl (vp_updL (fun _ => 0) 0 ((0 : Int32).toInt64))))), (y4, .inl (kA 0, 2, .inl (fun _ => 0))), (y6, .inl (kA 0, 2, .inl (fun _ => 0))), (y7, .inl (kA 0, 2, .inl (fun _ => 0))), (y8, .inl (kA 0, 2, .inl (fun _ => 0))), (y9, .inl (kA 0, 2, .inl (fun _ => 0))), (m0, .inr (11, (y0.set 9 (.int 0))))] H := hP
      have hD : va_D A [(o0, .inl (kA 1, 1, .inr (.inl (vp_updL (fun _ => 0) 0 ((0 : Int32).toInt64))))), (y4, .inl (kA 0, 2, .inl (fun _ => 0))), (y6, .inl (kA 0, 2, .inl (fun _ => 0))), (y7, .inl (kA 0, 2, .inl (fun _ => 0))), (y8, .inl (kA 0, 2, .inl (fun _ => 0))), (y9, .inl (kA 0, 2, .inl (fun _ => 0))), (m0, .inr (11, (y0.set 9 (.int 0))))] := hD
      refine lv_iload hx hb dL_law_1322 (lv_at hl 1 rfl) ?_
      refine lv_icmp_eq (tgt := 1329) hx hb dL_law_1324 (by decide) (fun c_1126 => ?_) (fun c_1126 => ?_)
      · skip
        refine lv_iload hx hb dL_law_1329 (lv_at hl 1 rfl) ?_
        refine lv_if_ne (tgt := 1346) hx hb dL_law_1331 (by decide) (fun c_1127 => ?_) (fun c_1127 => ?_)
        · exact absurd (by decide) c_1127
        · skip
          refine lv_aload_n hx hb dL_law_1334 rfl (lv_at hl 5 rfl) ?_
          refine lv_iconst (v := 0) hx hb dL_law_1335 (by decide) ?_
          refine va_lald hx hb hK hP 0 1 rfl rfl (show vp_in 0 1 by unfold vp_in; decide) dL_law_1336 ?_
          refine W.eq (g2 := F0 m 1337 ls [.long ((0 : Int32).toInt64)]) rfl ?_
          refine lv_iload hx hb dL_law_1337 (lv_at hl 0 rfl) ?_
          refine lv_i2l (v := (0 : Int32).toInt64) hx hb dL_law_1339 rfl ?_
          refine W.lcmp hx hb dL_law_1340 ?_
          refine lv_if_eq (tgt := 1346) hx hb dL_law_1341 (by decide) (fun c_1128 => ?_) (fun c_1128 => ?_)
          · skip
            refine lv_goto (tgt := 1804) hx hb dL_law_1346 (by decide) ?_
            exact lk_tail hC hA2 (lv_sub hl [2, 6] rfl) hS (Nat.le_of_ble_eq_true rfl) (Nat.le_of_ble_eq_true rfl)
          · exact absurd ((lg_cmp_eq _ _).mpr rfl) c_1128
      · exact absurd (by decide) c_1126
    · skip
      subst w_1068
      subst w_1069
      exact absurd c_46 c_1066
    · skip
      subst w_1080
      subst w_1081
      exact absurd c_46 c_1077
    · skip
      subst w_1093
      subst w_1094
      exact absurd c_46 c_1089
    · skip
      subst w_1107
      subst w_1108
      exact absurd c_46 c_1102
    · skip
      subst w_1122
      subst w_1123
      exact absurd c_46 c_1116
  · skip
    subst w_56
    subst w_57
    obtain ⟨hP, hD⟩ := va_join (wr := [(m0, .inr (11, y0)), (y4, .inl (kA 0, 2, .inl (fun _ => 0))), (y6, .inl (kA 0, 2, .inl (fun _ => 0))), (y7, .inl (kA 0, 2, .inl (fun _ => 0))), (y8, .inl (kA 0, 2, .inl (fun _ => 0))), (y9, .inl (kA 0, 2, .inl (fun _ => 0)))]) (w1 := [(o0, .inl (kA 1, 1, .inr (.inl (vp_updL (fun _ => 0) 0 ((0 : Int32).toInt64)))))]) hP hD [0, 1, 2, 3, 10] [4, 5, 6, 7, 8, 9] rfl rfl (by decide) (by decide) hk1 hFc hP1 hD1
    generalize H1 = H at hP hS ⊢
    have hP : va_P D vwCl [(m0, .inr (11, y0)), (y4, .inl (kA 0, 2, .inl (fun _ => 0))), (y6, .inl (kA 0, 2, .inl (fun _ => 0))), (y7, .inl (kA 0, 2, .inl (fun _ => 0))), (y8, .inl (kA 0, 2, .inl (fun _ => 0))), (y9, .inl (kA 0, 2, .inl (fun _ => 0))), (o0, .inl (kA 1, 1, .inr (.inl (vp_updL (fun _ => 0) 0 ((0 : Int32).toInt64)))))] H := hP
    have hD : va_D A [(m0, .inr (11, y0)), (y4, .inl (kA 0, 2, .inl (fun _ => 0))), (y6, .inl (kA 0, 2, .inl (fun _ => 0))), (y7, .inl (kA 0, 2, .inl (fun _ => 0))), (y8, .inl (kA 0, 2, .inl (fun _ => 0))), (y9, .inl (kA 0, 2, .inl (fun _ => 0))), (o0, .inl (kA 1, 1, .inr (.inl (vp_updL (fun _ => 0) 0 ((0 : Int32).toInt64)))))] := hD
    refine lv_istore (lv' := [(5, .int 0), (0, .ref b), (1, .ref h0), (2, .ref m0), (3, .ref o0), (4, .int 0)]) hx hb dL_law_1304 hl (by decide) rfl (fun ls hl => ?_)
    refine lv_aload_n hx hb dL_law_1306 rfl (lv_at hl 3 rfl) ?_
    refine lv_aload_n hx hb dL_law_1307 rfl (lv_at hl 1 rfl) ?_
    refine lv_iload hx hb dL_law_1308 (lv_at hl 5 rfl) ?_
    refine lv_iconst (v := 1) hx hb dL_law_1310 (by decide) ?_
    refine lv_iadd hx hb dL_law_1311 ?_
    refine W.eq (g2 := F0 m 1312 ls [.int 1, .ref b, .ref m0]) rfl ?_
    refine va_sld hx hb hX hbl hbA hS (show vp_in 1 8 by unfold vp_in; decide) dL_law_1312 ?_
    refine W.eq (g2 := F0 m 1313 ls [.int (xs 1), .ref m0]) rfl ?_
    have hPc := hP.sub (ws' := [(m0, .inr (11, y0)), (y4, .inl (kA 0, 2, .inl (fun _ => 0))), (y6, .inl (kA 0, 2, .inl (fun _ => 0))), (y7, .inl (kA 0, 2, .inl (fun _ => 0))), (y8, .inl (kA 0, 2, .inl (fun _ => 0))), (y9, .inl (kA 0, 2, .inl (fun _ => 0)))]) [0, 1, 2, 3, 4, 5] rfl
    have hDc := hD.sub (ws' := [(m0, .inr (11, y0)), (y4, .inl (kA 0, 2, .inl (fun _ => 0))), (y6, .inl (kA 0, 2, .inl (fun _ => 0))), (y7, .inl (kA 0, 2, .inl (fun _ => 0))), (y8, .inl (kA 0, 2, .inl (fun _ => 0))), (y9, .inl (kA 0, 2, .inl (fun _ => 0)))]) [0, 1, 2, 3, 4, 5] (by decide) rfl
    have hFc := va_free (wc := [(m0, .inr (11, y0)), (y4, .inl (kA 0, 2, .inl (fun _ => 0))), (y6, .inl (kA 0, 2, .inl (fun _ => 0))), (y7, .inl (kA 0, 2, .inl (fun _ => 0))), (y8, .inl (kA 0, 2, .inl (fun _ => 0))), (y9, .inl (kA 0, 2, .inl (fun _ => 0)))]) hD hS hA [0, 1, 2, 3, 4, 5] rfl
    refine va_calli (va_runV (As := [.int (xs 1)]) (rest := []) ⟨hx, hb, hml, hown, hts⟩ (a147_X12_count l  D kA V H.size m0 (xs 1) y4 y6 y7 y8 y9 y0 (fun k hk => (hq k hk)) hq1 hq19 hq36 hq37 hq42 hq48 hq55 hq98 hq103 hq104 hq105) (cwV 1 hts (gw_V gw_2740 gw_2741 gw_2742 gw_16 gw_2743) rfl rfl rfl (by decide +kernel) ⟨(Nat.le_of_ble_eq_true rfl), (Nat.le_of_ble_eq_true rfl)⟩) ⟨aP.blind, va_recv hK hP (ci := 11) (q0 := 0) rfl rfl, aP.pre hE hS hPc hK hDc hFc⟩ rfl rfl hl.1 rfl (lv_room (Nat.le_of_ble_eq_true rfl)) dL_law_1313 ⟨(Nat.le_of_ble_eq_true rfl), (Nat.le_of_ble_eq_true rfl)⟩) hS (fun q _ h => hFc q h) hFc (fun r_1129 u t H1 locs ht hvm hw hB hz1 hk1 hS => ?_)
    obtain ⟨u_1130, rfl⟩ : ∃ z, z = u := ⟨u, rfl⟩
    obtain ⟨hP1, hD1⟩ := hB
    rw [ht] at hP1
    try dsimp only at hw hP1 hD1
    rcases hw with ⟨c_1131, c_1132, c_1133, c_1134, c_1135, c_1136, c_1137, c_1138, c_1139, c_1140, c_1141, c_1142, w_1143, w_1144⟩ | ⟨c_1145, c_1146, c_1147, c_1148, c_1149, c_1150, c_1151, c_1152, c_1153, c_1154, c_1155, c_1156, c_1157, w_1158, w_1159⟩ | ⟨c_1160, c_1161, c_1162, w_1163, w_1164⟩ | ⟨c_1165, c_1166, c_1167, c_1168, w_1169, w_1170⟩ | ⟨c_1171, c_1172, c_1173, c_1174, c_1175, w_1176, w_1177⟩ | ⟨c_1178, c_1179, c_1180, c_1181, c_1182, c_1183, w_1184, w_1185⟩ | ⟨c_1186, c_1187, c_1188, c_1189, c_1190, c_1191, c_1192, w_1193, w_1194⟩ | ⟨c_1195, c_1196, c_1197, c_1198, c_1199, c_1200, c_1201, c_1202, w_1203, w_1204⟩ | ⟨c_1205, c_1206, c_1207, c_1208, c_1209, c_1210, c_1211, c_1212, c_1213, w_1214, w_1215⟩ | ⟨c_1216, c_1217, c_1218, c_1219, c_1220, c_1221, c_1222, c_1223, c_1224, c_1225, w_1226, w_1227⟩ | ⟨c_1228, c_1229, c_1230, c_1231, c_1232, c_1233, c_1234, c_1235, c_1236, c_1237, c_1238, w_1239, w_1240⟩ | ⟨c_1241, c_1242, c_1243, c_1244, c_1245, c_1246, c_1247, c_1248, c_1249, c_1250, c_1251, c_1252, w_1253, w_1254⟩ | ⟨c_1255, c_1256, c_1257, c_1258, c_1259, c_1260, c_1261, c_1262, c_1263, c_1264, c_1265, c_1266, c_1267, w_1268, w_1269⟩
    · skip
      subst w_1143
      subst w_1144
      exact False.elim (by have a1 := (ixA (n := 0) c_1131 (by decide)); have a2 := (iyE (n := 6) c_55 (by decide)); omega)
    · skip
      subst w_1158
      subst w_1159
      exact False.elim (by have a1 := (iyS (n := 10) c_1146 (by decide)); have a2 := (iyE (n := 6) c_55 (by decide)); omega)
    · skip
      subst w_1163
      subst w_1164
      exact absurd c_1162 c_49
    · skip
      subst w_1169
      subst w_1170
      exact absurd c_1168 c_50
    · skip
      subst w_1176
      subst w_1177
      exact absurd c_1175 c_51
    · skip
      subst w_1184
      subst w_1185
      exact absurd c_1183 c_52
    · skip
      subst w_1193
      subst w_1194
      exact absurd c_1192 c_53
    · skip
      subst w_1203
      subst w_1204
      exact absurd c_1202 c_54
    · skip
      subst w_1214
      subst w_1215
      obtain ⟨hP, hD⟩ := va_join (wr := [(o0, .inl (kA 1, 1, .inr (.inl (vp_updL (fun _ => 0) 0 ((0 : Int32).toInt64)))))]) (w1 := [(m0, .inr (11, y0.set 9 (.int 0))), (y4, .inl (kA 0, 2, .inl (fun _ => 0))), (y6, .inl (kA 0, 2, .inl (fun _ => 0))), (y7, .inl (kA 0, 2, .inl (fun _ => 0))), (y8, .inl (kA 0, 2, .inl (fun _ => 0))), (y9, .inl (kA 0, 2, .inl (fun _ => 0)))]) hP hD [0, 1, 2, 3, 4, 5] [6] rfl rfl (by decide) (by decide) hk1 hFc hP1 hD1
      generalize H1 = H at hP hS ⊢
      have hP : va_P D vwCl [(o0, .inl (kA 1, 1, .inr (.inl (vp_updL (fun _ => 0) 0 ((0 : Int32).toInt64))))), (m0, .inr (11, y0.set 9 (.int 0))), (y4, .inl (kA 0, 2, .inl (fun _ => 0))), (y6, .inl (kA 0, 2, .inl (fun _ => 0))), (y7, .inl (kA 0, 2, .inl (fun _ => 0))), (y8, .inl (kA 0, 2, .inl (fun _ => 0))), (y9, .inl (kA 0, 2, .inl (fun _ => 0)))] H := hP
      have hD : va_D A [(o0, .inl (kA 1, 1, .inr (.inl (vp_updL (fun _ => 0) 0 ((0 : Int32).toInt64))))), (m0, .inr (11, y0.set 9 (.int 0))), (y4, .inl (kA 0, 2, .inl (fun _ => 0))), (y6, .inl (kA 0, 2, .inl (fun _ => 0))), (y7, .inl (kA 0, 2, .inl (fun _ => 0))), (y8, .inl (kA 0, 2, .inl (fun _ => 0))), (y9, .inl (kA 0, 2, .inl (fun _ => 0)))] := hD
      refine lv_istore (lv' := [(6, .int 0), (5, .int 0), (0, .ref b), (1, .ref h0), (2, .ref m0), (3, .ref o0), (4, .int 0)]) hx hb dL_law_1316 hl (by decide) rfl (fun ls hl => ?_)
      refine lv_aload_n hx hb dL_law_1318 rfl (lv_at hl 4 rfl) ?_
      have hPc := hP.sub (ws' := [(m0, .inr (11, y0.set 9 (.int 0)))]) [1] rfl
      have hDc := hD.sub (ws' := [(m0, .inr (11, y0.set 9 (.int 0)))]) [1] (by decide) rfl
      have hFc := va_free (wc := [(m0, .inr (11, y0.set 9 (.int 0)))]) hD hS hA [1] rfl
      refine va_calli (va_runV (As := []) (rest := []) ⟨hx, hb, hml, hown, hts⟩ (a94_X12_thrown l  D kA V H.size m0 (y0.set 9 (.int 0)) (fun k hk => (by rw [List.length_set]; exact (hq k hk))) (List.getElem?_set_self (hq 9 (by decide)))) (cwV 0 hts (gw_V gw_1879 gw_1880 gw_1881 gw_16 gw_1882) rfl rfl rfl (by decide +kernel) ⟨(Nat.le_of_ble_eq_true rfl), (Nat.le_of_ble_eq_true rfl)⟩) ⟨aP.blind, va_recv hK hP (ci := 11) (q0 := 1) rfl rfl, aP.pre hE hS hPc hK hDc hFc⟩ rfl rfl hl.1 rfl (lv_room (Nat.le_of_ble_eq_true rfl)) dL_law_1319 ⟨(Nat.le_of_ble_eq_true rfl), (Nat.le_of_ble_eq_true rfl)⟩) hS (fun q _ h => hFc q h) hFc (fun r_1270 u t H1 locs ht hvm hw hB hz1 hk1 hS => ?_)
      obtain ⟨hP1, hD1⟩ := hB
      rw [ht] at hP1
      try dsimp only at hw hP1 hD1
      have w_1271 := hw
      subst w_1271
      obtain ⟨hP, hD⟩ := va_join (wr := [(o0, .inl (kA 1, 1, .inr (.inl (vp_updL (fun _ => 0) 0 ((0 : Int32).toInt64))))), (y4, .inl (kA 0, 2, .inl (fun _ => 0))), (y6, .inl (kA 0, 2, .inl (fun _ => 0))), (y7, .inl (kA 0, 2, .inl (fun _ => 0))), (y8, .inl (kA 0, 2, .inl (fun _ => 0))), (y9, .inl (kA 0, 2, .inl (fun _ => 0)))]) (w1 := [(m0, .inr (11, (y0.set 9 (.int 0))))]) hP hD [1] [0, 2, 3, 4, 5, 6] rfl rfl (by decide) (by decide) hk1 hFc hP1 hD1
      generalize H1 = H at hP hS ⊢
      have hP : va_P D vwCl [(o0, .inl (kA 1, 1, .inr (.inl (vp_updL (fun _ => 0) 0 ((0 : Int32).toInt64))))), (y4, .inl (kA 0, 2, .inl (fun _ => 0))), (y6, .inl (kA 0, 2, .inl (fun _ => 0))), (y7, .inl (kA 0, 2, .inl (fun _ => 0))), (y8, .inl (kA 0, 2, .inl (fun _ => 0))), (y9, .inl (kA 0, 2, .inl (fun _ => 0))), (m0, .inr (11, (y0.set 9 (.int 0))))] H := hP
      have hD : va_D A [(o0, .inl (kA 1, 1, .inr (.inl (vp_updL (fun _ => 0) 0 ((0 : Int32).toInt64))))), (y4, .inl (kA 0, 2, .inl (fun _ => 0))), (y6, .inl (kA 0, 2, .inl (fun _ => 0))), (y7, .inl (kA 0, 2, .inl (fun _ => 0))), (y8, .inl (kA 0, 2, .inl (fun _ => 0))), (y9, .inl (kA 0, 2, .inl (fun _ => 0))), (m0, .inr (11, (y0.set 9 (.int 0))))] := hD
      refine lv_iload hx hb dL_law_1322 (lv_at hl 1 rfl) ?_
      refine lv_icmp_eq (tgt := 1329) hx hb dL_law_1324 (by decide) (fun c_1272 => ?_) (fun c_1272 => ?_)
      · skip
        refine lv_iload hx hb dL_law_1329 (lv_at hl 1 rfl) ?_
        refine lv_if_ne (tgt := 1346) hx hb dL_law_1331 (by decide) (fun c_1273 => ?_) (fun c_1273 => ?_)
        · exact absurd (by decide) c_1273
        · skip
          refine lv_aload_n hx hb dL_law_1334 rfl (lv_at hl 5 rfl) ?_
          refine lv_iconst (v := 0) hx hb dL_law_1335 (by decide) ?_
          refine va_lald hx hb hK hP 0 1 rfl rfl (show vp_in 0 1 by unfold vp_in; decide) dL_law_1336 ?_
          refine W.eq (g2 := F0 m 1337 ls [.long ((0 : Int32).toInt64)]) rfl ?_
          refine lv_iload hx hb dL_law_1337 (lv_at hl 0 rfl) ?_
          refine lv_i2l (v := (0 : Int32).toInt64) hx hb dL_law_1339 rfl ?_
          refine W.lcmp hx hb dL_law_1340 ?_
          refine lv_if_eq (tgt := 1346) hx hb dL_law_1341 (by decide) (fun c_1274 => ?_) (fun c_1274 => ?_)
          · skip
            refine lv_goto (tgt := 1804) hx hb dL_law_1346 (by decide) ?_
            exact lk_tail hC hA2 (lv_sub hl [2, 6] rfl) hS (Nat.le_of_ble_eq_true rfl) (Nat.le_of_ble_eq_true rfl)
          · exact absurd ((lg_cmp_eq _ _).mpr rfl) c_1274
      · exact absurd (by decide) c_1272
    · skip
      subst w_1226
      subst w_1227
      exact absurd c_55 c_1224
    · skip
      subst w_1239
      subst w_1240
      exact absurd c_55 c_1236
    · skip
      subst w_1253
      subst w_1254
      exact absurd c_55 c_1249
    · skip
      subst w_1268
      subst w_1269
      exact absurd c_55 c_1263
  · skip
    subst w_66
    subst w_67
    obtain ⟨hP, hD⟩ := va_join (wr := [(m0, .inr (11, y0)), (y4, .inl (kA 0, 2, .inl (fun _ => 0))), (y6, .inl (kA 0, 2, .inl (fun _ => 0))), (y7, .inl (kA 0, 2, .inl (fun _ => 0))), (y8, .inl (kA 0, 2, .inl (fun _ => 0))), (y9, .inl (kA 0, 2, .inl (fun _ => 0)))]) (w1 := [(o0, .inl (kA 1, 1, .inr (.inl (vp_updL (fun _ => 0) 0 ((0 : Int32).toInt64)))))]) hP hD [0, 1, 2, 3, 10] [4, 5, 6, 7, 8, 9] rfl rfl (by decide) (by decide) hk1 hFc hP1 hD1
    generalize H1 = H at hP hS ⊢
    have hP : va_P D vwCl [(m0, .inr (11, y0)), (y4, .inl (kA 0, 2, .inl (fun _ => 0))), (y6, .inl (kA 0, 2, .inl (fun _ => 0))), (y7, .inl (kA 0, 2, .inl (fun _ => 0))), (y8, .inl (kA 0, 2, .inl (fun _ => 0))), (y9, .inl (kA 0, 2, .inl (fun _ => 0))), (o0, .inl (kA 1, 1, .inr (.inl (vp_updL (fun _ => 0) 0 ((0 : Int32).toInt64)))))] H := hP
    have hD : va_D A [(m0, .inr (11, y0)), (y4, .inl (kA 0, 2, .inl (fun _ => 0))), (y6, .inl (kA 0, 2, .inl (fun _ => 0))), (y7, .inl (kA 0, 2, .inl (fun _ => 0))), (y8, .inl (kA 0, 2, .inl (fun _ => 0))), (y9, .inl (kA 0, 2, .inl (fun _ => 0))), (o0, .inl (kA 1, 1, .inr (.inl (vp_updL (fun _ => 0) 0 ((0 : Int32).toInt64)))))] := hD
    refine lv_istore (lv' := [(5, .int 0), (0, .ref b), (1, .ref h0), (2, .ref m0), (3, .ref o0), (4, .int 0)]) hx hb dL_law_1304 hl (by decide) rfl (fun ls hl => ?_)
    refine lv_aload_n hx hb dL_law_1306 rfl (lv_at hl 3 rfl) ?_
    refine lv_aload_n hx hb dL_law_1307 rfl (lv_at hl 1 rfl) ?_
    refine lv_iload hx hb dL_law_1308 (lv_at hl 5 rfl) ?_
    refine lv_iconst (v := 1) hx hb dL_law_1310 (by decide) ?_
    refine lv_iadd hx hb dL_law_1311 ?_
    refine W.eq (g2 := F0 m 1312 ls [.int 1, .ref b, .ref m0]) rfl ?_
    refine va_sld hx hb hX hbl hbA hS (show vp_in 1 8 by unfold vp_in; decide) dL_law_1312 ?_
    refine W.eq (g2 := F0 m 1313 ls [.int (xs 1), .ref m0]) rfl ?_
    have hPc := hP.sub (ws' := [(m0, .inr (11, y0)), (y4, .inl (kA 0, 2, .inl (fun _ => 0))), (y6, .inl (kA 0, 2, .inl (fun _ => 0))), (y7, .inl (kA 0, 2, .inl (fun _ => 0))), (y8, .inl (kA 0, 2, .inl (fun _ => 0))), (y9, .inl (kA 0, 2, .inl (fun _ => 0)))]) [0, 1, 2, 3, 4, 5] rfl
    have hDc := hD.sub (ws' := [(m0, .inr (11, y0)), (y4, .inl (kA 0, 2, .inl (fun _ => 0))), (y6, .inl (kA 0, 2, .inl (fun _ => 0))), (y7, .inl (kA 0, 2, .inl (fun _ => 0))), (y8, .inl (kA 0, 2, .inl (fun _ => 0))), (y9, .inl (kA 0, 2, .inl (fun _ => 0)))]) [0, 1, 2, 3, 4, 5] (by decide) rfl
    have hFc := va_free (wc := [(m0, .inr (11, y0)), (y4, .inl (kA 0, 2, .inl (fun _ => 0))), (y6, .inl (kA 0, 2, .inl (fun _ => 0))), (y7, .inl (kA 0, 2, .inl (fun _ => 0))), (y8, .inl (kA 0, 2, .inl (fun _ => 0))), (y9, .inl (kA 0, 2, .inl (fun _ => 0)))]) hD hS hA [0, 1, 2, 3, 4, 5] rfl
    refine va_calli (va_runV (As := [.int (xs 1)]) (rest := []) ⟨hx, hb, hml, hown, hts⟩ (a147_X12_count l  D kA V H.size m0 (xs 1) y4 y6 y7 y8 y9 y0 (fun k hk => (hq k hk)) hq1 hq19 hq36 hq37 hq42 hq48 hq55 hq98 hq103 hq104 hq105) (cwV 1 hts (gw_V gw_2740 gw_2741 gw_2742 gw_16 gw_2743) rfl rfl rfl (by decide +kernel) ⟨(Nat.le_of_ble_eq_true rfl), (Nat.le_of_ble_eq_true rfl)⟩) ⟨aP.blind, va_recv hK hP (ci := 11) (q0 := 0) rfl rfl, aP.pre hE hS hPc hK hDc hFc⟩ rfl rfl hl.1 rfl (lv_room (Nat.le_of_ble_eq_true rfl)) dL_law_1313 ⟨(Nat.le_of_ble_eq_true rfl), (Nat.le_of_ble_eq_true rfl)⟩) hS (fun q _ h => hFc q h) hFc (fun r_1275 u t H1 locs ht hvm hw hB hz1 hk1 hS => ?_)
    obtain ⟨u_1276, rfl⟩ : ∃ z, z = u := ⟨u, rfl⟩
    obtain ⟨hP1, hD1⟩ := hB
    rw [ht] at hP1
    try dsimp only at hw hP1 hD1
    rcases hw with ⟨c_1277, c_1278, c_1279, c_1280, c_1281, c_1282, c_1283, c_1284, c_1285, c_1286, c_1287, c_1288, w_1289, w_1290⟩ | ⟨c_1291, c_1292, c_1293, c_1294, c_1295, c_1296, c_1297, c_1298, c_1299, c_1300, c_1301, c_1302, c_1303, w_1304, w_1305⟩ | ⟨c_1306, c_1307, c_1308, w_1309, w_1310⟩ | ⟨c_1311, c_1312, c_1313, c_1314, w_1315, w_1316⟩ | ⟨c_1317, c_1318, c_1319, c_1320, c_1321, w_1322, w_1323⟩ | ⟨c_1324, c_1325, c_1326, c_1327, c_1328, c_1329, w_1330, w_1331⟩ | ⟨c_1332, c_1333, c_1334, c_1335, c_1336, c_1337, c_1338, w_1339, w_1340⟩ | ⟨c_1341, c_1342, c_1343, c_1344, c_1345, c_1346, c_1347, c_1348, w_1349, w_1350⟩ | ⟨c_1351, c_1352, c_1353, c_1354, c_1355, c_1356, c_1357, c_1358, c_1359, w_1360, w_1361⟩ | ⟨c_1362, c_1363, c_1364, c_1365, c_1366, c_1367, c_1368, c_1369, c_1370, c_1371, w_1372, w_1373⟩ | ⟨c_1374, c_1375, c_1376, c_1377, c_1378, c_1379, c_1380, c_1381, c_1382, c_1383, c_1384, w_1385, w_1386⟩ | ⟨c_1387, c_1388, c_1389, c_1390, c_1391, c_1392, c_1393, c_1394, c_1395, c_1396, c_1397, c_1398, w_1399, w_1400⟩ | ⟨c_1401, c_1402, c_1403, c_1404, c_1405, c_1406, c_1407, c_1408, c_1409, c_1410, c_1411, c_1412, c_1413, w_1414, w_1415⟩
    · skip
      subst w_1289
      subst w_1290
      exact False.elim (by have a1 := (ixA (n := 0) c_1277 (by decide)); have a2 := (iyE (n := 7) c_65 (by decide)); omega)
    · skip
      subst w_1304
      subst w_1305
      exact False.elim (by have a1 := (iyS (n := 10) c_1292 (by decide)); have a2 := (iyE (n := 7) c_65 (by decide)); omega)
    · skip
      subst w_1309
      subst w_1310
      exact absurd c_1308 c_58
    · skip
      subst w_1315
      subst w_1316
      exact absurd c_1314 c_59
    · skip
      subst w_1322
      subst w_1323
      exact absurd c_1321 c_60
    · skip
      subst w_1330
      subst w_1331
      exact absurd c_1329 c_61
    · skip
      subst w_1339
      subst w_1340
      exact absurd c_1338 c_62
    · skip
      subst w_1349
      subst w_1350
      exact absurd c_1348 c_63
    · skip
      subst w_1360
      subst w_1361
      exact absurd c_1359 c_64
    · skip
      subst w_1372
      subst w_1373
      obtain ⟨hP, hD⟩ := va_join (wr := [(o0, .inl (kA 1, 1, .inr (.inl (vp_updL (fun _ => 0) 0 ((0 : Int32).toInt64)))))]) (w1 := [(m0, .inr (11, y0.set 9 (.int 0))), (y4, .inl (kA 0, 2, .inl (fun _ => 0))), (y6, .inl (kA 0, 2, .inl (fun _ => 0))), (y7, .inl (kA 0, 2, .inl (fun _ => 0))), (y8, .inl (kA 0, 2, .inl (fun _ => 0))), (y9, .inl (kA 0, 2, .inl (fun _ => 0)))]) hP hD [0, 1, 2, 3, 4, 5] [6] rfl rfl (by decide) (by decide) hk1 hFc hP1 hD1
      generalize H1 = H at hP hS ⊢
      have hP : va_P D vwCl [(o0, .inl (kA 1, 1, .inr (.inl (vp_updL (fun _ => 0) 0 ((0 : Int32).toInt64))))), (m0, .inr (11, y0.set 9 (.int 0))), (y4, .inl (kA 0, 2, .inl (fun _ => 0))), (y6, .inl (kA 0, 2, .inl (fun _ => 0))), (y7, .inl (kA 0, 2, .inl (fun _ => 0))), (y8, .inl (kA 0, 2, .inl (fun _ => 0))), (y9, .inl (kA 0, 2, .inl (fun _ => 0)))] H := hP
      have hD : va_D A [(o0, .inl (kA 1, 1, .inr (.inl (vp_updL (fun _ => 0) 0 ((0 : Int32).toInt64))))), (m0, .inr (11, y0.set 9 (.int 0))), (y4, .inl (kA 0, 2, .inl (fun _ => 0))), (y6, .inl (kA 0, 2, .inl (fun _ => 0))), (y7, .inl (kA 0, 2, .inl (fun _ => 0))), (y8, .inl (kA 0, 2, .inl (fun _ => 0))), (y9, .inl (kA 0, 2, .inl (fun _ => 0)))] := hD
      refine lv_istore (lv' := [(6, .int 0), (5, .int 0), (0, .ref b), (1, .ref h0), (2, .ref m0), (3, .ref o0), (4, .int 0)]) hx hb dL_law_1316 hl (by decide) rfl (fun ls hl => ?_)
      refine lv_aload_n hx hb dL_law_1318 rfl (lv_at hl 4 rfl) ?_
      have hPc := hP.sub (ws' := [(m0, .inr (11, y0.set 9 (.int 0)))]) [1] rfl
      have hDc := hD.sub (ws' := [(m0, .inr (11, y0.set 9 (.int 0)))]) [1] (by decide) rfl
      have hFc := va_free (wc := [(m0, .inr (11, y0.set 9 (.int 0)))]) hD hS hA [1] rfl
      refine va_calli (va_runV (As := []) (rest := []) ⟨hx, hb, hml, hown, hts⟩ (a94_X12_thrown l  D kA V H.size m0 (y0.set 9 (.int 0)) (fun k hk => (by rw [List.length_set]; exact (hq k hk))) (List.getElem?_set_self (hq 9 (by decide)))) (cwV 0 hts (gw_V gw_1879 gw_1880 gw_1881 gw_16 gw_1882) rfl rfl rfl (by decide +kernel) ⟨(Nat.le_of_ble_eq_true rfl), (Nat.le_of_ble_eq_true rfl)⟩) ⟨aP.blind, va_recv hK hP (ci := 11) (q0 := 1) rfl rfl, aP.pre hE hS hPc hK hDc hFc⟩ rfl rfl hl.1 rfl (lv_room (Nat.le_of_ble_eq_true rfl)) dL_law_1319 ⟨(Nat.le_of_ble_eq_true rfl), (Nat.le_of_ble_eq_true rfl)⟩) hS (fun q _ h => hFc q h) hFc (fun r_1416 u t H1 locs ht hvm hw hB hz1 hk1 hS => ?_)
      obtain ⟨hP1, hD1⟩ := hB
      rw [ht] at hP1
      try dsimp only at hw hP1 hD1
      have w_1417 := hw
      subst w_1417
      obtain ⟨hP, hD⟩ := va_join (wr := [(o0, .inl (kA 1, 1, .inr (.inl (vp_updL (fun _ => 0) 0 ((0 : Int32).toInt64))))), (y4, .inl (kA 0, 2, .inl (fun _ => 0))), (y6, .inl (kA 0, 2, .inl (fun _ => 0))), (y7, .inl (kA 0, 2, .inl (fun _ => 0))), (y8, .inl (kA 0, 2, .inl (fun _ => 0))), (y9, .inl (kA 0, 2, .inl (fun _ => 0)))]) (w1 := [(m0, .inr (11, (y0.set 9 (.int 0))))]) hP hD [1] [0, 2, 3, 4, 5, 6] rfl rfl (by decide) (by decide) hk1 hFc hP1 hD1
      generalize H1 = H at hP hS ⊢
      have hP : va_P D vwCl [(o0, .inl (kA 1, 1, .inr (.inl (vp_updL (fun _ => 0) 0 ((0 : Int32).toInt64))))), (y4, .inl (kA 0, 2, .inl (fun _ => 0))), (y6, .inl (kA 0, 2, .inl (fun _ => 0))), (y7, .inl (kA 0, 2, .inl (fun _ => 0))), (y8, .inl (kA 0, 2, .inl (fun _ => 0))), (y9, .inl (kA 0, 2, .inl (fun _ => 0))), (m0, .inr (11, (y0.set 9 (.int 0))))] H := hP
      have hD : va_D A [(o0, .inl (kA 1, 1, .inr (.inl (vp_updL (fun _ => 0) 0 ((0 : Int32).toInt64))))), (y4, .inl (kA 0, 2, .inl (fun _ => 0))), (y6, .inl (kA 0, 2, .inl (fun _ => 0))), (y7, .inl (kA 0, 2, .inl (fun _ => 0))), (y8, .inl (kA 0, 2, .inl (fun _ => 0))), (y9, .inl (kA 0, 2, .inl (fun _ => 0))), (m0, .inr (11, (y0.set 9 (.int 0))))] := hD
      refine lv_iload hx hb dL_law_1322 (lv_at hl 1 rfl) ?_
      refine lv_icmp_eq (tgt := 1329) hx hb dL_law_1324 (by decide) (fun c_1418 => ?_) (fun c_1418 => ?_)
      · skip
        refine lv_iload hx hb dL_law_1329 (lv_at hl 1 rfl) ?_
        refine lv_if_ne (tgt := 1346) hx hb dL_law_1331 (by decide) (fun c_1419 => ?_) (fun c_1419 => ?_)
        · exact absurd (by decide) c_1419
        · skip
          refine lv_aload_n hx hb dL_law_1334 rfl (lv_at hl 5 rfl) ?_
          refine lv_iconst (v := 0) hx hb dL_law_1335 (by decide) ?_
          refine va_lald hx hb hK hP 0 1 rfl rfl (show vp_in 0 1 by unfold vp_in; decide) dL_law_1336 ?_
          refine W.eq (g2 := F0 m 1337 ls [.long ((0 : Int32).toInt64)]) rfl ?_
          refine lv_iload hx hb dL_law_1337 (lv_at hl 0 rfl) ?_
          refine lv_i2l (v := (0 : Int32).toInt64) hx hb dL_law_1339 rfl ?_
          refine W.lcmp hx hb dL_law_1340 ?_
          refine lv_if_eq (tgt := 1346) hx hb dL_law_1341 (by decide) (fun c_1420 => ?_) (fun c_1420 => ?_)
          · skip
            refine lv_goto (tgt := 1804) hx hb dL_law_1346 (by decide) ?_
            exact lk_tail hC hA2 (lv_sub hl [2, 6] rfl) hS (Nat.le_of_ble_eq_true rfl) (Nat.le_of_ble_eq_true rfl)
          · exact absurd ((lg_cmp_eq _ _).mpr rfl) c_1420
      · exact absurd (by decide) c_1418
    · skip
      subst w_1385
      subst w_1386
      exact absurd c_65 c_1383
    · skip
      subst w_1399
      subst w_1400
      exact absurd c_65 c_1396
    · skip
      subst w_1414
      subst w_1415
      exact absurd c_65 c_1410
  · skip
    subst w_77
    subst w_78
    obtain ⟨hP, hD⟩ := va_join (wr := [(m0, .inr (11, y0)), (y4, .inl (kA 0, 2, .inl (fun _ => 0))), (y6, .inl (kA 0, 2, .inl (fun _ => 0))), (y7, .inl (kA 0, 2, .inl (fun _ => 0))), (y8, .inl (kA 0, 2, .inl (fun _ => 0))), (y9, .inl (kA 0, 2, .inl (fun _ => 0)))]) (w1 := [(o0, .inl (kA 1, 1, .inr (.inl (vp_updL (fun _ => 0) 0 ((0 : Int32).toInt64)))))]) hP hD [0, 1, 2, 3, 10] [4, 5, 6, 7, 8, 9] rfl rfl (by decide) (by decide) hk1 hFc hP1 hD1
    generalize H1 = H at hP hS ⊢
    have hP : va_P D vwCl [(m0, .inr (11, y0)), (y4, .inl (kA 0, 2, .inl (fun _ => 0))), (y6, .inl (kA 0, 2, .inl (fun _ => 0))), (y7, .inl (kA 0, 2, .inl (fun _ => 0))), (y8, .inl (kA 0, 2, .inl (fun _ => 0))), (y9, .inl (kA 0, 2, .inl (fun _ => 0))), (o0, .inl (kA 1, 1, .inr (.inl (vp_updL (fun _ => 0) 0 ((0 : Int32).toInt64)))))] H := hP
    have hD : va_D A [(m0, .inr (11, y0)), (y4, .inl (kA 0, 2, .inl (fun _ => 0))), (y6, .inl (kA 0, 2, .inl (fun _ => 0))), (y7, .inl (kA 0, 2, .inl (fun _ => 0))), (y8, .inl (kA 0, 2, .inl (fun _ => 0))), (y9, .inl (kA 0, 2, .inl (fun _ => 0))), (o0, .inl (kA 1, 1, .inr (.inl (vp_updL (fun _ => 0) 0 ((0 : Int32).toInt64)))))] := hD
    refine lv_istore (lv' := [(5, .int 0), (0, .ref b), (1, .ref h0), (2, .ref m0), (3, .ref o0), (4, .int 0)]) hx hb dL_law_1304 hl (by decide) rfl (fun ls hl => ?_)
    refine lv_aload_n hx hb dL_law_1306 rfl (lv_at hl 3 rfl) ?_
    refine lv_aload_n hx hb dL_law_1307 rfl (lv_at hl 1 rfl) ?_
    refine lv_iload hx hb dL_law_1308 (lv_at hl 5 rfl) ?_
    refine lv_iconst (v := 1) hx hb dL_law_1310 (by decide) ?_
    refine lv_iadd hx hb dL_law_1311 ?_
    refine W.eq (g2 := F0 m 1312 ls [.int 1, .ref b, .ref m0]) rfl ?_
    refine va_sld hx hb hX hbl hbA hS (show vp_in 1 8 by unfold vp_in; decide) dL_law_1312 ?_
    refine W.eq (g2 := F0 m 1313 ls [.int (xs 1), .ref m0]) rfl ?_
    have hPc := hP.sub (ws' := [(m0, .inr (11, y0)), (y4, .inl (kA 0, 2, .inl (fun _ => 0))), (y6, .inl (kA 0, 2, .inl (fun _ => 0))), (y7, .inl (kA 0, 2, .inl (fun _ => 0))), (y8, .inl (kA 0, 2, .inl (fun _ => 0))), (y9, .inl (kA 0, 2, .inl (fun _ => 0)))]) [0, 1, 2, 3, 4, 5] rfl
    have hDc := hD.sub (ws' := [(m0, .inr (11, y0)), (y4, .inl (kA 0, 2, .inl (fun _ => 0))), (y6, .inl (kA 0, 2, .inl (fun _ => 0))), (y7, .inl (kA 0, 2, .inl (fun _ => 0))), (y8, .inl (kA 0, 2, .inl (fun _ => 0))), (y9, .inl (kA 0, 2, .inl (fun _ => 0)))]) [0, 1, 2, 3, 4, 5] (by decide) rfl
    have hFc := va_free (wc := [(m0, .inr (11, y0)), (y4, .inl (kA 0, 2, .inl (fun _ => 0))), (y6, .inl (kA 0, 2, .inl (fun _ => 0))), (y7, .inl (kA 0, 2, .inl (fun _ => 0))), (y8, .inl (kA 0, 2, .inl (fun _ => 0))), (y9, .inl (kA 0, 2, .inl (fun _ => 0)))]) hD hS hA [0, 1, 2, 3, 4, 5] rfl
    refine va_calli (va_runV (As := [.int (xs 1)]) (rest := []) ⟨hx, hb, hml, hown, hts⟩ (a147_X12_count l  D kA V H.size m0 (xs 1) y4 y6 y7 y8 y9 y0 (fun k hk => (hq k hk)) hq1 hq19 hq36 hq37 hq42 hq48 hq55 hq98 hq103 hq104 hq105) (cwV 1 hts (gw_V gw_2740 gw_2741 gw_2742 gw_16 gw_2743) rfl rfl rfl (by decide +kernel) ⟨(Nat.le_of_ble_eq_true rfl), (Nat.le_of_ble_eq_true rfl)⟩) ⟨aP.blind, va_recv hK hP (ci := 11) (q0 := 0) rfl rfl, aP.pre hE hS hPc hK hDc hFc⟩ rfl rfl hl.1 rfl (lv_room (Nat.le_of_ble_eq_true rfl)) dL_law_1313 ⟨(Nat.le_of_ble_eq_true rfl), (Nat.le_of_ble_eq_true rfl)⟩) hS (fun q _ h => hFc q h) hFc (fun r_1421 u t H1 locs ht hvm hw hB hz1 hk1 hS => ?_)
    obtain ⟨u_1422, rfl⟩ : ∃ z, z = u := ⟨u, rfl⟩
    obtain ⟨hP1, hD1⟩ := hB
    rw [ht] at hP1
    try dsimp only at hw hP1 hD1
    rcases hw with ⟨c_1423, c_1424, c_1425, c_1426, c_1427, c_1428, c_1429, c_1430, c_1431, c_1432, c_1433, c_1434, w_1435, w_1436⟩ | ⟨c_1437, c_1438, c_1439, c_1440, c_1441, c_1442, c_1443, c_1444, c_1445, c_1446, c_1447, c_1448, c_1449, w_1450, w_1451⟩ | ⟨c_1452, c_1453, c_1454, w_1455, w_1456⟩ | ⟨c_1457, c_1458, c_1459, c_1460, w_1461, w_1462⟩ | ⟨c_1463, c_1464, c_1465, c_1466, c_1467, w_1468, w_1469⟩ | ⟨c_1470, c_1471, c_1472, c_1473, c_1474, c_1475, w_1476, w_1477⟩ | ⟨c_1478, c_1479, c_1480, c_1481, c_1482, c_1483, c_1484, w_1485, w_1486⟩ | ⟨c_1487, c_1488, c_1489, c_1490, c_1491, c_1492, c_1493, c_1494, w_1495, w_1496⟩ | ⟨c_1497, c_1498, c_1499, c_1500, c_1501, c_1502, c_1503, c_1504, c_1505, w_1506, w_1507⟩ | ⟨c_1508, c_1509, c_1510, c_1511, c_1512, c_1513, c_1514, c_1515, c_1516, c_1517, w_1518, w_1519⟩ | ⟨c_1520, c_1521, c_1522, c_1523, c_1524, c_1525, c_1526, c_1527, c_1528, c_1529, c_1530, w_1531, w_1532⟩ | ⟨c_1533, c_1534, c_1535, c_1536, c_1537, c_1538, c_1539, c_1540, c_1541, c_1542, c_1543, c_1544, w_1545, w_1546⟩ | ⟨c_1547, c_1548, c_1549, c_1550, c_1551, c_1552, c_1553, c_1554, c_1555, c_1556, c_1557, c_1558, c_1559, w_1560, w_1561⟩
    · skip
      subst w_1435
      subst w_1436
      exact False.elim (by have a1 := (ixA (n := 0) c_1423 (by decide)); have a2 := (iyE (n := 8) c_76 (by decide)); omega)
    · skip
      subst w_1450
      subst w_1451
      exact False.elim (by have a1 := (iyS (n := 10) c_1438 (by decide)); have a2 := (iyE (n := 8) c_76 (by decide)); omega)
    · skip
      subst w_1455
      subst w_1456
      exact absurd c_1454 c_68
    · skip
      subst w_1461
      subst w_1462
      exact absurd c_1460 c_69
    · skip
      subst w_1468
      subst w_1469
      exact absurd c_1467 c_70
    · skip
      subst w_1476
      subst w_1477
      exact absurd c_1475 c_71
    · skip
      subst w_1485
      subst w_1486
      exact absurd c_1484 c_72
    · skip
      subst w_1495
      subst w_1496
      exact absurd c_1494 c_73
    · skip
      subst w_1506
      subst w_1507
      exact absurd c_1505 c_74
    · skip
      subst w_1518
      subst w_1519
      exact absurd c_1517 c_75
    · skip
      subst w_1531
      subst w_1532
      obtain ⟨hP, hD⟩ := va_join (wr := [(o0, .inl (kA 1, 1, .inr (.inl (vp_updL (fun _ => 0) 0 ((0 : Int32).toInt64)))))]) (w1 := [(m0, .inr (11, y0.set 9 (.int 0))), (y4, .inl (kA 0, 2, .inl (fun _ => 0))), (y6, .inl (kA 0, 2, .inl (fun _ => 0))), (y7, .inl (kA 0, 2, .inl (fun _ => 0))), (y8, .inl (kA 0, 2, .inl (fun _ => 0))), (y9, .inl (kA 0, 2, .inl (fun _ => 0)))]) hP hD [0, 1, 2, 3, 4, 5] [6] rfl rfl (by decide) (by decide) hk1 hFc hP1 hD1
      generalize H1 = H at hP hS ⊢
      have hP : va_P D vwCl [(o0, .inl (kA 1, 1, .inr (.inl (vp_updL (fun _ => 0) 0 ((0 : Int32).toInt64))))), (m0, .inr (11, y0.set 9 (.int 0))), (y4, .inl (kA 0, 2, .inl (fun _ => 0))), (y6, .inl (kA 0, 2, .inl (fun _ => 0))), (y7, .inl (kA 0, 2, .inl (fun _ => 0))), (y8, .inl (kA 0, 2, .inl (fun _ => 0))), (y9, .inl (kA 0, 2, .inl (fun _ => 0)))] H := hP
      have hD : va_D A [(o0, .inl (kA 1, 1, .inr (.inl (vp_updL (fun _ => 0) 0 ((0 : Int32).toInt64))))), (m0, .inr (11, y0.set 9 (.int 0))), (y4, .inl (kA 0, 2, .inl (fun _ => 0))), (y6, .inl (kA 0, 2, .inl (fun _ => 0))), (y7, .inl (kA 0, 2, .inl (fun _ => 0))), (y8, .inl (kA 0, 2, .inl (fun _ => 0))), (y9, .inl (kA 0, 2, .inl (fun _ => 0)))] := hD
      refine lv_istore (lv' := [(6, .int 0), (5, .int 0), (0, .ref b), (1, .ref h0), (2, .ref m0), (3, .ref o0), (4, .int 0)]) hx hb dL_law_1316 hl (by decide) rfl (fun ls hl => ?_)
      refine lv_aload_n hx hb dL_law_1318 rfl (lv_at hl 4 rfl) ?_
      have hPc := hP.sub (ws' := [(m0, .inr (11, y0.set 9 (.int 0)))]) [1] rfl
      have hDc := hD.sub (ws' := [(m0, .inr (11, y0.set 9 (.int 0)))]) [1] (by decide) rfl
      have hFc := va_free (wc := [(m0, .inr (11, y0.set 9 (.int 0)))]) hD hS hA [1] rfl
      refine va_calli (va_runV (As := []) (rest := []) ⟨hx, hb, hml, hown, hts⟩ (a94_X12_thrown l  D kA V H.size m0 (y0.set 9 (.int 0)) (fun k hk => (by rw [List.length_set]; exact (hq k hk))) (List.getElem?_set_self (hq 9 (by decide)))) (cwV 0 hts (gw_V gw_1879 gw_1880 gw_1881 gw_16 gw_1882) rfl rfl rfl (by decide +kernel) ⟨(Nat.le_of_ble_eq_true rfl), (Nat.le_of_ble_eq_true rfl)⟩) ⟨aP.blind, va_recv hK hP (ci := 11) (q0 := 1) rfl rfl, aP.pre hE hS hPc hK hDc hFc⟩ rfl rfl hl.1 rfl (lv_room (Nat.le_of_ble_eq_true rfl)) dL_law_1319 ⟨(Nat.le_of_ble_eq_true rfl), (Nat.le_of_ble_eq_true rfl)⟩) hS (fun q _ h => hFc q h) hFc (fun r_1562 u t H1 locs ht hvm hw hB hz1 hk1 hS => ?_)
      obtain ⟨hP1, hD1⟩ := hB
      rw [ht] at hP1
      try dsimp only at hw hP1 hD1
      have w_1563 := hw
      subst w_1563
      obtain ⟨hP, hD⟩ := va_join (wr := [(o0, .inl (kA 1, 1, .inr (.inl (vp_updL (fun _ => 0) 0 ((0 : Int32).toInt64))))), (y4, .inl (kA 0, 2, .inl (fun _ => 0))), (y6, .inl (kA 0, 2, .inl (fun _ => 0))), (y7, .inl (kA 0, 2, .inl (fun _ => 0))), (y8, .inl (kA 0, 2, .inl (fun _ => 0))), (y9, .inl (kA 0, 2, .inl (fun _ => 0)))]) (w1 := [(m0, .inr (11, (y0.set 9 (.int 0))))]) hP hD [1] [0, 2, 3, 4, 5, 6] rfl rfl (by decide) (by decide) hk1 hFc hP1 hD1
      generalize H1 = H at hP hS ⊢
      have hP : va_P D vwCl [(o0, .inl (kA 1, 1, .inr (.inl (vp_updL (fun _ => 0) 0 ((0 : Int32).toInt64))))), (y4, .inl (kA 0, 2, .inl (fun _ => 0))), (y6, .inl (kA 0, 2, .inl (fun _ => 0))), (y7, .inl (kA 0, 2, .inl (fun _ => 0))), (y8, .inl (kA 0, 2, .inl (fun _ => 0))), (y9, .inl (kA 0, 2, .inl (fun _ => 0))), (m0, .inr (11, (y0.set 9 (.int 0))))] H := hP
      have hD : va_D A [(o0, .inl (kA 1, 1, .inr (.inl (vp_updL (fun _ => 0) 0 ((0 : Int32).toInt64))))), (y4, .inl (kA 0, 2, .inl (fun _ => 0))), (y6, .inl (kA 0, 2, .inl (fun _ => 0))), (y7, .inl (kA 0, 2, .inl (fun _ => 0))), (y8, .inl (kA 0, 2, .inl (fun _ => 0))), (y9, .inl (kA 0, 2, .inl (fun _ => 0))), (m0, .inr (11, (y0.set 9 (.int 0))))] := hD
      refine lv_iload hx hb dL_law_1322 (lv_at hl 1 rfl) ?_
      refine lv_icmp_eq (tgt := 1329) hx hb dL_law_1324 (by decide) (fun c_1564 => ?_) (fun c_1564 => ?_)
      · skip
        refine lv_iload hx hb dL_law_1329 (lv_at hl 1 rfl) ?_
        refine lv_if_ne (tgt := 1346) hx hb dL_law_1331 (by decide) (fun c_1565 => ?_) (fun c_1565 => ?_)
        · exact absurd (by decide) c_1565
        · skip
          refine lv_aload_n hx hb dL_law_1334 rfl (lv_at hl 5 rfl) ?_
          refine lv_iconst (v := 0) hx hb dL_law_1335 (by decide) ?_
          refine va_lald hx hb hK hP 0 1 rfl rfl (show vp_in 0 1 by unfold vp_in; decide) dL_law_1336 ?_
          refine W.eq (g2 := F0 m 1337 ls [.long ((0 : Int32).toInt64)]) rfl ?_
          refine lv_iload hx hb dL_law_1337 (lv_at hl 0 rfl) ?_
          refine lv_i2l (v := (0 : Int32).toInt64) hx hb dL_law_1339 rfl ?_
          refine W.lcmp hx hb dL_law_1340 ?_
          refine lv_if_eq (tgt := 1346) hx hb dL_law_1341 (by decide) (fun c_1566 => ?_) (fun c_1566 => ?_)
          · skip
            refine lv_goto (tgt := 1804) hx hb dL_law_1346 (by decide) ?_
            exact lk_tail hC hA2 (lv_sub hl [2, 6] rfl) hS (Nat.le_of_ble_eq_true rfl) (Nat.le_of_ble_eq_true rfl)
          · exact absurd ((lg_cmp_eq _ _).mpr rfl) c_1566
      · exact absurd (by decide) c_1564
    · skip
      subst w_1545
      subst w_1546
      exact absurd c_76 c_1543
    · skip
      subst w_1560
      subst w_1561
      exact absurd c_76 c_1557
  · skip
    subst w_89
    subst w_90
    obtain ⟨hP, hD⟩ := va_join (wr := [(m0, .inr (11, y0)), (y4, .inl (kA 0, 2, .inl (fun _ => 0))), (y6, .inl (kA 0, 2, .inl (fun _ => 0))), (y7, .inl (kA 0, 2, .inl (fun _ => 0))), (y8, .inl (kA 0, 2, .inl (fun _ => 0))), (y9, .inl (kA 0, 2, .inl (fun _ => 0)))]) (w1 := [(o0, .inl (kA 1, 1, .inr (.inl (vp_updL (fun _ => 0) 0 ((0 : Int32).toInt64)))))]) hP hD [0, 1, 2, 3, 10] [4, 5, 6, 7, 8, 9] rfl rfl (by decide) (by decide) hk1 hFc hP1 hD1
    generalize H1 = H at hP hS ⊢
    have hP : va_P D vwCl [(m0, .inr (11, y0)), (y4, .inl (kA 0, 2, .inl (fun _ => 0))), (y6, .inl (kA 0, 2, .inl (fun _ => 0))), (y7, .inl (kA 0, 2, .inl (fun _ => 0))), (y8, .inl (kA 0, 2, .inl (fun _ => 0))), (y9, .inl (kA 0, 2, .inl (fun _ => 0))), (o0, .inl (kA 1, 1, .inr (.inl (vp_updL (fun _ => 0) 0 ((0 : Int32).toInt64)))))] H := hP
    have hD : va_D A [(m0, .inr (11, y0)), (y4, .inl (kA 0, 2, .inl (fun _ => 0))), (y6, .inl (kA 0, 2, .inl (fun _ => 0))), (y7, .inl (kA 0, 2, .inl (fun _ => 0))), (y8, .inl (kA 0, 2, .inl (fun _ => 0))), (y9, .inl (kA 0, 2, .inl (fun _ => 0))), (o0, .inl (kA 1, 1, .inr (.inl (vp_updL (fun _ => 0) 0 ((0 : Int32).toInt64)))))] := hD
    refine lv_istore (lv' := [(5, .int 0), (0, .ref b), (1, .ref h0), (2, .ref m0), (3, .ref o0), (4, .int 0)]) hx hb dL_law_1304 hl (by decide) rfl (fun ls hl => ?_)
    refine lv_aload_n hx hb dL_law_1306 rfl (lv_at hl 3 rfl) ?_
    refine lv_aload_n hx hb dL_law_1307 rfl (lv_at hl 1 rfl) ?_
    refine lv_iload hx hb dL_law_1308 (lv_at hl 5 rfl) ?_
    refine lv_iconst (v := 1) hx hb dL_law_1310 (by decide) ?_
    refine lv_iadd hx hb dL_law_1311 ?_
    refine W.eq (g2 := F0 m 1312 ls [.int 1, .ref b, .ref m0]) rfl ?_
    refine va_sld hx hb hX hbl hbA hS (show vp_in 1 8 by unfold vp_in; decide) dL_law_1312 ?_
    refine W.eq (g2 := F0 m 1313 ls [.int (xs 1), .ref m0]) rfl ?_
    have hPc := hP.sub (ws' := [(m0, .inr (11, y0)), (y4, .inl (kA 0, 2, .inl (fun _ => 0))), (y6, .inl (kA 0, 2, .inl (fun _ => 0))), (y7, .inl (kA 0, 2, .inl (fun _ => 0))), (y8, .inl (kA 0, 2, .inl (fun _ => 0))), (y9, .inl (kA 0, 2, .inl (fun _ => 0)))]) [0, 1, 2, 3, 4, 5] rfl
    have hDc := hD.sub (ws' := [(m0, .inr (11, y0)), (y4, .inl (kA 0, 2, .inl (fun _ => 0))), (y6, .inl (kA 0, 2, .inl (fun _ => 0))), (y7, .inl (kA 0, 2, .inl (fun _ => 0))), (y8, .inl (kA 0, 2, .inl (fun _ => 0))), (y9, .inl (kA 0, 2, .inl (fun _ => 0)))]) [0, 1, 2, 3, 4, 5] (by decide) rfl
    have hFc := va_free (wc := [(m0, .inr (11, y0)), (y4, .inl (kA 0, 2, .inl (fun _ => 0))), (y6, .inl (kA 0, 2, .inl (fun _ => 0))), (y7, .inl (kA 0, 2, .inl (fun _ => 0))), (y8, .inl (kA 0, 2, .inl (fun _ => 0))), (y9, .inl (kA 0, 2, .inl (fun _ => 0)))]) hD hS hA [0, 1, 2, 3, 4, 5] rfl
    refine va_calli (va_runV (As := [.int (xs 1)]) (rest := []) ⟨hx, hb, hml, hown, hts⟩ (a147_X12_count l  D kA V H.size m0 (xs 1) y4 y6 y7 y8 y9 y0 (fun k hk => (hq k hk)) hq1 hq19 hq36 hq37 hq42 hq48 hq55 hq98 hq103 hq104 hq105) (cwV 1 hts (gw_V gw_2740 gw_2741 gw_2742 gw_16 gw_2743) rfl rfl rfl (by decide +kernel) ⟨(Nat.le_of_ble_eq_true rfl), (Nat.le_of_ble_eq_true rfl)⟩) ⟨aP.blind, va_recv hK hP (ci := 11) (q0 := 0) rfl rfl, aP.pre hE hS hPc hK hDc hFc⟩ rfl rfl hl.1 rfl (lv_room (Nat.le_of_ble_eq_true rfl)) dL_law_1313 ⟨(Nat.le_of_ble_eq_true rfl), (Nat.le_of_ble_eq_true rfl)⟩) hS (fun q _ h => hFc q h) hFc (fun r_1567 u t H1 locs ht hvm hw hB hz1 hk1 hS => ?_)
    obtain ⟨u_1568, rfl⟩ : ∃ z, z = u := ⟨u, rfl⟩
    obtain ⟨hP1, hD1⟩ := hB
    rw [ht] at hP1
    try dsimp only at hw hP1 hD1
    rcases hw with ⟨c_1569, c_1570, c_1571, c_1572, c_1573, c_1574, c_1575, c_1576, c_1577, c_1578, c_1579, c_1580, w_1581, w_1582⟩ | ⟨c_1583, c_1584, c_1585, c_1586, c_1587, c_1588, c_1589, c_1590, c_1591, c_1592, c_1593, c_1594, c_1595, w_1596, w_1597⟩ | ⟨c_1598, c_1599, c_1600, w_1601, w_1602⟩ | ⟨c_1603, c_1604, c_1605, c_1606, w_1607, w_1608⟩ | ⟨c_1609, c_1610, c_1611, c_1612, c_1613, w_1614, w_1615⟩ | ⟨c_1616, c_1617, c_1618, c_1619, c_1620, c_1621, w_1622, w_1623⟩ | ⟨c_1624, c_1625, c_1626, c_1627, c_1628, c_1629, c_1630, w_1631, w_1632⟩ | ⟨c_1633, c_1634, c_1635, c_1636, c_1637, c_1638, c_1639, c_1640, w_1641, w_1642⟩ | ⟨c_1643, c_1644, c_1645, c_1646, c_1647, c_1648, c_1649, c_1650, c_1651, w_1652, w_1653⟩ | ⟨c_1654, c_1655, c_1656, c_1657, c_1658, c_1659, c_1660, c_1661, c_1662, c_1663, w_1664, w_1665⟩ | ⟨c_1666, c_1667, c_1668, c_1669, c_1670, c_1671, c_1672, c_1673, c_1674, c_1675, c_1676, w_1677, w_1678⟩ | ⟨c_1679, c_1680, c_1681, c_1682, c_1683, c_1684, c_1685, c_1686, c_1687, c_1688, c_1689, c_1690, w_1691, w_1692⟩ | ⟨c_1693, c_1694, c_1695, c_1696, c_1697, c_1698, c_1699, c_1700, c_1701, c_1702, c_1703, c_1704, c_1705, w_1706, w_1707⟩
    · skip
      subst w_1581
      subst w_1582
      exact False.elim (by have a1 := (ixA (n := 0) c_1569 (by decide)); have a2 := (iyE (n := 9) c_88 (by decide)); omega)
    · skip
      subst w_1596
      subst w_1597
      exact False.elim (by have a1 := (iyS (n := 10) c_1584 (by decide)); have a2 := (iyE (n := 9) c_88 (by decide)); omega)
    · skip
      subst w_1601
      subst w_1602
      exact absurd c_1600 c_79
    · skip
      subst w_1607
      subst w_1608
      exact absurd c_1606 c_80
    · skip
      subst w_1614
      subst w_1615
      exact absurd c_1613 c_81
    · skip
      subst w_1622
      subst w_1623
      exact absurd c_1621 c_82
    · skip
      subst w_1631
      subst w_1632
      exact absurd c_1630 c_83
    · skip
      subst w_1641
      subst w_1642
      exact absurd c_1640 c_84
    · skip
      subst w_1652
      subst w_1653
      exact absurd c_1651 c_85
    · skip
      subst w_1664
      subst w_1665
      exact absurd c_1663 c_86
    · skip
      subst w_1677
      subst w_1678
      exact absurd c_1676 c_87
    · skip
      subst w_1691
      subst w_1692
      obtain ⟨hP, hD⟩ := va_join (wr := [(o0, .inl (kA 1, 1, .inr (.inl (vp_updL (fun _ => 0) 0 ((0 : Int32).toInt64)))))]) (w1 := [(m0, .inr (11, y0.set 9 (.int 0))), (y4, .inl (kA 0, 2, .inl (fun _ => 0))), (y6, .inl (kA 0, 2, .inl (fun _ => 0))), (y7, .inl (kA 0, 2, .inl (fun _ => 0))), (y8, .inl (kA 0, 2, .inl (fun _ => 0))), (y9, .inl (kA 0, 2, .inl (fun _ => 0)))]) hP hD [0, 1, 2, 3, 4, 5] [6] rfl rfl (by decide) (by decide) hk1 hFc hP1 hD1
      generalize H1 = H at hP hS ⊢
      have hP : va_P D vwCl [(o0, .inl (kA 1, 1, .inr (.inl (vp_updL (fun _ => 0) 0 ((0 : Int32).toInt64))))), (m0, .inr (11, y0.set 9 (.int 0))), (y4, .inl (kA 0, 2, .inl (fun _ => 0))), (y6, .inl (kA 0, 2, .inl (fun _ => 0))), (y7, .inl (kA 0, 2, .inl (fun _ => 0))), (y8, .inl (kA 0, 2, .inl (fun _ => 0))), (y9, .inl (kA 0, 2, .inl (fun _ => 0)))] H := hP
      have hD : va_D A [(o0, .inl (kA 1, 1, .inr (.inl (vp_updL (fun _ => 0) 0 ((0 : Int32).toInt64))))), (m0, .inr (11, y0.set 9 (.int 0))), (y4, .inl (kA 0, 2, .inl (fun _ => 0))), (y6, .inl (kA 0, 2, .inl (fun _ => 0))), (y7, .inl (kA 0, 2, .inl (fun _ => 0))), (y8, .inl (kA 0, 2, .inl (fun _ => 0))), (y9, .inl (kA 0, 2, .inl (fun _ => 0)))] := hD
      refine lv_istore (lv' := [(6, .int 0), (5, .int 0), (0, .ref b), (1, .ref h0), (2, .ref m0), (3, .ref o0), (4, .int 0)]) hx hb dL_law_1316 hl (by decide) rfl (fun ls hl => ?_)
      refine lv_aload_n hx hb dL_law_1318 rfl (lv_at hl 4 rfl) ?_
      have hPc := hP.sub (ws' := [(m0, .inr (11, y0.set 9 (.int 0)))]) [1] rfl
      have hDc := hD.sub (ws' := [(m0, .inr (11, y0.set 9 (.int 0)))]) [1] (by decide) rfl
      have hFc := va_free (wc := [(m0, .inr (11, y0.set 9 (.int 0)))]) hD hS hA [1] rfl
      refine va_calli (va_runV (As := []) (rest := []) ⟨hx, hb, hml, hown, hts⟩ (a94_X12_thrown l  D kA V H.size m0 (y0.set 9 (.int 0)) (fun k hk => (by rw [List.length_set]; exact (hq k hk))) (List.getElem?_set_self (hq 9 (by decide)))) (cwV 0 hts (gw_V gw_1879 gw_1880 gw_1881 gw_16 gw_1882) rfl rfl rfl (by decide +kernel) ⟨(Nat.le_of_ble_eq_true rfl), (Nat.le_of_ble_eq_true rfl)⟩) ⟨aP.blind, va_recv hK hP (ci := 11) (q0 := 1) rfl rfl, aP.pre hE hS hPc hK hDc hFc⟩ rfl rfl hl.1 rfl (lv_room (Nat.le_of_ble_eq_true rfl)) dL_law_1319 ⟨(Nat.le_of_ble_eq_true rfl), (Nat.le_of_ble_eq_true rfl)⟩) hS (fun q _ h => hFc q h) hFc (fun r_1708 u t H1 locs ht hvm hw hB hz1 hk1 hS => ?_)
      obtain ⟨hP1, hD1⟩ := hB
      rw [ht] at hP1
      try dsimp only at hw hP1 hD1
      have w_1709 := hw
      subst w_1709
      obtain ⟨hP, hD⟩ := va_join (wr := [(o0, .inl (kA 1, 1, .inr (.inl (vp_updL (fun _ => 0) 0 ((0 : Int32).toInt64))))), (y4, .inl (kA 0, 2, .inl (fun _ => 0))), (y6, .inl (kA 0, 2, .inl (fun _ => 0))), (y7, .inl (kA 0, 2, .inl (fun _ => 0))), (y8, .inl (kA 0, 2, .inl (fun _ => 0))), (y9, .inl (kA 0, 2, .inl (fun _ => 0)))]) (w1 := [(m0, .inr (11, (y0.set 9 (.int 0))))]) hP hD [1] [0, 2, 3, 4, 5, 6] rfl rfl (by decide) (by decide) hk1 hFc hP1 hD1
      generalize H1 = H at hP hS ⊢
      have hP : va_P D vwCl [(o0, .inl (kA 1, 1, .inr (.inl (vp_updL (fun _ => 0) 0 ((0 : Int32).toInt64))))), (y4, .inl (kA 0, 2, .inl (fun _ => 0))), (y6, .inl (kA 0, 2, .inl (fun _ => 0))), (y7, .inl (kA 0, 2, .inl (fun _ => 0))), (y8, .inl (kA 0, 2, .inl (fun _ => 0))), (y9, .inl (kA 0, 2, .inl (fun _ => 0))), (m0, .inr (11, (y0.set 9 (.int 0))))] H := hP
      have hD : va_D A [(o0, .inl (kA 1, 1, .inr (.inl (vp_updL (fun _ => 0) 0 ((0 : Int32).toInt64))))), (y4, .inl (kA 0, 2, .inl (fun _ => 0))), (y6, .inl (kA 0, 2, .inl (fun _ => 0))), (y7, .inl (kA 0, 2, .inl (fun _ => 0))), (y8, .inl (kA 0, 2, .inl (fun _ => 0))), (y9, .inl (kA 0, 2, .inl (fun _ => 0))), (m0, .inr (11, (y0.set 9 (.int 0))))] := hD
      refine lv_iload hx hb dL_law_1322 (lv_at hl 1 rfl) ?_
      refine lv_icmp_eq (tgt := 1329) hx hb dL_law_1324 (by decide) (fun c_1710 => ?_) (fun c_1710 => ?_)
      · skip
        refine lv_iload hx hb dL_law_1329 (lv_at hl 1 rfl) ?_
        refine lv_if_ne (tgt := 1346) hx hb dL_law_1331 (by decide) (fun c_1711 => ?_) (fun c_1711 => ?_)
        · exact absurd (by decide) c_1711
        · skip
          refine lv_aload_n hx hb dL_law_1334 rfl (lv_at hl 5 rfl) ?_
          refine lv_iconst (v := 0) hx hb dL_law_1335 (by decide) ?_
          refine va_lald hx hb hK hP 0 1 rfl rfl (show vp_in 0 1 by unfold vp_in; decide) dL_law_1336 ?_
          refine W.eq (g2 := F0 m 1337 ls [.long ((0 : Int32).toInt64)]) rfl ?_
          refine lv_iload hx hb dL_law_1337 (lv_at hl 0 rfl) ?_
          refine lv_i2l (v := (0 : Int32).toInt64) hx hb dL_law_1339 rfl ?_
          refine W.lcmp hx hb dL_law_1340 ?_
          refine lv_if_eq (tgt := 1346) hx hb dL_law_1341 (by decide) (fun c_1712 => ?_) (fun c_1712 => ?_)
          · skip
            refine lv_goto (tgt := 1804) hx hb dL_law_1346 (by decide) ?_
            exact lk_tail hC hA2 (lv_sub hl [2, 6] rfl) hS (Nat.le_of_ble_eq_true rfl) (Nat.le_of_ble_eq_true rfl)
          · exact absurd ((lg_cmp_eq _ _).mpr rfl) c_1712
      · exact absurd (by decide) c_1710
    · skip
      subst w_1706
      subst w_1707
      exact absurd c_88 c_1704
  · skip
    subst w_102
    subst w_103
    obtain ⟨hP, hD⟩ := va_join (wr := [(m0, .inr (11, y0)), (y4, .inl (kA 0, 2, .inl (fun _ => 0))), (y6, .inl (kA 0, 2, .inl (fun _ => 0))), (y7, .inl (kA 0, 2, .inl (fun _ => 0))), (y8, .inl (kA 0, 2, .inl (fun _ => 0))), (y9, .inl (kA 0, 2, .inl (fun _ => 0)))]) (w1 := [(o0, .inl (kA 1, 1, .inr (.inl (vp_updL (fun _ => 0) 0 ((3000 : Int32).toInt64)))))]) hP hD [0, 1, 2, 3, 10] [4, 5, 6, 7, 8, 9] rfl rfl (by decide) (by decide) hk1 hFc hP1 hD1
    generalize H1 = H at hP hS ⊢
    have hP : va_P D vwCl [(m0, .inr (11, y0)), (y4, .inl (kA 0, 2, .inl (fun _ => 0))), (y6, .inl (kA 0, 2, .inl (fun _ => 0))), (y7, .inl (kA 0, 2, .inl (fun _ => 0))), (y8, .inl (kA 0, 2, .inl (fun _ => 0))), (y9, .inl (kA 0, 2, .inl (fun _ => 0))), (o0, .inl (kA 1, 1, .inr (.inl (vp_updL (fun _ => 0) 0 ((3000 : Int32).toInt64)))))] H := hP
    have hD : va_D A [(m0, .inr (11, y0)), (y4, .inl (kA 0, 2, .inl (fun _ => 0))), (y6, .inl (kA 0, 2, .inl (fun _ => 0))), (y7, .inl (kA 0, 2, .inl (fun _ => 0))), (y8, .inl (kA 0, 2, .inl (fun _ => 0))), (y9, .inl (kA 0, 2, .inl (fun _ => 0))), (o0, .inl (kA 1, 1, .inr (.inl (vp_updL (fun _ => 0) 0 ((3000 : Int32).toInt64)))))] := hD
    refine lv_istore (lv' := [(5, .int 0), (0, .ref b), (1, .ref h0), (2, .ref m0), (3, .ref o0), (4, .int 0)]) hx hb dL_law_1304 hl (by decide) rfl (fun ls hl => ?_)
    refine lv_aload_n hx hb dL_law_1306 rfl (lv_at hl 3 rfl) ?_
    refine lv_aload_n hx hb dL_law_1307 rfl (lv_at hl 1 rfl) ?_
    refine lv_iload hx hb dL_law_1308 (lv_at hl 5 rfl) ?_
    refine lv_iconst (v := 1) hx hb dL_law_1310 (by decide) ?_
    refine lv_iadd hx hb dL_law_1311 ?_
    refine W.eq (g2 := F0 m 1312 ls [.int 1, .ref b, .ref m0]) rfl ?_
    refine va_sld hx hb hX hbl hbA hS (show vp_in 1 8 by unfold vp_in; decide) dL_law_1312 ?_
    refine W.eq (g2 := F0 m 1313 ls [.int (xs 1), .ref m0]) rfl ?_
    have hPc := hP.sub (ws' := [(m0, .inr (11, y0)), (y4, .inl (kA 0, 2, .inl (fun _ => 0))), (y6, .inl (kA 0, 2, .inl (fun _ => 0))), (y7, .inl (kA 0, 2, .inl (fun _ => 0))), (y8, .inl (kA 0, 2, .inl (fun _ => 0))), (y9, .inl (kA 0, 2, .inl (fun _ => 0)))]) [0, 1, 2, 3, 4, 5] rfl
    have hDc := hD.sub (ws' := [(m0, .inr (11, y0)), (y4, .inl (kA 0, 2, .inl (fun _ => 0))), (y6, .inl (kA 0, 2, .inl (fun _ => 0))), (y7, .inl (kA 0, 2, .inl (fun _ => 0))), (y8, .inl (kA 0, 2, .inl (fun _ => 0))), (y9, .inl (kA 0, 2, .inl (fun _ => 0)))]) [0, 1, 2, 3, 4, 5] (by decide) rfl
    have hFc := va_free (wc := [(m0, .inr (11, y0)), (y4, .inl (kA 0, 2, .inl (fun _ => 0))), (y6, .inl (kA 0, 2, .inl (fun _ => 0))), (y7, .inl (kA 0, 2, .inl (fun _ => 0))), (y8, .inl (kA 0, 2, .inl (fun _ => 0))), (y9, .inl (kA 0, 2, .inl (fun _ => 0)))]) hD hS hA [0, 1, 2, 3, 4, 5] rfl
    refine va_calli (va_runV (As := [.int (xs 1)]) (rest := []) ⟨hx, hb, hml, hown, hts⟩ (a147_X12_count l  D kA V H.size m0 (xs 1) y4 y6 y7 y8 y9 y0 (fun k hk => (hq k hk)) hq1 hq19 hq36 hq37 hq42 hq48 hq55 hq98 hq103 hq104 hq105) (cwV 1 hts (gw_V gw_2740 gw_2741 gw_2742 gw_16 gw_2743) rfl rfl rfl (by decide +kernel) ⟨(Nat.le_of_ble_eq_true rfl), (Nat.le_of_ble_eq_true rfl)⟩) ⟨aP.blind, va_recv hK hP (ci := 11) (q0 := 0) rfl rfl, aP.pre hE hS hPc hK hDc hFc⟩ rfl rfl hl.1 rfl (lv_room (Nat.le_of_ble_eq_true rfl)) dL_law_1313 ⟨(Nat.le_of_ble_eq_true rfl), (Nat.le_of_ble_eq_true rfl)⟩) hS (fun q _ h => hFc q h) hFc (fun r_1713 u t H1 locs ht hvm hw hB hz1 hk1 hS => ?_)
    obtain ⟨u_1714, rfl⟩ : ∃ z, z = u := ⟨u, rfl⟩
    obtain ⟨hP1, hD1⟩ := hB
    rw [ht] at hP1
    try dsimp only at hw hP1 hD1
    rcases hw with ⟨c_1715, c_1716, c_1717, c_1718, c_1719, c_1720, c_1721, c_1722, c_1723, c_1724, c_1725, c_1726, w_1727, w_1728⟩ | ⟨c_1729, c_1730, c_1731, c_1732, c_1733, c_1734, c_1735, c_1736, c_1737, c_1738, c_1739, c_1740, c_1741, w_1742, w_1743⟩ | ⟨c_1744, c_1745, c_1746, w_1747, w_1748⟩ | ⟨c_1749, c_1750, c_1751, c_1752, w_1753, w_1754⟩ | ⟨c_1755, c_1756, c_1757, c_1758, c_1759, w_1760, w_1761⟩ | ⟨c_1762, c_1763, c_1764, c_1765, c_1766, c_1767, w_1768, w_1769⟩ | ⟨c_1770, c_1771, c_1772, c_1773, c_1774, c_1775, c_1776, w_1777, w_1778⟩ | ⟨c_1779, c_1780, c_1781, c_1782, c_1783, c_1784, c_1785, c_1786, w_1787, w_1788⟩ | ⟨c_1789, c_1790, c_1791, c_1792, c_1793, c_1794, c_1795, c_1796, c_1797, w_1798, w_1799⟩ | ⟨c_1800, c_1801, c_1802, c_1803, c_1804, c_1805, c_1806, c_1807, c_1808, c_1809, w_1810, w_1811⟩ | ⟨c_1812, c_1813, c_1814, c_1815, c_1816, c_1817, c_1818, c_1819, c_1820, c_1821, c_1822, w_1823, w_1824⟩ | ⟨c_1825, c_1826, c_1827, c_1828, c_1829, c_1830, c_1831, c_1832, c_1833, c_1834, c_1835, c_1836, w_1837, w_1838⟩ | ⟨c_1839, c_1840, c_1841, c_1842, c_1843, c_1844, c_1845, c_1846, c_1847, c_1848, c_1849, c_1850, c_1851, w_1852, w_1853⟩
    · skip
      subst w_1727
      subst w_1728
      exact False.elim (by have a1 := (ixA (n := 0) c_1715 (by decide)); have a2 := (iyE (n := 10) c_101 (by decide)); omega)
    · skip
      subst w_1742
      subst w_1743
      exact False.elim (by have a1 := (iyS (n := 10) c_1730 (by decide)); have a2 := (iyE (n := 10) c_101 (by decide)); omega)
    · skip
      subst w_1747
      subst w_1748
      exact absurd c_1746 c_91
    · skip
      subst w_1753
      subst w_1754
      exact absurd c_1752 c_92
    · skip
      subst w_1760
      subst w_1761
      exact absurd c_1759 c_93
    · skip
      subst w_1768
      subst w_1769
      exact absurd c_1767 c_94
    · skip
      subst w_1777
      subst w_1778
      exact absurd c_1776 c_95
    · skip
      subst w_1787
      subst w_1788
      exact absurd c_1786 c_96
    · skip
      subst w_1798
      subst w_1799
      exact absurd c_1797 c_97
    · skip
      subst w_1810
      subst w_1811
      exact absurd c_1809 c_98
    · skip
      subst w_1823
      subst w_1824
      exact absurd c_1822 c_99
    · skip
      subst w_1837
      subst w_1838
      exact absurd c_1836 c_100
    · skip
      subst w_1852
      subst w_1853
      obtain ⟨hP, hD⟩ := va_join (wr := [(o0, .inl (kA 1, 1, .inr (.inl (vp_updL (fun _ => 0) 0 ((3000 : Int32).toInt64)))))]) (w1 := [(m0, .inr (11, y0.set 9 (.int 0))), (y4, .inl (kA 0, 2, .inl (fun _ => 0))), (y6, .inl (kA 0, 2, .inl (fun _ => 0))), (y7, .inl (kA 0, 2, .inl (fun _ => 0))), (y8, .inl (kA 0, 2, .inl (fun _ => 0))), (y9, .inl (kA 0, 2, .inl (fun _ => 0)))]) hP hD [0, 1, 2, 3, 4, 5] [6] rfl rfl (by decide) (by decide) hk1 hFc hP1 hD1
      generalize H1 = H at hP hS ⊢
      have hP : va_P D vwCl [(o0, .inl (kA 1, 1, .inr (.inl (vp_updL (fun _ => 0) 0 ((3000 : Int32).toInt64))))), (m0, .inr (11, y0.set 9 (.int 0))), (y4, .inl (kA 0, 2, .inl (fun _ => 0))), (y6, .inl (kA 0, 2, .inl (fun _ => 0))), (y7, .inl (kA 0, 2, .inl (fun _ => 0))), (y8, .inl (kA 0, 2, .inl (fun _ => 0))), (y9, .inl (kA 0, 2, .inl (fun _ => 0)))] H := hP
      have hD : va_D A [(o0, .inl (kA 1, 1, .inr (.inl (vp_updL (fun _ => 0) 0 ((3000 : Int32).toInt64))))), (m0, .inr (11, y0.set 9 (.int 0))), (y4, .inl (kA 0, 2, .inl (fun _ => 0))), (y6, .inl (kA 0, 2, .inl (fun _ => 0))), (y7, .inl (kA 0, 2, .inl (fun _ => 0))), (y8, .inl (kA 0, 2, .inl (fun _ => 0))), (y9, .inl (kA 0, 2, .inl (fun _ => 0)))] := hD
      refine lv_istore (lv' := [(6, .int 3000), (5, .int 0), (0, .ref b), (1, .ref h0), (2, .ref m0), (3, .ref o0), (4, .int 0)]) hx hb dL_law_1316 hl (by decide) rfl (fun ls hl => ?_)
      refine lv_aload_n hx hb dL_law_1318 rfl (lv_at hl 4 rfl) ?_
      have hPc := hP.sub (ws' := [(m0, .inr (11, y0.set 9 (.int 0)))]) [1] rfl
      have hDc := hD.sub (ws' := [(m0, .inr (11, y0.set 9 (.int 0)))]) [1] (by decide) rfl
      have hFc := va_free (wc := [(m0, .inr (11, y0.set 9 (.int 0)))]) hD hS hA [1] rfl
      refine va_calli (va_runV (As := []) (rest := []) ⟨hx, hb, hml, hown, hts⟩ (a94_X12_thrown l  D kA V H.size m0 (y0.set 9 (.int 0)) (fun k hk => (by rw [List.length_set]; exact (hq k hk))) (List.getElem?_set_self (hq 9 (by decide)))) (cwV 0 hts (gw_V gw_1879 gw_1880 gw_1881 gw_16 gw_1882) rfl rfl rfl (by decide +kernel) ⟨(Nat.le_of_ble_eq_true rfl), (Nat.le_of_ble_eq_true rfl)⟩) ⟨aP.blind, va_recv hK hP (ci := 11) (q0 := 1) rfl rfl, aP.pre hE hS hPc hK hDc hFc⟩ rfl rfl hl.1 rfl (lv_room (Nat.le_of_ble_eq_true rfl)) dL_law_1319 ⟨(Nat.le_of_ble_eq_true rfl), (Nat.le_of_ble_eq_true rfl)⟩) hS (fun q _ h => hFc q h) hFc (fun r_1854 u t H1 locs ht hvm hw hB hz1 hk1 hS => ?_)
      obtain ⟨hP1, hD1⟩ := hB
      rw [ht] at hP1
      try dsimp only at hw hP1 hD1
      have w_1855 := hw
      subst w_1855
      obtain ⟨hP, hD⟩ := va_join (wr := [(o0, .inl (kA 1, 1, .inr (.inl (vp_updL (fun _ => 0) 0 ((3000 : Int32).toInt64))))), (y4, .inl (kA 0, 2, .inl (fun _ => 0))), (y6, .inl (kA 0, 2, .inl (fun _ => 0))), (y7, .inl (kA 0, 2, .inl (fun _ => 0))), (y8, .inl (kA 0, 2, .inl (fun _ => 0))), (y9, .inl (kA 0, 2, .inl (fun _ => 0)))]) (w1 := [(m0, .inr (11, (y0.set 9 (.int 0))))]) hP hD [1] [0, 2, 3, 4, 5, 6] rfl rfl (by decide) (by decide) hk1 hFc hP1 hD1
      generalize H1 = H at hP hS ⊢
      have hP : va_P D vwCl [(o0, .inl (kA 1, 1, .inr (.inl (vp_updL (fun _ => 0) 0 ((3000 : Int32).toInt64))))), (y4, .inl (kA 0, 2, .inl (fun _ => 0))), (y6, .inl (kA 0, 2, .inl (fun _ => 0))), (y7, .inl (kA 0, 2, .inl (fun _ => 0))), (y8, .inl (kA 0, 2, .inl (fun _ => 0))), (y9, .inl (kA 0, 2, .inl (fun _ => 0))), (m0, .inr (11, (y0.set 9 (.int 0))))] H := hP
      have hD : va_D A [(o0, .inl (kA 1, 1, .inr (.inl (vp_updL (fun _ => 0) 0 ((3000 : Int32).toInt64))))), (y4, .inl (kA 0, 2, .inl (fun _ => 0))), (y6, .inl (kA 0, 2, .inl (fun _ => 0))), (y7, .inl (kA 0, 2, .inl (fun _ => 0))), (y8, .inl (kA 0, 2, .inl (fun _ => 0))), (y9, .inl (kA 0, 2, .inl (fun _ => 0))), (m0, .inr (11, (y0.set 9 (.int 0))))] := hD
      refine lv_iload hx hb dL_law_1322 (lv_at hl 1 rfl) ?_
      refine lv_icmp_eq (tgt := 1329) hx hb dL_law_1324 (by decide) (fun c_1856 => ?_) (fun c_1856 => ?_)
      · skip
        refine lv_iload hx hb dL_law_1329 (lv_at hl 1 rfl) ?_
        refine lv_if_ne (tgt := 1346) hx hb dL_law_1331 (by decide) (fun c_1857 => ?_) (fun c_1857 => ?_)
        · exact absurd (by decide) c_1857
        · skip
          refine lv_aload_n hx hb dL_law_1334 rfl (lv_at hl 5 rfl) ?_
          refine lv_iconst (v := 0) hx hb dL_law_1335 (by decide) ?_
          refine va_lald hx hb hK hP 0 1 rfl rfl (show vp_in 0 1 by unfold vp_in; decide) dL_law_1336 ?_
          refine W.eq (g2 := F0 m 1337 ls [.long ((3000 : Int32).toInt64)]) rfl ?_
          refine lv_iload hx hb dL_law_1337 (lv_at hl 0 rfl) ?_
          refine lv_i2l (v := (3000 : Int32).toInt64) hx hb dL_law_1339 rfl ?_
          refine W.lcmp hx hb dL_law_1340 ?_
          refine lv_if_eq (tgt := 1346) hx hb dL_law_1341 (by decide) (fun c_1858 => ?_) (fun c_1858 => ?_)
          · skip
            refine lv_goto (tgt := 1804) hx hb dL_law_1346 (by decide) ?_
            exact lk_tail hC hA2 (lv_sub hl [2, 6] rfl) hS (Nat.le_of_ble_eq_true rfl) (Nat.le_of_ble_eq_true rfl)
          · exact absurd ((lg_cmp_eq _ _).mpr rfl) c_1858
      · exact absurd (by decide) c_1856
