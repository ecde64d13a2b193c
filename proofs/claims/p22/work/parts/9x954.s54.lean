/-! The second pass: Items. Variables, both. -/
section Vq
variable {v w w2 : CSt} {u x x2 x3 : RSt} {q s T G n i j o l m N k0 kn : Nat} {e : E5} {c : R5} {kd sz rw how num p : Int32} {fs H : Int64} {t so : Int32}
theorem OWN0_of (hO : OWN0 v u q) (h1 : pI w q 15 = pI v q 15) (h2 : x.1 70 = u.1 70) : OWN0 w x q := ⟨by rw [h1]; exact hO.1, by rw [h2]; exact hO.2⟩
/-- both have put a variable: the tables tell the same again -/
theorem IT_var {nm : Nat} {at_ cell : Int32} {w3 : CSt} {x2' : RSt} (hV : EV1 v u n) (hTR : TR v u q s T G) (hT2 : TR2 v u q s T) (hO : OWN0 v u q) (hT : T < 160) (hk0 : (u.2.2.1 19 s).toInt = (k0 : Int)) (hnr : NmR (cB v 205 nm) (cA v 206 nm) (u.2.2.2 6 nm) (u.2.2.2 7 nm)) (f1 : ∀ y, y < T → gl v (169 * q + y) → ¬ (mL v (169 * q + y) 0 = cB v 205 nm ∧ mI v (169 * q + y) 1 = cA v 206 nm)) (f2 : ∀ j, j < 8 → ¬ (cA v 206 nm = 0 ∧ cB v 205 nm = mL v (169 * q + (160 + j)) 0)) (hN : NGc v w q T 0 0 k0 (cB v 205 nm) (cA v 206 nm)) (hX : TLr u x G 0 (u.2.2.1 19 s) nm) (hD : DCl w w2 (169 * q + T) how kd sz rw fs) (hr : rfr x x2) (hc3 : CE w3 w3 j 0 e) (h16 : e.1 = 0) (hr2 : RE x x2 j o 0 c) (hjn : j ≤ n) (hKD : KD kd) (hB : B01 rw) (hsz1 : 1 ≤ sz.toInt) (hsz2 : sz.toInt ≤ 200)
    (hW : (cI w3 4 = cI w2 4 ∧ cI w3 7 = cI w2 7) ∧ (∀ k, k ∈ [203, 204, 206] → cA w3 k = cA w2 k) ∧ w3.2.2.2.1 = w2.2.2.2.1 ∧ (∀ p k, k ∉ [13, 14] → pI w3 p k = pI w2 p k) ∧ (∀ p k, k ∉ [11, 12, 13, 14] → pA w3 p k = pA w2 p k) ∧ w3.2.2.2.2.2.2.2.1 = w2.2.2.2.2.2.2.2.1 ∧ w3.2.2.2.2.2.2.2.2.2.2 = w2.2.2.2.2.2.2.2.2.2.2 ∧ (∀ p k, ¬ (p = 169 * q + T ∧ k = 9) → mI w3 p k = mI w2 p k) ∧ (∀ p k, mL w3 p k = mL w2 p k))
    (hx2 : FX [] [64] [] x2 x2') (hA : AVr x2' x3 nm kd how sz rw at_ cell fs) (hnum : NUM w3 x3) (h12 : (cI v 12).toInt ≤ (cI w3 12).toInt)
    (hP : (((how = 0 ∨ how = 1) ∧ at_ = -1 ∧ cell = mI w3 (169 * q + T) 9 ∧ 0 ≤ (mI w3 (169 * q + T) 9).toInt ∧ (mI w3 (169 * q + T) 9).toInt + sz.toInt ≤ (cI w3 12).toInt) ∨ ((how = 2 ∨ how = 3) ∧ sz = 1 ∧ rw = 0 ∧ at_ = mI w3 (169 * q + T) 9 ∧ cell = (if how = 2 then 6000 else 5000) + mI w3 (169 * q + T) 9 ∧ 0 ≤ (mI w3 (169 * q + T) 9).toInt ∧ (mI w3 (169 * q + T) 9).toInt ≤ (64 - r_bits kd / 8).toInt))) : IQ (tyF v) q s n j o 0 w3 0 x3 := by
  have e0 : (0 : Int32).toInt = 0 := by decide
  obtain ⟨t1, t2, t3, t4, t5, t5', t6, t7, t8, t9, t10, t11, t12, t13, t14, t15, t16, t17⟩ := id hTR
  obtain ⟨s1, s2, s3, s4, s5, s6, s7⟩ := id hT2
  obtain ⟨c0, c1, c2, c3, c4, c5, c6, c7, c8, c9, c10⟩ := id s2
  obtain ⟨a1, a2, a3, a4, a5, a6, a7, a8, a9, a10, a11, a12, a13, a14, a15, a16, a17⟩ := NEW_all (by omega) hN hD
  obtain ⟨-, f6, f5, f7, f8, f10, -, -⟩ := hD
  obtain ⟨w1, w3', w4, w5, w6, w7, w8, w9, w10⟩ := hW
  have k160 : k0 ≤ 160 := by omega
  -- the reference: all frames in one
  have F1 : FX [61, 62, 63, 65, 66, 67, 68, 74, 78, 80, 81] [10, 11, 12, 13, 14, 15, 19, 49, 50, 51, 54, 59, 60, 64, 75, 76] [16, 17, 18, 52, 53, 57, 58] u x3 := by
    refine FX.tr (FX.mo (TLr_fx hX) ?_ ?_ ?_) (FX.tr (FX.mo (FX_r hr) ?_ ?_ ?_) (FX.tr (FX.mo hx2 ?_ ?_ ?_) (FX.mo (AVr_fx hA) ?_ ?_ ?_))) <;> decide
  have F0 : FX [61, 62, 65, 66, 67, 68, 74, 78, 80, 81] [49, 50, 51, 54, 59, 60, 64, 75, 76] [52, 53, 57, 58] u x2' := by
    refine FX.tr (FX.mo (TLr_fx hX) ?_ ?_ ?_) (FX.tr (FX.mo (FX_r hr) ?_ ?_ ?_) (FX.mo hx2 ?_ ?_ ?_)) <;> decide
  have y56 : x2'.1 56 = u.1 56 := F0.1 56 (by decide)
  have y19 : x2'.2.2.1 19 = u.2.2.1 19 := F0.2.1 19 (by decide)
  obtain ⟨v1, v2, v3, v4, v5, v6, v7, v8, v9, v10, v11, v12⟩ := AVr_at hA (s := s) (k0 := k0) (by rw [y56]; exact t6) t7 (by rw [y19]; exact hk0) k160 hB
  have rv : RVx u x3 s := by
    obtain ⟨z1, z2⟩ := v1
    rw [y19] at z1 z2
    refine ⟨z1, fun k hk => ⟨fun d hd => ?_, fun d hd => ?_⟩⟩
    · rw [(z2 k hk).1 d hd, F0.2.1 d (fun y => by simp only [List.mem_cons, List.not_mem_nil, or_false] at hd y; omega)]
    · rw [(z2 k hk).2 d hd, F0.2.2 d (fun y => by simp only [List.mem_cons, List.not_mem_nil, or_false] at hd y; omega)]
  have tl := hX
  obtain ⟨l1, l2, l3, l4, l5, l6, l7, l8, l9, l10, l11⟩ := tl
  have g3 : ∀ k, k ∈ [59, 60] → x3.2.2.1 k = x.2.2.1 k := by
    intro k hk
    have b1 := (AVr_fx hA).2.1 k (fun y => by simp only [List.mem_cons, List.not_mem_nil, or_false] at hk y; omega)
    have b2 := hx2.2.1 k (fun y => by simp only [List.mem_cons, List.not_mem_nil, or_false] at hk y; omega)
    have b3 := hr.2.1 k (fun y => by simp only [List.mem_cons, List.not_mem_nil, or_false] at hk y; omega)
    exact b1.trans (b2.trans b3)
  have g4 : ∀ k, k ∈ [57, 58] → x3.2.2.2 k = x.2.2.2 k := by
    intro k hk
    have b1 := (AVr_fx hA).2.2 k (fun y => by simp only [List.mem_cons, List.not_mem_nil, or_false] at hk y; omega)
    have b2 := hx2.2.2 k (fun y => by simp only [List.not_mem_nil] at y)
    have b3 := hr.2.2 k (fun y => by simp only [List.mem_cons, List.not_mem_nil, or_false] at hk y; omega)
    exact b1.trans (b2.trans b3)
  have rg : RGx u x3 G := by
    intro y hy
    obtain ⟨b1, b2, b3, b4⟩ := l5 y hy
    rw [g4 57 (by decide), g4 58 (by decide), g3 59 (by decide), g3 60 (by decide)]
    exact ⟨b1, b2, b3, b4⟩
  have g1 : ∀ k, k ∈ [61, 62] → x3.1 k = x.1 k := by
    intro k hk
    have b1 := (AVr_fx hA).1 k (fun y => by simp only [List.mem_cons, List.not_mem_nil, or_false] at hk y; omega)
    have b2 := hx2.1 k (fun y => by simp only [List.not_mem_nil] at y)
    have b3 := hr.1 k (fun y => by simp only [List.mem_cons, List.not_mem_nil, or_false] at hk y; omega)
    exact b1.trans (b2.trans b3)
  -- the class
  have mT : ∀ k, ¬ k = 9 → mI w3 (169 * q + T) k = mI w2 (169 * q + T) k := fun k hk => w9 _ k (fun z => hk z.2)
  have hc : ∀ y, ¬ y = T → CNa v w3 q y := fun y hy => ⟨fun k hk => (w9 _ k (fun z => hy (by omega))).trans ((a1 y hy).1 k hk), fun k => (w10 _ k).trans ((a1 y hy).2 k)⟩
  have pI3 := w5 q 12 (by decide)
  have pA3 : ∀ k, k ∉ [11, 12, 13, 14] → pA w3 q k = pA w2 q k := w6 q
  have cR3 : ∀ k, cR w3 k = cR v k := fun k => by
    show w3.2.2.2.2.2.2.2.2.2.2 k = v.2.2.2.2.2.2.2.2.2.2 k
    rw [w8, a11]
  have px : PAx v w3 q 0 k0 T := by
    obtain ⟨p1, p2, p3, p4, p5⟩ := a9
    exact ⟨p1, by rw [pA3 9 (by decide)]; exact p2, fun p hp hn => by rw [pA3 9 (by decide)]; exact p3 p hp hn, by rw [pA3 (4 + 0) (by decide)]; exact p4, fun p k hp hn => by rw [pA3 (4 + p) (fun z => by simp only [List.mem_cons, List.not_mem_nil, or_false] at z; omega)]; exact p5 p k hp hn⟩
  have n2 : mI w3 (169 * q + T) 2 = 0 := by rw [mT 2 (by decide)]; exact a14
  have n4 : (mI w3 (169 * q + T) 4).toInt = (k0 : Int) := by rw [mT 4 (by decide), a16]; exact px.1
  have nL0 : mL w3 (169 * q + T) 0 = cB v 205 nm := by rw [w10]; exact a3
  have n1 : mI w3 (169 * q + T) 1 = cA v 206 nm := by rw [mT 1 (by decide)]; exact a13
  have hgl : gl w3 (169 * q + T) := by
    unfold gl
    rw [n2]
    decide
  have v1k : TRv1 w3 x3 q s T := by
    refine ⟨k0, n4, by omega, ?_, ?_, ?_, ?_, ?_, ?_, ?_, ?_, by omega⟩
    · rw [v4, mT 5 (by decide)]; exact f5.symm
    · rw [v5, mT 7 (by decide)]; exact f7.symm
    · rw [v6, mT 6 (by decide)]; exact f6.symm
    · rw [v7, mT 8 (by decide)]; exact f8.symm
    · rw [v10, w10]; exact f10.symm
    · unfold rN
      rw [nL0, n1, v11, v12, F0.2.2 6 (by decide), F0.2.2 7 (by decide)]
      exact hnr
    · rw [mT 5 (by decide), f5]; exact hKD
    · rw [mT 8 (by decide), f8]; exact hB
  have tp : TRp1 w3 x3 q s T := by
    unfold TRp1
    rw [n_of n4, mT 5 (by decide), mT 6 (by decide), mT 7 (by decide), mT 8 (by decide), f5, f6, f7, f8, v8, v9]
    exact ⟨hsz1, hsz2, hP⟩
  have F48 : x3.2.2.1 48 = u.2.2.1 48 := F1.2.1 48 (by decide)
  have rk : RKx u x3 s := RKx_f F1 (by decide) (by decide)
  have tr : TR w3 x3 q s (T + 1) (G + 1) := by
    refine TR_new hTR hT hc (by rw [pI3]; exact a7) ?_ (by rw [g1 61 (by decide)]; exact l10) (F1.1 56 (by decide)) (cR3 2) (cR3 3) ?_ (by rw [n2]; decide) hgl (by omega) ⟨?_, ?_, ?_⟩ ?_ ?_ rg rv (RSx_f F1 (by decide) (by decide) (by omega)) (RBx_f F1 (by decide)) (RIx_f F1 (by decide) (by decide)) (fun _ => v1k) (fun z => ?_) (fun z => ?_)
    · rw [g1 62 (by decide), l11, pI3, a8, t3]
    · rw [mT 3 (by decide), a15]; exact t1
    · unfold rN
      rw [nL0, n1, g4 57 (by decide), g4 58 (by decide), l8, l9]
      exact hnr
    · rw [g3 59 (by decide), l6, n2]
    · rw [g3 60 (by decide), l7, mT 4 (by decide), a16, c0]
    · rw [nL0, n1]; exact f1
    · rw [nL0, n1]; exact f2
    · rw [n2] at z
      exact absurd z (by decide)
    · rw [n2] at z
      exact absurd z (by decide)
  have p9 : ∀ p, p ≤ 4 → ¬ p = 0 → pA w3 q 9 p = pA v q 9 p := px.2.2.1
  have cnt : CTN w3 x3 q s (T + 1) := by
    unfold CTN
    rw [F1.2.1 42 (by decide), F48, F1.2.1 36 (by decide), F1.2.1 37 (by decide), F1.2.1 27 (by decide)]
    refine ⟨?_, ?_, ?_, ?_, ?_, ⟨by omega, by omega⟩, c6, c7, c8, c9, by omega⟩
    · refine tI_eq.mpr ?_
      rw [px.2.1, v2]
    · rw [p9 1 (by decide) (by decide)]; exact c1
    · rw [p9 2 (by decide) (by decide)]; exact c2
    · rw [p9 3 (by decide) (by decide)]; exact c3
    · rw [p9 4 (by decide) (by decide)]; exact c4
  have tr2 : TR2 w3 x3 q s (T + 1) := by
    refine TR2_new hTR hT2 hc px (by omega) (by rw [n2]; rfl) n4 rv rk (RNx_f F1 (by decide) (by decide)) cnt hnum h12 (fun _ => tp) ⟨fun z => ?_, fun z => ?_, fun z => ?_⟩ (TRk_c s6 (w7.trans a10) rk (by rw [F48])) (fun z => ?_)
    · rw [n2] at z; exact absurd z (by decide)
    · rw [n2] at z; exact absurd z (by decide)
    · rw [n2] at z; exact absurd z (by decide)
    · rw [n2] at z; exact absurd z (by decide)
  have tkw : tkC w2 w3 := by
    refine ⟨w1.1, w3' 203 (by decide), w3' 204 (by decide), w3' 206 (by decide), ?_, ?_, ?_, w1.2⟩
    · show w3.2.2.2.1 205 = w2.2.2.2.1 205
      rw [w4]
    · show w3.2.2.2.2.2.2.2.2.2.2 2 = w2.2.2.2.2.2.2.2.2.2.2 2
      rw [w8]
    · show w3.2.2.2.2.2.2.2.2.2.2 3 = w2.2.2.2.2.2.2.2.2.2.2 3
      rw [w8]
  have tkx : tkR u x3 := ⟨F1.2.1 2 (by decide), F1.2.1 3 (by decide), F1.2.1 5 (by decide), F1.2.2 4 (by decide), F1.2.2 6 (by decide), F1.2.2 7 (by decide), F1.1 69 (by decide)⟩
  have ex : ∀ k, ¬ k = 63 → x3.1 k = x2.1 k := fun k hk => (hA.1 k hk).trans (hx2.1 k (fun y => by simp only [List.not_mem_nil] at y))
  obtain ⟨-, d1, d2, d3⟩ := hc3
  obtain ⟨-, r1, r2, r3, r4, r5⟩ := hr2
  refine ⟨⟨T + 1, G + 1, ⟨hV.tr (tkC_tr a12 tkw) tkx, ⟨cfr_rf, d1, d2, rfl⟩, ⟨rfr_rf, ?_, ?_, ?_, ?_, rfl⟩, ?_, tr, tr2⟩, OWN0_of hO (by rw [w5 q 15 (by decide)]; exact a6 q 15 (by decide)) (F1.1 70 (by decide)), tkC_ty (tkC_tr a12 tkw)⟩, hjn⟩
  · rw [ex 67 (by decide)]; exact r1
  · rw [ex 65 (by decide)]; exact r2
  · rw [ex 66 (by decide)]; exact r3
  · rw [ex 74 (by decide)]; exact r4
  · have : (eC w3).1 = e.1 := by rw [d3]
    rw [h16] at this
    exact this
theorem IT_ce (h : IT v u q s n i o T G) : CE v v i 0 (eC v) ∧ (eC v).1 = 0 := ⟨h.2.1, h.2.2.2.1⟩
/-- one variable behind var, keep -/
theorem j_oneG (hI : IT v u q s n i o T G) (hO : OWN0 v u q) (hD : dVar (tyF v) i (.inr j)) (hi : i ≤ n) (ho : o < 24) (hkd : KD kd) (hhow : how = 0 ∨ how = 1) : jx (F_X3_oneVariable N 0 how kd v) (F_one N kd how 0 u) (IQ (tyF v) q s n j o) := by
  obtain ⟨hV, h, h', h16, hTR, hT2⟩ := hI
  obtain ⟨t1, t2, t3, t4, t5, t5', t6, t7, t8, t9, t10, t11, t12, t13, t14, t15, t16, t17⟩ := id hTR
  obtain ⟨s1, s2, s3, s4, s5, s6, s7⟩ := id hT2
  obtain ⟨c0, c1, c2, c3, c4, c5, c6, c7, c8, c9, c10⟩ := id s2
  obtain ⟨k1, p1, p2⟩ := oS_r hD
  obtain ⟨tt, rfl⟩ := oT_r p1
  have hil : i < n := hV.lt hi (by rw [tt]; exact nEnd (by decide) (by decide) (by decide))
  have hj := hV.2.2.2.2.1
  have k19 : (u.2.2.1 19 s).toInt = ((u.2.2.1 19 s).toInt.toNat : Nat) := by omega
  have e160 : (bt_1.getD 0 0).toInt = 160 := by decide
  obtain ⟨kn, hkn, hk5⟩ := KD_n hkd
  unfold F_X3_oneVariable B_X3_oneVariable_0 F_one B_one_0
  refine k2_here h ?_
  refine jx_r (y_is hV.2.1 (t := 128) (by decide +kernel) h' hi (fun _ => ?_) (fun y => absurd tt y))
  rw [if_neg (by decide), if_pos rfl]
  refine pp_rd ?_
  rw [n_of t6]
  refine jx_l ?_
  refine j_newG (so := 0) (sn := 0) (k0 := (u.2.2.1 19 s).toInt.toNat) hV hTR h h' hil tt (by decide) (by omega) (by rw [c0]; exact k19) (by omega) (fun hT => ⟨fun _ => by rw [e160]; omega, fun _ => rfl⟩) (fun w x hT _ f1 f2 hN hC hX => ?_) (fun _ _ => by repeat' (first | exact KP_some kp_rf | with_reducible refine KP_bn ?_ (fun _ _ => ?_) | with_reducible refine KP_if ?_ ?_ | with_reducible refine KP_rd (fun _ => ?_) | with_reducible refine KP_zr ?_ | (with_reducible refine KP_pu2 ?_ ?_; first | exact ks_sI (by decide) kp_rf | exact ks_sL kp_rf | exact ks_sA (by decide) kp_rf | exact ks_sB (by decide) kp_rf) | (with_reducible refine KP_wr2 ?_ ?_; first | exact ks_sA (by decide) kp_rf | exact ks_sB (by decide) kp_rf) | with_reducible exact h_ro _ _ _ _ | with_reducible exact sk_F_is | with_reducible exact sk_F_take | with_reducible exact sk_F_emit | with_reducible exact sk_F_wrong | with_reducible exact sk_F_cost | with_reducible exact sk_F_stuck | with_reducible exact sk_F_ends | with_reducible exact sk_F_begins | with_reducible exact sk_F_opens | with_reducible exact sk_F_has | with_reducible exact sk_F_isNumber | with_reducible exact sk_F_isNext | with_reducible exact sk_F_push | with_reducible exact sk_F_lead | with_reducible exact sk_F_here | with_reducible exact sk_F_kind | with_reducible exact sk_F_isKind | with_reducible exact sk_F_own | with_reducible exact sk_F_constant | with_reducible exact sk_F_bounded | with_reducible exact sk_F_joined | with_reducible exact sk_F_strength | with_reducible exact sk_F_leadAll | with_reducible exact sk_F_loop | with_reducible exact sk_F_label | with_reducible exact sk_F_leaves | with_reducible exact sk_F_telling | with_reducible exact sk_F_local | with_reducible exact sk_F_addSlot | with_reducible exact sk_F_addVariable | with_reducible exact sk_F_isTooWide | with_reducible exact sk_F_named | with_reducible exact sk_F_slotOf | with_reducible exact sk_F_bad | with_reducible exact sk_G_expression | with_reducible exact sk_G_spot | with_reducible exact sk_G_body | with_reducible exact sk_G_stat | with_reducible exact sk_B_one_150 | with_reducible exact sk_B_one_135 | with_reducible exact sk_B_one_97 | with_reducible exact sk_B_one_46 | with_reducible exact sk_B_one_0 | with_reducible exact sk_F_one))
  refine pq_ok (fun _ => ?_)
  have hr0 : RE x x i o 0 (eR u) := TLr_re hX h'
  have hV1 : EV1 w x n := hV.tr (NGc_tk hN) (TLr_tk hX)
  have ty1 : tyF w = tyF v := tkC_ty (NGc_tk hN)
  have g10 : mL w (169 * q + T) 10 = 0 := hN.2.2.2.2.2.2.2.2.2.2.2.1.2.1
  have g8 : mI w (169 * q + T) 8 = 0 := hN.2.2.2.2.2.2.2.2.2.2.2.1.2.2.2.2.2.2.2.1
  rw [← bn_id (B_one_46 N kd how 0 (u.1 65) x)]
  refine j_decl hV1 hC hr0 hil ho (by rw [ty1]; exact p2) g10 g8 (fun w2 x2 sz rw fs c2 hD2 hB z1 z2 hc2 hr2 hjn => ?_) (fun _ _ => KP_some kp_rf)
  rw [bn_id]
  have x69 : ¬ x2.1 69 = 0 := by rw [hr2.sc (by decide), hX.1 69 (by decide)]; exact hj
  have e228 : cA w2 228 = cA v 228 := (hD2.1.2.1 228 (by decide)).trans (hN.2.1 228 (by decide))
  have e64 : x2.2.2.1 64 = u.2.2.1 64 := (hr2.row (by decide)).trans (hX.2.2.1 64 (by decide))
  have e63 : x2.1 63 = u.1 63 := (hr2.sc (by decide)).trans (hX.1 63 (by decide))
  have e12 : cI w2 12 = cI v 12 := (hD2.1.1 12 (by decide)).trans (hN.1 12 (by decide))
  refine j_putV x69 (RE_b hr2) hkn (by rcases hhow with z | z <;> (rw [z]; decide)) h'.nat ?_ (by rw [e228, e64]; exact (s3.1 kn hk5).1) hD2.2.2.2.1 (fun x3 hle hA => ?_)
  · rw [hr2.row (by decide), hX.2.2.1 3 (by decide)]
    exact hV.pl hi
  · have nu : NUM (xI (xA (xmI w2 (169 * q + T) 9 (cI w2 12)) 228 kn (cA w2 228 kn + sz)) 12 (cI w2 12 + sz)) x3 ∧ (cI (xI (xA (xmI w2 (169 * q + T) 9 (cI w2 12)) 228 kn (cA w2 228 kn + sz)) 12 (cI w2 12 + sz)) 12).toInt = (cI v 12).toInt + sz.toInt := by
      refine NUM_add s3 hk5 (by omega) (by omega) (by rw [← e228]; exact hle) ?_ ?_ ?_ ?_
      · show upd (cA w2 228) kn (cA w2 228 kn + sz) = _
        rw [e228]
      · rw [hA.2.1 64 (by decide)]
        show upd (x2.2.2.1 64) kn (x2.2.2.1 64 kn + sz) = _
        rw [e64]
      · show cI w2 12 + sz = _
        rw [e12]
      · have := hA.2.2.2.2.2.2.2.2.2.2.2.2.2
        rw [this, if_pos (by rcases hhow with z | z <;> (rw [z]; decide))]
        show x2.1 63 + sz = _
        rw [e63]
    have n9 : mI (xI (xA (xmI w2 (169 * q + T) 9 (cI w2 12)) 228 kn (cA w2 228 kn + sz)) 12 (cI w2 12 + sz)) (169 * q + T) 9 = cI w2 12 := mI_eq
    have p12 : 0 ≤ (cI v 12).toInt := by
      have := s3.2.2
      have b0 := (s3.1 0 (by omega)).2
      have b1 := (s3.1 1 (by omega)).2
      have b2 := (s3.1 2 (by omega)).2
      have b3 := (s3.1 3 (by omega)).2
      have b4 := (s3.1 4 (by omega)).2
      omega
    refine IT_var (x2' := sA x2 64 kn (x2.2.2.1 64 kn + sz)) hV hTR hT2 hO hT k19 ((hV.2.2.1 i hil).2.2.2.2 tt) f1 f2 hN hX hD2 hr2.1 ⟨cfr_rf, hc2.2.1, hc2.2.2.1, hc2.2.2.2⟩ h16 hr2 hjn hkd hB z1 z2 ⟨⟨rfl, rfl⟩, fun k hk => ?_, rfl, fun _ _ _ => rfl, fun _ _ _ => rfl, rfl, rfl, fun p k hk => ?_, fun _ _ => rfl⟩ (FX.rf.sa (by decide)) hA nu.1 (by omega) (Or.inl ⟨hhow, rfl, ?_, ?_, ?_⟩)
    · show (if k = 228 then _ else cA w2 k) = _
      rw [if_neg (fun z => by rw [z] at hk; exact absurd hk (by decide))]
    · show mI (xmI w2 (169 * q + T) 9 (cI w2 12)) p k = _
      exact mI_ne (by omega)
    · rw [n9, e12, e63]
      exact s3.2.1.symm
    · rw [n9, e12]
      exact p12
    · rw [n9, nu.2, e12]
      omega
end Vq
