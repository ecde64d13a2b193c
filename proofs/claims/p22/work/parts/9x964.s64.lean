/-! The second pass: Items. use. -/
/-- while instances of the block r are told -/
def IU (ty : Nat → Int32) (q s n o r : Nat) (b : Int32) (v : CSt) (u : RSt) (i : Nat) : Prop := ∃ T G, IT v u q s n i o T G ∧ OWN0 v u q ∧ tyF v = ty ∧ r < T ∧ mI v (169 * q + r) 2 = 3 ∧ b = mI v (169 * q + r) 4
section Ui
variable {v w w1 w3 : CSt} {u x x2 y : RSt} {q s T G n i j o l N r K F P m k0 : Nat} {e : E5} {c : R5} {b p : Int32} {ty : Nat → Int32}
theorem IU_mv {o2 : Nat} {v w : CSt} {u x : RSt} (h : IU ty q s n o r b v u i) (hc : CE v w j 0 e) (h0 : e.1 = 0) (hr : RE u x j o2 0 c) : IU ty q s n o2 r b w x j := by
  obtain ⟨T, G, hI, hO, ht, h1, h2, h3⟩ := h
  exact ⟨T, G, IT_mv hI hc h0 hr, OWN0_mv hO hc hr, (tkC_ty (cfT_tk (M := []) (cfT_c hc.1))).trans ht, h1, by rw [hc.nm]; exact h2, by rw [hc.nm]; exact h3⟩
theorem IU.ig (h : IU ty q s n o r b v u i) : IG ty q s n o v u i := by
  obtain ⟨T, G, hI, hO, ht, -⟩ := h
  exact ⟨T, G, hI, hO, ht⟩
theorem IT_inst (hI : IT v u q s n i o T G) (hO : OWN0 v u q) (hT : T < 160) (hk0 : (u.2.2.1 42 s).toInt = (k0 : Int)) (hk24 : k0 < 24) (hnr : NmR (cB v 205 i) (cA v 206 i) (u.2.2.2 6 i) (u.2.2.2 7 i)) (f1 : ∀ y, y < T → gl v (169 * q + y) → ¬ (mL v (169 * q + y) 0 = cB v 205 i ∧ mI v (169 * q + y) 1 = cA v 206 i)) (f2 : ∀ j, j < 8 → ¬ (cA v 206 i = 0 ∧ cB v 205 i = mL v (169 * q + (160 + j)) 0)) (hN : NGc v w q T 1 1 k0 (cB v 205 i) (cA v 206 i)) (hX : TLr u x G 1 (u.2.2.1 42 s) i) (hrT : r < T) (h3 : mI v (169 * q + r) 2 = 3) (hb : b = mI v (169 * q + r) 4) (hL : LU (xmI (xmI w (169 * q + T) 14 (mI w (169 * q + r) 3)) (169 * q + T) 9 (cI w 12)) w3) (hnu : ∀ k, k < 5 → cA w3 228 k = x2.2.2.1 64 k ∧ 0 ≤ (cA w3 228 k).toInt ∧ (cA w3 228 k).toInt ≤ 400) (hsum : (cI w3 12).toInt = (cA w3 228 0).toInt + (cA w3 228 1).toInt + (cA w3 228 2).toInt + (cA w3 228 3).toInt + (cA w3 228 4).toInt) (hfK : (cI w3 12).toInt = (cI v 12).toInt + (mI v (169 * q + r) 7).toInt) (hLX : LX x x2) (hA : INr x2 y b i) (hC : CE w w (i + 1) 0 (eC v)) (hr : RE x x i o 0 c) : IU (tyF v) q s n o r b w3 y (i + 1) := by
  have e1 : (1 : Int32).toInt = 1 := by decide
  obtain ⟨hV, h, h', h16, hTR, hT2⟩ := hI
  obtain ⟨t1, t2, t3, t4, t5, t5', t6, t7, t8, t9, t10, t11, t12, t13, t14, t15, t16, t17⟩ := id hTR
  obtain ⟨s1, s2, s3, s4, s5, s6, s7⟩ := id hT2
  obtain ⟨c0, c1, c2, c3, c4, c5, c6, c7, c8, c9, c10⟩ := id s2
  have tkw := NGc_tk hN
  obtain ⟨n1, n2, n3, n4, n5, n6, n7, n8, n9, n10, n11, n12, n13, n14⟩ := id hN
  obtain ⟨g1, g2, g3, g4, g5, g6, g7, g8, g9, g10, g11, g12⟩ := n12
  obtain ⟨p1, p2, p3, p4, p5⟩ := n7
  obtain ⟨l1, l2, l3, l4, l5, l6, l7, l8, l9, l10, l11⟩ := id hX
  obtain ⟨L1, L2, L3, L4⟩ := hL
  obtain ⟨X1, X2, X3, X4⟩ := hLX
  obtain ⟨q1, q2, q3, q4, q5, q6, q7, q8, q9, q10⟩ := hA
  -- the class
  have wm : ∀ m k, mI w3 m k = mI (xmI (xmI w (169 * q + T) 14 (mI w (169 * q + r) 3)) (169 * q + T) 9 (cI w 12)) m k := fun m k => by
    show w3.2.2.2.2.2.2.2.2.1 m k = (xmI (xmI w (169 * q + T) 14 (mI w (169 * q + r) 3)) (169 * q + T) 9 (cI w 12)).2.2.2.2.2.2.2.2.1 m k
    rw [L4]
  have wl : ∀ m k, mL w3 m k = mL w m k := fun m k => by
    show w3.2.2.2.2.2.2.2.2.2.1 m k = _
    rw [L4]
    rfl
  have pI3 : ∀ p k, pI w3 p k = pI w p k := fun p k => by
    show w3.2.2.2.2.1 p k = _
    rw [L4]
    rfl
  have wA : ∀ p k, pA w3 p k = pA w p k := fun p k => by
    show w3.2.2.2.2.2.1 p k = _
    rw [L4]
    rfl
  have wR : ∀ k, cR w3 k = cR v k := fun k => by
    show w3.2.2.2.2.2.2.2.2.2.2 k = v.2.2.2.2.2.2.2.2.2.2 k
    rw [L4]
    show w.2.2.2.2.2.2.2.2.2.2 k = _
    rw [n9]
  have wt : w3.2.2.2.2.2.2.2.1 = v.2.2.2.2.2.2.2.1 := by
    rw [L4]
    exact n8
  have tk3 : tkC w w3 := by
    refine ⟨L1 4 (by decide), L3 203 (by decide), L3 204 (by decide), L3 206 (by decide), ?_, ?_, ?_, L1 7 (by decide)⟩
    · show w3.2.2.2.1 205 = w.2.2.2.1 205
      rw [L4]
      rfl
    · show w3.2.2.2.2.2.2.2.2.2.2 2 = w.2.2.2.2.2.2.2.2.2.2 2
      rw [L4]
      rfl
    · show w3.2.2.2.2.2.2.2.2.2.2 3 = w.2.2.2.2.2.2.2.2.2.2 3
      rw [L4]
      rfl
  have mT : ∀ k, ¬ k = 9 → ¬ k = 14 → mI w3 (169 * q + T) k = mI w (169 * q + T) k := fun k h1 h2 => by rw [wm, mI_ne (Or.inr h1), mI_ne (Or.inr h2)]
  have m9 : mI w3 (169 * q + T) 9 = cI v 12 := by rw [wm, mI_eq]; exact n1 12 (by decide)
  have hc : ∀ y, ¬ y = T → CNa v w3 q y := fun y hy => ⟨fun k hk => by rw [wm, mI_ne (Or.inl (by omega)), mI_ne (Or.inl (by omega))]; exact n10 _ k (by omega), fun k => by rw [wl]; exact n11 _ k (by omega)⟩
  have m14 : mI w3 (169 * q + T) 14 = mI v (169 * q + r) 3 := by rw [wm, mI_ne (Or.inr (by decide)), mI_eq]; exact n10 _ 3 (by omega)
  have eC3 : cI w3 5 = cI w 5 ∧ cI w3 13 = cI w 13 ∧ cI w3 16 = cI w 16 := ⟨L1 5 (by decide), L1 13 (by decide), L1 16 (by decide)⟩
  have e16 : cI w 16 = 0 := by
    have : (eC w).1 = (eC v).1 := by rw [hC.2.2.2]
    exact this.trans h16
  -- the reference
  have X56 : x2.1 56 = u.1 56 := by rw [X1]; exact l1 56 (by decide)
  have nx : (x2.1 56).toNatClampNeg = s := by rw [X56]; exact n_of t6
  have X42 : x2.2.2.1 42 = u.2.2.1 42 := (X3 42 (by decide)).trans (l3 42 (by decide))
  have nI : (24 * x2.1 56 + x2.2.2.1 42 s).toNatClampNeg = 24 * s + k0 := by
    rw [X56, X42]
    exact n_of (m24 t6 t7 hk0 (by omega)).1
  rw [nx] at q6 q7 q8 q9 q10
  rw [nI] at q6 q7 q8 q9
  obtain ⟨K, F, P, hR, b3, -⟩ := t16 r hrT (Or.inl h3)
  have nb : (mI v (169 * q + r) 4).toInt = ((mI v (169 * q + r) 4).toInt.toNat : Nat) := by have := hR.1; omega
  have hbk : (24 * x2.1 56 + b).toInt = (bk v (169 * q + r) s : Nat) := by
    rw [X56, hb, (m24 t6 t7 nb (by have := hR.2.1; omega)).1, bk_3 h3]
    rfl
  have hcell := hR.2.2.2.2.2.2.2.2.2.2.2.2.2.1
  have X31 : x2.2.2.1 31 = u.2.2.1 31 := (X3 31 (by decide)).trans (l3 31 (by decide))
  have y63 : y.1 63 = u.1 63 + mI v (169 * q + r) 7 := by
    rw [q2, n_of hbk, X31, hcell, X1, l1 63 (by decide)]
  have F2 : FX [61, 62] [59, 60, 64] [57, 58] u x2 := by
    refine ⟨fun k hk => by rw [X1]; exact l1 k hk, fun k hk => ?_, fun k hk => by rw [X4]; exact l4 k hk⟩
    rw [X3 k (fun z => hk (by rw [z]; decide))]
    exact l3 k (fun z => hk (by simp only [List.mem_cons, List.not_mem_nil, or_false] at z ⊢; omega))
  have FA : FX [63, 65] [38, 39, 42] [40, 41] x2 y := ⟨q1, q4, q5⟩
  have F1 : FX [61, 62, 63, 65] [38, 39, 42, 59, 60, 64] [40, 41, 57, 58] u y := by
    refine FX.tr (FX.mo F2 ?_ ?_ ?_) (FX.mo FA ?_ ?_ ?_) <;> decide
  have y42 : (y.2.2.1 42 s).toInt = (k0 + 1 : Nat) := by
    rw [q10, X42]
    unfold upd
    rw [if_pos rfl, tI_add (by omega) (by omega), e1, hk0]
    omega
  have ri : RIx u y s := by
    refine ⟨by omega, fun k hk => ?_⟩
    have ne : ¬ 24 * s + k = 24 * s + k0 := by omega
    refine ⟨fun d hd => ?_, fun d hd => ?_⟩
    · simp only [List.mem_cons, List.not_mem_nil, or_false] at hd
      rcases hd with z | z
      · rw [z, q6]; unfold upd; rw [if_neg ne, F2.2.1 38 (by decide)]
      · rw [z, q7]; unfold upd; rw [if_neg ne, F2.2.1 39 (by decide)]
    · simp only [List.mem_cons, List.not_mem_nil, or_false] at hd
      rcases hd with z | z
      · rw [z, q8]; unfold vp_updL; rw [if_neg ne, F2.2.2 40 (by decide)]
      · rw [z, q9]; unfold vp_updL; rw [if_neg ne, F2.2.2 41 (by decide)]
  have rg : RGx u y G := by
    intro k hk
    obtain ⟨b1, b2, b3, b4⟩ := l5 k hk
    rw [FA.2.2 57 (by decide), FA.2.2 58 (by decide), FA.2.1 59 (by decide), FA.2.1 60 (by decide), X4, X3 59 (by decide), X3 60 (by decide)]
    exact ⟨b1, b2, b3, b4⟩
  have rv : RVx u y s := RVx_f F1 (by decide) (by decide)
  have rk : RKx u y s := RKx_f F1 (by decide) (by decide)
  have n2' : mI w3 (169 * q + T) 2 = 1 := by rw [mT 2 (by decide) (by decide)]; exact g4
  have n4' : (mI w3 (169 * q + T) 4).toInt = (k0 : Int) := by rw [mT 4 (by decide) (by decide), n14]; exact p1
  have n1' : mI w3 (169 * q + T) 1 = cA v 206 i := by rw [mT 1 (by decide) (by decide)]; exact g3
  have nL : mL w3 (169 * q + T) 0 = cB v 205 i := by rw [wl]; exact g1
  have hgl : gl w3 (169 * q + T) := by
    unfold gl
    rw [n2']
    decide
  have nos : ∀ a : Int32, a = 0 ∨ a = 2 ∨ a = 3 ∨ a = 4 → ¬ mI w3 (169 * q + T) 2 = a := by
    intro a ha z
    rw [n2'] at z
    rcases ha with ha | ha | ha | ha <;> (rw [ha] at z; exact absurd z (by decide))
  have rT : ¬ r = T := by omega
  have r2 : mI w3 (169 * q + r) 2 = 3 := by rw [(hc r rT).1 2 (by decide)]; exact h3
  have ti : TRi1 w3 y q s (T + 1) T := by
    refine ⟨k0, r, n4', hk24, by omega, by rw [m14]; exact (t11 r hrT).1, r2, ?_, ?_, ?_, by omega⟩
    · have eb : bk w3 (169 * q + r) s = bk v (169 * q + r) s := by
        unfold bk
        rw [(hc r rT).1 2 (by decide), (hc r rT).1 4 (by decide)]
      rw [q6, eb]
      unfold upd
      rw [if_pos rfl]
      exact hbk
    · rw [q7, m9]
      unfold upd
      rw [if_pos rfl, X1, l1 63 (by decide)]
      exact s3.2.1.symm
    · unfold rN
      rw [nL, n1', q8, q9]
      unfold vp_updL
      rw [if_pos rfl, if_pos rfl, F2.2.2 6 (by decide), F2.2.2 7 (by decide)]
      exact hnr
  have tr : TR w3 y q s (T + 1) (G + 1) := by
    refine TR_new hTR hT hc (by rw [pI3]; exact n5) ?_ ?_ (F1.1 56 (by decide)) (wR 2) (wR 3) ?_ (by rw [n2']; decide) hgl (by omega) ⟨?_, ?_, ?_⟩ ?_ ?_ rg rv (RSx_f F1 (by decide) (by decide) (by omega)) (RBx_f F1 (by decide)) ri (fun z => absurd z (nos 0 (Or.inl rfl))) (fun z => ?_) (fun _ => ti)
    · rw [FA.1 62 (by decide), X1, l11, pI3, n6, t3]
    · rw [FA.1 61 (by decide), X1]; exact l10
    · rw [mT 3 (by decide) (by decide), n13]; exact t1
    · unfold rN
      rw [nL, n1', FA.2.2 57 (by decide), FA.2.2 58 (by decide), X4, l8, l9]
      exact hnr
    · rw [FA.2.1 59 (by decide), X3 59 (by decide), l6, n2']
    · rw [FA.2.1 60 (by decide), X3 60 (by decide), l7, mT 4 (by decide) (by decide), n14, c1]
    · rw [nL, n1']; exact f1
    · rw [nL, n1']; exact f2
    · rcases z with z | z
      · exact absurd z (nos 3 (by decide))
      · exact absurd z (nos 4 (by decide))
  have px : PAx v w3 q 1 k0 T := ⟨p1, by rw [wA]; exact p2, fun p hp hn => by rw [wA]; exact p3 p hp hn, by rw [wA]; exact p4, fun p k hp hn => by rw [wA]; exact p5 p k hp hn⟩
  have cnt : CTN w3 y q s (T + 1) := by
    unfold CTN
    rw [F1.2.1 19 (by decide), F1.2.1 48 (by decide), F1.2.1 36 (by decide), F1.2.1 37 (by decide), F1.2.1 27 (by decide)]
    refine ⟨?_, tI_eq.mpr (by rw [px.2.1, y42]), ?_, ?_, ?_, ⟨c5.1, by omega⟩, ⟨by omega, by omega⟩, c7, c8, c9, c10.1, by omega⟩
    · rw [px.2.2.1 0 (by decide) (by decide)]; exact c0
    · rw [px.2.2.1 2 (by decide) (by decide)]; exact c2
    · rw [px.2.2.1 3 (by decide) (by decide)]; exact c3
    · rw [px.2.2.1 4 (by decide) (by decide)]; exact c4
  obtain ⟨f, f5, f6, f7, f8⟩ := s7 r hrT (Or.inl h3) K hR.2.2.2.1
  have f0 : 0 ≤ (mI v (169 * q + r) 7).toInt := by
    have mono : ∀ d, d ≤ K → 0 ≤ f d := by
      intro d
      induction d with
      | zero => intro _; rw [f5]; omega
      | succ d ih =>
        intro hd
        obtain ⟨-, z2, z3, -⟩ := f8 d (by omega)
        have := ih (by omega)
        omega
    rw [← f6]
    exact mono K (Nat.le_refl _)
  have b40 := (s3.1 0 (by omega)).2
  have b41 := (s3.1 1 (by omega)).2
  have b42 := (s3.1 2 (by omega)).2
  have b43 := (s3.1 3 (by omega)).2
  have b44 := (s3.1 4 (by omega)).2
  have s33 := s3.2.2
  have num : NUM w3 y := by
    refine ⟨fun k hk => ?_, ?_, hsum⟩
    · rw [FA.2.1 64 (by decide)]
      exact hnu k hk
    · refine tI_eq.mpr ?_
      rw [hfK, y63, ← s3.2.1, tI_add (by omega) (by omega)]
  have tr2 : TR2 w3 y q s (T + 1) := by
    refine TR2_new hTR hT2 hc px (by omega) (by rw [n2']; rfl) n4' rv rk (RNx_f F1 (by decide) (by decide)) cnt num (by omega) (fun z => absurd z (nos 0 (Or.inl rfl))) ⟨fun z => absurd z (nos 2 (by decide)), fun z => absurd z (nos 3 (by decide)), fun z => absurd z (nos 4 (by decide))⟩ (TRk_c s6 wt rk (by rw [F1.2.1 48 (by decide)])) (fun z => ?_)
    rcases z with z | z
    · exact absurd z (nos 3 (by decide))
    · exact absurd z (nos 4 (by decide))
  have hn2 := hV.2.1.2.2
  refine ⟨T + 1, G + 1, ⟨hV.tr (tkC_tr tkw tk3) ⟨F1.2.1 2 (by decide), F1.2.1 3 (by decide), F1.2.1 5 (by decide), F1.2.2 4 (by decide), F1.2.2 6 (by decide), F1.2.2 7 (by decide), F1.1 69 (by decide)⟩, ⟨cfr_rf, by rw [eC3.1]; exact hC.2.1, by rw [eC3.2.1]; exact hC.2.2.1, rfl⟩, ⟨rfr_rf, ?_, ?_, ?_, ?_, rfl⟩, by rw [eC3.2.2]; exact e16, tr, tr2⟩, OWN0_of hO (by rw [pI3]; exact n4 q 15 (by decide)) (F1.1 70 (by decide)), tkC_ty (tkC_tr tkw tk3), by omega, r2, by rw [(hc r rT).1 4 (by decide)]; exact hb⟩
  · rw [FA.1 67 (by decide), X1]; exact hr.2.1
  · have := hr.2.2.1
    have c5 := hC.2.1
    have c6 := Int32.toInt_lt (cI w 5)
    rw [q3, X1, tI_add (by omega) (by omega), e1, this]
    omega
  · rw [FA.1 66 (by decide), X1]; exact hr.2.2.2.1
  · rw [FA.1 74 (by decide), X1]; exact hr.2.2.2.2.1
/-- one instance -/
theorem j_inst (hI : IU ty q s n o r b v u i) (ht : ty i = 128) (hi : i ≤ n) : jx (F_X3_oneUse N (169 * q + r) v) (F_instance N b u) (fun _ w _ x => IU ty q s n o r b w x (i + 1) ∧ i + 1 ≤ n) := by
  obtain ⟨T, G, hIT, hO, rfl, hrT, h3, hb⟩ := hI
  obtain ⟨hV, h, h', h16, hTR, hT2⟩ := id hIT
  obtain ⟨t1, t2, t3, t4, t5, t5', t6, t7, t8, t9, t10, t11, t12, t13, t14, t15, t16, t17⟩ := id hTR
  obtain ⟨s1, s2, s3, s4, s5, s6, s7⟩ := id hT2
  obtain ⟨c0, c1, c2, c3, c4, c5, c6, c7, c8, c9, c10⟩ := id s2
  have hil : i < n := hV.lt hi (by rw [ht]; exact nEnd (by decide) (by decide) (by decide))
  have hj := hV.2.2.2.2.1
  have e24 : (24 : Int32).toInt = 24 := by decide
  have b1 : (bt_1.getD 1 0).toInt = 24 := by decide
  have k42 : (u.2.2.1 42 s).toInt = ((u.2.2.1 42 s).toInt.toNat : Nat) := by omega
  obtain ⟨K, F, P, hR, -⟩ := t16 r hrT (Or.inl h3)
  obtain ⟨f, f5, f6, f7, f8⟩ := s7 r hrT (Or.inl h3) K hR.2.2.2.1
  unfold F_X3_oneUse B_X3_oneUse_0 F_instance B_instance_0
  refine k2_here h ?_
  refine jx_r (y_is hV.2.1 (t := 128) (by decide +kernel) h' hi (fun _ => ?_) (fun y => absurd ht y))
  rw [if_neg (by decide)]
  refine pp_rd (pp_rd ?_)
  rw [n_of t6]
  have main : ∀ l3 : Int32, (l3 = 0 ↔ ¬ u.2.2.1 42 s = 24) → jx (bt (F_X3_newName N 1 v) fun r_11 u_10 => ok (r_11 < 338) inferInstance <| pc (xmI u_10 r_11 14 (mI u_10 (169 * q + r) 3)) fun u_14 => pc (xmI u_14 r_11 9 (cI u_14 12)) fun u_15 => LP_X3_oneUse_33 N N (169 * q + r, cA v 204 i, 0, u_15)) (B_instance_43 N b 1 (u.2.2.1 42 s) l3 u) (fun _ w _ x => IU (tyF v) q s n o r b w x (i + 1) ∧ i + 1 ≤ n) := by
    intro l3 hl3
    unfold B_instance_43
    refine j_newG (so := 1) (sn := 1) (k0 := (u.2.2.1 42 s).toInt.toNat) hV hTR h h' hil ht (by decide) (by omega) (by rw [c1]; exact k42) (by omega) (fun _ => ?_) (fun w x hT hk f1 f2 hN hC hX => ?_) (fun _ _ => sk_LP_instance_50 _ _)
    · rw [hl3, b1, tI_eq, e24]
      omega
    · rw [b1] at hk
      refine pq_ok (fun _ => pq_pc (pq_pc ?_))
      have hr0 : RE x x i o 0 (eR u) := TLr_re hX h'
      have x69 : ¬ x.1 69 = 0 := by rw [hX.1 69 (by decide)]; exact hj
      have rT : ¬ r = T := by omega
      have nn : ∀ y, ¬ y = T → ∀ k, mI (xmI (xmI w (169 * q + T) 14 (mI w (169 * q + r) 3)) (169 * q + T) 9 (cI w 12)) (169 * q + y) k = mI v (169 * q + y) k := fun y hy k => by
        rw [mI_ne (Or.inl (by omega)), mI_ne (Or.inl (by omega))]
        exact hN.2.2.2.2.2.2.2.2.2.1 _ k (by omega)
      have ll : ∀ y, ¬ y = T → ∀ k, mL (xmI (xmI w (169 * q + T) 14 (mI w (169 * q + r) 3)) (169 * q + T) 9 (cI w 12)) (169 * q + y) k = mL v (169 * q + y) k := fun y hy k => hN.2.2.2.2.2.2.2.2.2.2.1 _ k (by omega)
      have hRx : RRr (xmI (xmI w (169 * q + T) 14 (mI w (169 * q + r) 3)) (169 * q + T) 9 (cI w 12)) x q s (T + 1) r K F P := by
        have a9 := hR.2.2.2.2.2.2.2.2.1
        have a5 := hR.2.2.2.2.1
        exact RRr_tr hR (fun y h1 h2 => ⟨fun k _ => nn y (by omega) k, fun k => ll y (by omega) k⟩) (fun d hd => by rw [hX.2.2.1 d (fun z => by simp only [List.mem_cons, List.not_mem_nil, or_false] at hd z; omega)]) (RSx_f (TLr_fx hX) (by decide) (by decide) a9) (by omega)
      have w12 : cI (xmI (xmI w (169 * q + T) 14 (mI w (169 * q + r) 3)) (169 * q + T) 9 (cI w 12)) 12 = cI v 12 := hN.1 12 (by decide)
      have w228 : cA (xmI (xmI w (169 * q + T) 14 (mI w (169 * q + r) 3)) (169 * q + T) 9 (cI w 12)) 228 = cA v 228 := hN.2.1 228 (by decide)
      have wR2 : cR (xmI (xmI w (169 * q + T) 14 (mI w (169 * q + r) 3)) (169 * q + T) 9 (cI w 12)) 2 = q := by
        show w.2.2.2.2.2.2.2.2.2.2 2 = q
        rw [hN.2.2.2.2.2.2.2.2.1]
        exact t9
      refine j_instT (f := f) (T := T + 1) (s := s) x69 hr0 ?_ wR2 (by rw [nn r rT]; exact (t11 r hrT).1) hN.2.2.2.2.1 (by omega) hRx (by rw [nn r rT]; exact h3) (by rw [nn r rT]; exact hb) (by rw [hX.1 56 (by decide)]; exact t6) t7 (fun j hj => ?_) (fun w3 x2 y hL hnu hsum hfK hLX hA => ?_) K 0 _ _ N N (by omega) ⟨fun _ _ => rfl, rfl, fun _ _ => rfl, rfl⟩ (fun k hk => ?_) ?_ ?_ ⟨rfl, rfl, fun _ _ => rfl, rfl⟩
      · rw [hX.2.2.1 3 (by decide)]
        exact hV.pl hi
      · have a5 := hR.2.2.2.2.1
        rw [nn (r + 1 + j) (by omega)]
        exact (f8 j hj).2
      · rw [w12, f6] at hfK
        exact ⟨IT_inst hIT hO hT k42 (by omega) ((hV.2.2.1 i hil).2.2.2.2 ht) f1 f2 hN hX hrT h3 hb hL hnu hsum hfK hLX hA hC hr0, hil⟩
      · rw [show cI (xmI w (169 * q + T) 14 (mI w (169 * q + r) 3)) 12 = cI w 12 from rfl, w228, hX.2.2.1 64 (by decide)]
        exact s3.1 k hk
      · rw [show cI (xmI w (169 * q + T) 14 (mI w (169 * q + r) 3)) 12 = cI w 12 from rfl, w12, w228]
        exact s3.2.2
      · rw [show cI (xmI w (169 * q + T) 14 (mI w (169 * q + r) 3)) 12 = cI w 12 from rfl, f5]
        omega
  by_cases y : u.2.2.1 42 s = 24
  · rw [if_pos y]
    exact jx_l (main 1 ⟨fun z => absurd z (by decide), fun z => absurd y z⟩)
  · rw [if_neg y]
    exact jx_l (main 0 ⟨fun _ => y, fun _ => rfl⟩)
theorem IU_e (hI : IU ty q s n o r b v u i) : EV1 v u n ∧ CE v v i 0 (eC v) ∧ (eC v).1 = 0 ∧ RE u u i o 0 (eR u) ∧ tyF v = ty := IG_b.1 v u i hI.ig
theorem j_usesT : ∀ d i j k v u M M', oWn (fun i => ty i = 44) (oN (oT ty 128)) (oT ty 59) d i (.inr j) → IU ty q s n o r b v u i → i ≤ n → k ≤ i → jx (LP_X3_uses_45 N M (169 * q + r, Int32.ofNat k, v)) (LP_use_68 N M' (b, u)) (IQ ty q s n j o) := by
  have e15 : (1500 : Int32).toInt = 1500 := by decide
  intro d
  induction d with
  | zero =>
    rintro i j k v u M M' ⟨z, hD⟩ hI hi hk
    obtain ⟨hV, h, h0, h', hty⟩ := IU_e hI
    have z : ¬ ty i = 44 := z
    obtain ⟨t1, rfl⟩ := oT_r hD
    rw [← hty] at z t1
    have hil := hV.lt hi (by rw [t1]; exact nEnd (by decide) (by decide) (by decide))
    cases M with
    | zero => exact jx_n1 rfl
    | succ M =>
      cases M' with
      | zero => exact jx_n2 rfl
      | succ M' =>
        show jx (B_X3_uses_45 N (LP_X3_uses_45 N M) (169 * q + r) (Int32.ofNat k) v) (B_use_68 N (LP_use_68 N M') b u) _
        unfold B_X3_uses_45 B_use_68
        have fin : jx (B_X3_uses_82 N v) (bn (F_has N 230 u) fun r_2 u_1 => if r_2 = (0 : Int32) then (bn (F_take N 229 u_1) fun _ u_4 => some (0, u_4)) else (bn (F_instance N b u_1) fun _ u_5 => LP_use_68 N M' (b, u_5))) (IQ ty q s n (i + 1) o) := by
          unfold B_X3_uses_82
          refine k2_next hV.1 h hil (fun w1 g1 => ?_)
          refine jx_r (y_has hV.2.1 (t := 44) (by decide +kernel) (nEnd (by decide) (by decide) (by decide)) h' hi (fun y => absurd y z) (fun _ => ?_))
          rw [if_pos rfl]
          refine y_take hV.2.1 (t := 59) (by decide +kernel) h' hil t1 (fun x1 r1 => ?_)
          exact pp_some (pq_some (Or.inr ⟨0, rfl, (IU_mv hI g1 h0 r1).ig, hil⟩))
        exact pq_if (fun _ => fin) (fun _ => k2_if h (fun y => absurd y z) (fun _ => fin))
  | succ d ih =>
    rintro i j k v u M M' ⟨z, hD⟩ hI hi hk
    obtain ⟨hV, h, h0, h', hty⟩ := IU_e hI
    have z : ty i = 44 := z
    obtain ⟨k1, p1, p2⟩ := oS_r hD
    obtain ⟨t128, rfl⟩ := oT_r (show oT ty 128 (i + 1) (.inr k1) from p1)
    have z2 : tyF v i = 44 := by rw [hty]; exact z
    have hn2 := hV.2.1.2.2
    have hil := hV.lt hi (by rw [z2]; exact nEnd (by decide) (by decide) (by decide))
    have ki := ofN_i (k := k) (by omega)
    cases M with
    | zero => exact jx_n1 rfl
    | succ M =>
      cases M' with
      | zero => exact jx_n2 rfl
      | succ M' =>
        show jx (B_X3_uses_45 N (LP_X3_uses_45 N M) (169 * q + r) (Int32.ofNat k) v) (B_use_68 N (LP_use_68 N M') b u) _
        unfold B_X3_uses_45 B_use_68
        rw [if_neg (fun y => by have := Int32.le_iff_toInt_le.mp y; rw [e15] at this; omega)]
        refine k2_if h (fun _ => ?_) (fun y => absurd z2 y)
        refine k2_next hV.1 h hil (fun w1 g1 => ?_)
        refine jx_r (y_has hV.2.1 (t := 44) (by decide +kernel) (nEnd (by decide) (by decide) (by decide)) h' hi (fun _ _ x1 r1 => ?_) (fun y => absurd z2 y))
        rw [if_neg (by decide)]
        refine jx_l ?_
        refine jx_bt (j_inst (IU_mv hI g1 h0 r1) t128 hil) ?_ (fun _ _ => sk_LP_use_68 _ _)
        rintro b2 w r2 x ⟨hI2, hk1⟩
        rw [ofN1 (by omega)]
        exact ih (i + 1 + 1) j (k + 1) w x M M' p2 hI2 hk1 (by omega)
/-- what the NAME behind use means: a block, or not -/
theorem kn0 (hV : EV1 v u n) (h : TR v u q s T G) (hO : OWN0 v u q) (hi : i < n) (ht : tyF v i = 128) : ∃ (m : Nat) (g : Int32), (∀ N w l e, CE v w i l e → pq (F_X8_known N w) (fun y z => y = m ∧ z = w)) ∧ (∀ N x o l c, RE u x i o l c → pp (F_own N 3 x) (fun y z => y = g ∧ z = x)) ∧ ((∃ r, r < T ∧ m = 169 * q + r ∧ mI v m 2 = 3 ∧ g = mI v m 4 ∧ ¬ g = -1) ∨ (¬ mI v m 2 = 3 ∧ g = -1)) := by
  obtain ⟨t1, t2, t3, t4, t5, t5', t6, t7, t8, t9, t10, t11, t12, t13, t14, t15, t16, t17⟩ := h
  obtain ⟨g1, g2, g3, g4⟩ := t13
  obtain ⟨f1, f2, f3, f4, f5, f6⟩ := t14
  have hj := hV.2.2.2.2.1
  have m1 : (-1 : Int32).toInt = -1 := by decide
  have hn : NmR (cB v 205 i) (cA v 206 i) (u.2.2.2 6 i) (u.2.2.2 7 i) := (hV.2.2.1 i hi).2.2.2.2 ht
  have ng : ∀ {m y : Nat}, rN v u m 57 58 y → ((mL v m 0 = cB v 205 i ∧ mI v m 1 = cA v 206 i) ↔ (u.2.2.2 57 y = u.2.2.2 6 i ∧ u.2.2.2 58 y = u.2.2.2 7 i)) := fun hr => NmR_eq hr hn
  have n8 : ∀ {k : Nat}, k < 8 → ((mL v (169 * q + (160 + k)) 0 = cB v 205 i ∧ 0 = cA v 206 i) ↔ (u.2.2.2 57 k = u.2.2.2 6 i ∧ u.2.2.2 58 k = u.2.2.2 7 i)) := fun hk8 => NmR_eq (f5 _ hk8).2.1 hn
  have cls : ∀ N w l e, CE v w i l e → pq (F_X8_known N w) (fun x z => z = w ∧ ((∃ y, y < T ∧ x = 169 * q + y ∧ gl v (169 * q + y) ∧ mL v (169 * q + y) 0 = cB v 205 i ∧ mI v (169 * q + y) 1 = cA v 206 i) ∨ ((∀ y, y < T → gl v (169 * q + y) → ¬ (mL v (169 * q + y) 0 = cB v 205 i ∧ mI v (169 * q + y) 1 = cA v 206 i)) ∧ ((∃ k, k < 8 ∧ cA v 206 i = 0 ∧ mL v (169 * q + (160 + k)) 0 = cB v 205 i ∧ x = 169 * q + (160 + k)) ∨ ((¬ cA v 206 i = 0 ∨ ∀ k, k < 8 → ¬ mL v (169 * q + (160 + k)) 0 = cB v 205 i) ∧ x = 169 * q + 168))))) := by
    intro N w l e hc
    have glv : ∀ m, gl w m ↔ gl v m := fun m => by unfold gl; rw [hc.nm]
    unfold F_X8_known B_X8_known_0
    refine k2_head hc (k2_tail hc (pq_ok (fun _ => ?_)))
    rw [hc.rf, t10, hc.pi q (by decide)]
    refine pq_bc (pq_m (k2_noname hO.1) (fun x1 w1 hw1 => ?_))
    rw [hw1.1, hw1.2]
    refine pq_ok (fun _ => pq_bc (pq_m (k2_called (b := ((mI v (169 * q + 168) 3).toInt + 1).toNat) (K := 0) (T := T) (by rw [hc.nm]; omega) (by rw [hc.nm, f2]; rfl) (by rw [hc.pi q (by decide)]; exact t1) t2 (Or.inr rfl) (by omega)) (fun x2 w2 hw2 => ?_)))
    rw [hw2.1]
    refine pq_ok (fun _ => ?_)
    rw [hc.nm]
    rcases hw2.2 with ⟨y, y1, -⟩ | ⟨y1, y2⟩
    · exact absurd y1 (Nat.not_lt_zero _)
    · rw [y2, if_pos f1]
      refine pq_ok (fun _ => ?_)
      rw [hc.rf, t10]
      refine pq_bc (pq_m (k2_ofText (T := T) (by rw [hc.pi q (by decide)]; exact t1) t2) (fun x3 w3 hw3 => ?_))
      rw [hw3.1]
      refine pq_ok (fun _ => pq_some ⟨rfl, ?_⟩)
      rcases hw3.2 with ⟨y, z1, z2, z3, z4, z5⟩ | ⟨z1, z2⟩
      · rw [hc.nl] at z4
        rw [hc.nm] at z5
        exact Or.inl ⟨y, z1, z2, (glv _).mp z3, z4, z5⟩
      · refine Or.inr ⟨fun y hy hg hm => z1 y hy ((glv _).mpr hg) (by rw [hc.nl, hc.nm]; exact hm), ?_⟩
        rcases z2 with ⟨k, k1, k2, k3, k4⟩ | ⟨k1, k2⟩
        · rw [hc.nl] at k3
          exact Or.inl ⟨k, k1, k2, k3, k4⟩
        · refine Or.inr ⟨?_, k2⟩
          rcases k1 with k1 | k1
          · exact Or.inl k1
          · exact Or.inr (fun k hk8 hm => k1 k hk8 (by rw [hc.nl]; exact hm))
  have own : ∀ N x o l c, RE u x i o l c → pp (F_own N 3 x) (fun r w => w = x ∧ (((∀ y, y < G → ¬ (u.2.2.2 57 y = u.2.2.2 6 i ∧ u.2.2.2 58 y = u.2.2.2 7 i)) ∧ r = -1) ∨ (∃ y, y < G ∧ u.2.2.2 57 y = u.2.2.2 6 i ∧ u.2.2.2 58 y = u.2.2.2 7 i ∧ r = if u.2.2.1 59 y = 3 then u.2.2.1 60 y else -1))) := by
    intro N x o l c hr
    unfold F_own B_own_0
    rw [if_neg (by rw [hr.sc (by decide)]; exact hj)]
    refine y_rB hr (by decide) (y_rB hr (by decide) (pp_bn (pp_m (y_slots0 (by rw [hr.sc (by decide)]; exact hO.2)) (fun r1 w1 hw1 => ?_))))
    rw [hw1.1, if_pos hw1.2]
    have hu57 : x.2.2.2 57 = u.2.2.2 57 := hr.lrow (by decide)
    have hu58 : x.2.2.2 58 = u.2.2.2 58 := hr.lrow (by decide)
    refine y_rB hr (by decide) (y_rB hr (by decide) (pp_bn (pp_m (y_named (G := G) (by rw [hr.sc (by decide)]; exact t4) (by omega)) (fun r2 w2 hw2 => ?_))))
    rw [hu57, hu58] at hw2
    rw [hw2.1]
    rcases hw2.2 with ⟨x1, x2⟩ | ⟨y, x1, x2, x3, x4⟩
    · rw [if_pos x1]
      exact pp_some ⟨rfl, Or.inl ⟨x2, rfl⟩⟩
    · rw [if_neg (fun e => by rw [e, m1] at x2; omega)]
      refine pp_rd ?_
      rw [hr.row (by decide), n_of x2]
      refine pp_if (fun e => pp_rd ?_) (fun e => pp_some ⟨rfl, Or.inr ⟨y, x1, x3, x4, by rw [if_neg e]⟩⟩)
      rw [hr.row (by decide), n_of x2]
      exact pp_some ⟨rfl, Or.inr ⟨y, x1, x3, x4, by rw [if_pos e]⟩⟩
  by_cases hG : ∃ x, x < T ∧ gl v (169 * q + x) ∧ mL v (169 * q + x) 0 = cB v 205 i ∧ mI v (169 * q + x) 1 = cA v 206 i
  · obtain ⟨x, e1, e2, e3, e4⟩ := hG
    obtain ⟨y, y1, y2, y3, y4, y5⟩ := g1 x e1 e2
    have hu : ∀ x', x' < T → gl v (169 * q + x') → mL v (169 * q + x') 0 = cB v 205 i → mI v (169 * q + x') 1 = cA v 206 i → x' = x := fun x' h1 h2 h3 h4 => g3 x' x h1 e1 h2 e2 (h3.trans e3.symm) (h4.trans e4.symm)
    have hy := (ng y3).mp ⟨e3, e4⟩
    have huy : ∀ y', y' < G → (u.2.2.2 57 y' = u.2.2.2 6 i ∧ u.2.2.2 58 y' = u.2.2.2 7 i) → u.2.2.1 59 y' = mI v (169 * q + x) 2 ∧ u.2.2.1 60 y' = mI v (169 * q + x) 4 := by
      intro y' hy' hm
      rcases Nat.lt_or_ge y' 8 with z | z
      · have := (n8 z).mpr hm
        exact absurd ⟨e4.trans this.2.symm, e3.trans this.1.symm⟩ (g4 x e1 e2 y' z)
      · obtain ⟨x', x1, x2, x3, x4, x5⟩ := g2 y' z hy'
        have h2 := (ng x3).mpr hm
        have ex := hu x' x1 x2 h2.1 h2.2
        subst ex
        exact ⟨x4, x5⟩
    have num := t12 x e1 e2
    refine ⟨169 * q + x, if mI v (169 * q + x) 2 = 3 then mI v (169 * q + x) 4 else -1, fun N w l e hc => ?_, fun N x' o l c hr => ?_, ?_⟩
    · refine pq_m (cls N w l e hc) (fun z w hw => ⟨?_, hw.1⟩)
      rcases hw.2 with ⟨y, w1, w2, w3, w4, w5⟩ | ⟨w1, -⟩
      · rw [w2, hu y w1 w3 w4 w5]
      · exact absurd ⟨e3, e4⟩ (w1 x e1 e2)
    · refine pp_m (own N x' o l c hr) (fun r w hw => ⟨?_, hw.1⟩)
      rcases hw.2 with ⟨w1, -⟩ | ⟨y', w1, w2, w3, w4⟩
      · exact absurd hy (w1 y y2)
      · obtain ⟨u1, u2⟩ := huy y' w1 ⟨w2, w3⟩
        rw [w4, u1, u2]
    · by_cases z : mI v (169 * q + x) 2 = 3
      · rw [if_pos z]
        exact Or.inl ⟨x, e1, rfl, z, rfl, fun y => by rw [y, m1] at num; omega⟩
      · rw [if_neg z]
        exact Or.inr ⟨z, rfl⟩
  · have hno : ∀ N x o l c, RE u x i o l c → pp (F_own N 3 x) (fun y z => y = -1 ∧ z = x) := by
      intro N x o l c hr
      refine pp_m (own N x o l c hr) (fun r w hw => ⟨?_, hw.1⟩)
      rcases hw.2 with ⟨-, w2⟩ | ⟨y', w1, w2, w3, w4⟩
      · exact w2
      · rcases Nat.lt_or_ge y' 8 with z | z
        · rw [w4, (f5 y' z).2.2.1]
          rfl
        · obtain ⟨x', x1, x2, x3, x4, x5⟩ := g2 y' z w1
          have h2 := (ng x3).mpr ⟨w2, w3⟩
          exact absurd ⟨x', x1, x2, h2.1, h2.2⟩ hG
    by_cases h8 : ∃ k, k < 8 ∧ cA v 206 i = 0 ∧ mL v (169 * q + (160 + k)) 0 = cB v 205 i
    · obtain ⟨k, k1, k2, k3⟩ := h8
      refine ⟨169 * q + (160 + k), -1, fun N w l e hc => ?_, hno, Or.inr ⟨by rw [(f5 k k1).1]; decide, rfl⟩⟩
      refine pq_m (cls N w l e hc) (fun z w hw => ⟨?_, hw.1⟩)
      rcases hw.2 with ⟨y, w1, w2, w3, w4, w5⟩ | ⟨-, ⟨k', w1, w2, w3, w4⟩ | ⟨w1, -⟩⟩
      · exact absurd ⟨y, w1, w3, w4, w5⟩ hG
      · rw [w4, f6 k' k w1 k1 (w3.trans k3.symm)]
      · rcases w1 with w1 | w1
        · exact absurd k2 w1
        · exact absurd k3 (w1 k k1)
    · refine ⟨169 * q + 168, -1, fun N w l e hc => ?_, hno, Or.inr ⟨by rw [f1]; decide, rfl⟩⟩
      refine pq_m (cls N w l e hc) (fun z w hw => ⟨?_, hw.1⟩)
      rcases hw.2 with ⟨y, w1, w2, w3, w4, w5⟩ | ⟨-, ⟨k', w1, w2, w3, w4⟩ | ⟨-, w2⟩⟩
      · exact absurd ⟨y, w1, w3, w4, w5⟩ hG
      · exact absurd ⟨k', w1, w2, w3⟩ h8
      · exact w2
/-- use -/
theorem j_uses (hI : IG ty q s n o v u i) (hD : dUse ty i (.inr j)) (hi : i < n) (hc : CE v w (i + 1) 0 (eC v)) : jx (F_X3_uses N w) (F_use N u) (IQ ty q s n j o) := by
  obtain ⟨T, G, hIT, hO, rfl⟩ := hI
  obtain ⟨hV, h, h', h16, hTR, hT2⟩ := id hIT
  have hn2 := hV.2.1.2.2
  obtain ⟨k1, p1, p2⟩ := oS_r (show oS (oT (tyF v) 128) (oS (oT (tyF v) 128) (oW (fun i => tyF v i = 44) (oN (oT (tyF v) 128)) (oT (tyF v) 59))) (i + 1) (.inr j) from hD)
  obtain ⟨t1, rfl⟩ := oT_r p1
  obtain ⟨k2, p3, d, p4⟩ := oS_r p2
  obtain ⟨t2, rfl⟩ := oT_r p3
  have hi1 : i + 1 < n := hV.lt (i := i + 1) hi (by rw [t1]; exact nEnd (by decide) (by decide) (by decide))
  have hi2 : i + 1 + 1 < n := hV.lt (i := i + 1 + 1) hi1 (by rw [t2]; exact nEnd (by decide) (by decide) (by decide))
  have hj := hV.2.2.2.2.1
  obtain ⟨m, g, hK, hW, hM⟩ := kn0 hV hTR hO hi1 t1
  unfold F_X3_uses B_X3_uses_0 F_use B_use_0
  refine pq_bc (pq_m (hK N w _ _ hc) (fun y z hz => ?_))
  rw [hz.1, hz.2]
  refine pq_ok (fun _ => ?_)
  rw [hc.nm]
  refine jx_r (y_adv h' (by omega) (fun x1 r1 => ?_))
  refine y_is hV.2.1 (t := 128) (by decide +kernel) r1 hi (fun _ => ?_) (fun y => absurd t1 y)
  rw [if_neg (by decide)]
  refine pp_bn (pp_m (hW N x1 _ _ _ r1) (fun y z hz => ?_))
  rw [hz.1, hz.2]
  refine jx_l ?_
  rcases hM with ⟨r, z1, z2, z3, z4, z5⟩ | ⟨z1, z2⟩
  · rw [if_pos z3, if_neg z5]
    unfold B_X3_uses_31 B_use_40
    refine k2_next hV.1 hc hi1 (fun w2 g2 => ?_)
    refine jx_r (y_rA r1 (by decide) (y_ok rfl (y_adv r1 (by omega) (fun x2 r2 => jx_l ?_))))
    subst z2
    have hIU : IU (tyF v) q s n o r g w2 x2 (i + 1 + 1) := by
      refine ⟨T, G, IT_mv hIT g2 h16 r2, OWN0_mv hO g2 r2, tkC_ty (cfT_tk (M := []) (cfT_c g2.1)), z1, ?_, ?_⟩
      · rw [g2.nm]; exact z3
      · rw [g2.nm]; exact z4
    refine jx_bt (j_inst hIU t2 hi1) ?_ (fun _ _ => sk_LP_use_68 _ _)
    rintro b2 w3 r3 x3 ⟨hI2, hk1⟩
    exact j_usesT d (i + 1 + 1 + 1) j 0 w3 x3 N N p4 hI2 hk1 (Nat.zero_le _)
  · rw [if_neg z1, if_pos z2]
    refine k2_here hc (jx_ref ?_)
    unfold B_use_40
    refine y_rA r1 (by decide) ?_
    rw [hV.pl (Nat.le_of_lt hi1)]
    exact y_bad hj r1 (by decide) (by decide) (fun _ _ => by repeat' (first | exact KP_some kp_rf | with_reducible refine KP_bn ?_ (fun _ _ => ?_) | with_reducible refine KP_if ?_ ?_ | with_reducible refine KP_rd (fun _ => ?_) | with_reducible refine KP_zr ?_ | (with_reducible refine KP_pu2 ?_ ?_; first | exact ks_sI (by decide) kp_rf | exact ks_sL kp_rf | exact ks_sA (by decide) kp_rf | exact ks_sB (by decide) kp_rf) | (with_reducible refine KP_wr2 ?_ ?_; first | exact ks_sA (by decide) kp_rf | exact ks_sB (by decide) kp_rf) | with_reducible exact h_ro _ _ _ _ | with_reducible exact sk_F_is | with_reducible exact sk_F_take | with_reducible exact sk_F_emit | with_reducible exact sk_F_wrong | with_reducible exact sk_F_cost | with_reducible exact sk_F_stuck | with_reducible exact sk_F_ends | with_reducible exact sk_F_begins | with_reducible exact sk_F_opens | with_reducible exact sk_F_has | with_reducible exact sk_F_isNumber | with_reducible exact sk_F_isNext | with_reducible exact sk_F_push | with_reducible exact sk_F_lead | with_reducible exact sk_F_here | with_reducible exact sk_F_kind | with_reducible exact sk_F_isKind | with_reducible exact sk_F_own | with_reducible exact sk_F_constant | with_reducible exact sk_F_bounded | with_reducible exact sk_F_joined | with_reducible exact sk_F_strength | with_reducible exact sk_F_leadAll | with_reducible exact sk_F_loop | with_reducible exact sk_F_label | with_reducible exact sk_F_leaves | with_reducible exact sk_F_telling | with_reducible exact sk_F_local | with_reducible exact sk_F_addSlot | with_reducible exact sk_F_addVariable | with_reducible exact sk_F_isTooWide | with_reducible exact sk_F_named | with_reducible exact sk_F_slotOf | with_reducible exact sk_F_bad | with_reducible exact sk_G_expression | with_reducible exact sk_G_spot | with_reducible exact sk_G_body | with_reducible exact sk_G_stat | (with_reducible refine sk_B_use_68 ?_ <;> assumption) | with_reducible exact sk_LP_use_68 _ _ | with_reducible exact sk_B_use_40 | with_reducible exact sk_B_use_0 | with_reducible exact sk_F_use | (with_reducible refine sk_B_instance_158 ?_ <;> assumption) | (with_reducible refine sk_B_instance_153 ?_ <;> assumption) | with_reducible exact sk_B_instance_303 | with_reducible exact sk_B_instance_165 | (with_reducible refine sk_B_instance_50 ?_ <;> assumption) | with_reducible exact sk_LP_instance_50 _ _ | with_reducible exact sk_B_instance_43 | with_reducible exact sk_B_instance_0 | with_reducible exact sk_F_instance))
end Ui
