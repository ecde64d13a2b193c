/-! The second pass: Items. A routine begins; blocks and functions, both. -/
section Ro
variable {v w : CSt} {u x y : RSt} {q s T G n i j o l N r K F P m b R k0 sn : Nat} {e : E5} {c : R5} {kd kr f so wc wh : Int32} {ty : Nat → Int32} {H : Int64} {t : Int32}
theorem IT_open (hI : IT v u q s n i o T G) (hT : T < 160) (hso : (so = 3 ∧ sn = 3 ∧ R = 36 ∧ b = 24 * s + k0 ∧ k0 < 8 ∧ wh = 2 ∧ (u.2.2.1 36 s).toInt = (k0 : Int)) ∨ (so = 4 ∧ sn = 4 ∧ R = 37 ∧ b = 24 * s + 8 + k0 ∧ k0 < 16 ∧ wh = 3 ∧ (u.2.2.1 37 s).toInt = (k0 : Int) ∧ KD kd ∧ kr = kd)) (hnr : NmR (cB v 205 i) (cA v 206 i) (u.2.2.2 6 i) (u.2.2.2 7 i)) (f1 : ∀ y, y < T → gl v (169 * q + y) → ¬ (mL v (169 * q + y) 0 = cB v 205 i ∧ mI v (169 * q + y) 1 = cA v 206 i)) (f2 : ∀ j, j < 8 → ¬ (cA v 206 i = 0 ∧ cB v 205 i = mL v (169 * q + (160 + j)) 0)) (hN : NGc v w q T so sn k0 (cB v 205 i) (cA v 206 i)) (hX : TLr u x G so (pA v q 9 sn) i) (hwc : wc.toInt = (b : Int)) (hP : PTr x y b i R wh wc kr) (hC : CE w w (i + 1) 0 (eC v)) (hr : RE x x i o 0 c) : IT (xpI (xmI w (169 * q + T) 5 kd) q 15 (mI (xmI w (169 * q + T) 5 kd) (169 * q + T) 3)) (sI y 65 (y.1 65 + 1)) q s n (i + 1) o (T + 1) (G + 1) ∧ (∃ F, OPN (xpI (xmI w (169 * q + T) 5 kd) q 15 (mI (xmI w (169 * q + T) 5 kd) (169 * q + T) 3)) (sI y 65 (y.1 65 + 1)) q s (T + 1) T 0 F 0) := by
  have e1 : (1 : Int32).toInt = 1 := by decide
  have e0 : (0 : Int32).toInt = 0 := by decide
  obtain ⟨hV, h, h', h16, hTR, hT2⟩ := hI
  obtain ⟨t1, t2, t3, t4, t5, t5', t6, t7, t8, t9, t10, t11, t12, t13, t14, t15, t16, t17⟩ := id hTR
  obtain ⟨s1, s2, s3, s4, s5, s6, s7⟩ := id hT2
  obtain ⟨c0, c1, c2, c3, c4, c5, c6, c7, c8, c9, c10⟩ := id s2
  have tkw := NGc_tk hN
  obtain ⟨n1, n2, n3, n4, n5, n6, n7, n8, n9, n10, n11, n12, n13, n14⟩ := id hN
  obtain ⟨g1, g2, g3, g4, g5, g6, g7, g8, g9, g10, g11, g12⟩ := n12
  obtain ⟨p1, p2, p3, p4, p5⟩ := n7
  obtain ⟨l1, l2, l3, l4, l5, l6, l7, l8, l9, l10, l11⟩ := id hX
  obtain ⟨q1, q2, q3, q4, q5, q6, q7, q8, q9, q10, q11, q12, q13, q14, q15, q16⟩ := hP
  have hs4 : sn ≤ 4 := by rcases hso with z | z <;> omega
  -- the class
  have mT : ∀ k, ¬ k = 5 → mI (xpI (xmI w (169 * q + T) 5 kd) q 15 (mI (xmI w (169 * q + T) 5 kd) (169 * q + T) 3)) (169 * q + T) k = mI w (169 * q + T) k := fun k hk => mI_ne (Or.inr hk)
  have m5 : mI (xpI (xmI w (169 * q + T) 5 kd) q 15 (mI (xmI w (169 * q + T) 5 kd) (169 * q + T) 3)) (169 * q + T) 5 = kd := mI_eq
  have hc : ∀ y, ¬ y = T → CNa v (xpI (xmI w (169 * q + T) 5 kd) q 15 (mI (xmI w (169 * q + T) 5 kd) (169 * q + T) 3)) q y := fun y hy => ⟨fun k hk => (mI_ne (Or.inl (by omega))).trans (n10 _ k (by omega)), fun k => n11 _ k (by omega)⟩
  have i3 : mI (xmI w (169 * q + T) 5 kd) (169 * q + T) 3 = pI v q 12 := (mI_ne (Or.inr (by decide))).trans n13
  have w12 : pI (xpI (xmI w (169 * q + T) 5 kd) q 15 (mI (xmI w (169 * q + T) 5 kd) (169 * q + T) 3)) q 12 = pI w q 12 := pI_ne (Or.inr (by decide))
  have w15 : pI (xpI (xmI w (169 * q + T) 5 kd) q 15 (mI (xmI w (169 * q + T) 5 kd) (169 * q + T) 3)) q 15 = pI v q 12 := pI_eq.trans i3
  have wA : ∀ k, pA (xpI (xmI w (169 * q + T) 5 kd) q 15 (mI (xmI w (169 * q + T) 5 kd) (169 * q + T) 3)) q k = pA w q k := fun _ => rfl
  have wI : ∀ k, cI (xpI (xmI w (169 * q + T) 5 kd) q 15 (mI (xmI w (169 * q + T) 5 kd) (169 * q + T) 3)) k = cI w k := fun _ => rfl
  have wAA : ∀ k, cA (xpI (xmI w (169 * q + T) 5 kd) q 15 (mI (xmI w (169 * q + T) 5 kd) (169 * q + T) 3)) k = cA w k := fun _ => rfl
  have wR : ∀ k, cR (xpI (xmI w (169 * q + T) 5 kd) q 15 (mI (xmI w (169 * q + T) 5 kd) (169 * q + T) 3)) k = cR v k := fun k => by
    show w.2.2.2.2.2.2.2.2.2.2 k = v.2.2.2.2.2.2.2.2.2.2 k
    rw [n9]
  have wt : (xpI (xmI w (169 * q + T) 5 kd) q 15 (mI (xmI w (169 * q + T) 5 kd) (169 * q + T) 3)).2.2.2.2.2.2.2.1 = v.2.2.2.2.2.2.2.1 := n8
  have wL : mL (xpI (xmI w (169 * q + T) 5 kd) q 15 (mI (xmI w (169 * q + T) 5 kd) (169 * q + T) 3)) (169 * q + T) 0 = cB v 205 i := g1
  have tk3 : tkC w (xpI (xmI w (169 * q + T) 5 kd) q 15 (mI (xmI w (169 * q + T) 5 kd) (169 * q + T) 3)) := ⟨rfl, rfl, rfl, rfl, rfl, rfl, rfl, rfl⟩
  have hC3 : CE (xpI (xmI w (169 * q + T) 5 kd) q 15 (mI (xmI w (169 * q + T) 5 kd) (169 * q + T) 3)) (xpI (xmI w (169 * q + T) 5 kd) q 15 (mI (xmI w (169 * q + T) 5 kd) (169 * q + T) 3)) (i + 1) 0 (eC (xpI (xmI w (169 * q + T) 5 kd) q 15 (mI (xmI w (169 * q + T) 5 kd) (169 * q + T) 3))) := ⟨cfr_rf, hC.2.1, hC.2.2.1, rfl⟩
  have e16 : cI w 16 = 0 := by
    have : (eC w).1 = (eC v).1 := by rw [hC.2.2.2]
    exact this.trans h16
  generalize xpI (xmI w (169 * q + T) 5 kd) q 15 (mI (xmI w (169 * q + T) 5 kd) (169 * q + T) 3) = w3 at mT m5 hc w12 w15 wA wI wAA wR wt wL tk3 hC3 ⊢
  -- the reference
  have x56 : x.1 56 = u.1 56 := l1 56 (by decide)
  have nx56 : (x.1 56).toNatClampNeg = s := by rw [x56]; exact n_of t6
  rw [nx56] at q4 q12 q16
  have Fp : FX [65, 70, 71, 72, 73, 74] [28, 29, 30, 31, 33, 36, 37] [34, 35] x (sI y 65 (y.1 65 + 1)) := by
    have z : FX [65, 70, 71, 72, 73, 74] [28, 29, 30, 31, 33, 36, 37] [34, 35] x y := by
      refine ⟨fun k hk => q1 k (fun z => hk (List.mem_cons_of_mem _ z)), fun k hk => q7 k (fun z => hk ?_), q8⟩
      simp only [List.mem_cons, List.not_mem_nil, or_false] at z ⊢
      rcases hso with y | y <;> omega
    exact z.si (by decide)
  have F1 : FX [61, 62, 65, 70, 71, 72, 73, 74] [28, 29, 30, 31, 33, 36, 37, 59, 60] [34, 35, 57, 58] u (sI y 65 (y.1 65 + 1)) := by
    refine FX.tr (FX.mo (TLr_fx hX) ?_ ?_ ?_) (FX.mo Fp ?_ ?_ ?_) <;> decide
  have y1 : ∀ k, ¬ k = 65 → (sI y 65 (y.1 65 + 1)).1 k = y.1 k := fun k hk => by rw [sI_1, if_neg hk]
  have y65 : ((sI y 65 (y.1 65 + 1)).1 65).toInt = (i + 1 : Nat) := by
    show (y.1 65 + 1).toInt = _
    have := hr.2.2.1
    have hn2 := hV.2.1.2.2
    have c5 := hC.2.1
    have c6 := Int32.toInt_lt (cI w 5)
    rw [q1 65 (by decide), tI_add (by omega) (by omega), e1, this]
    omega
  have yA : ∀ k, (sI y 65 (y.1 65 + 1)).2.2.1 k = y.2.2.1 k := fun _ => rfl
  have yB : ∀ k, (sI y 65 (y.1 65 + 1)).2.2.2 k = y.2.2.2 k := fun _ => rfl
  generalize sI y 65 (y.1 65 + 1) = z at Fp F1 y1 y65 yA yB ⊢
  have x27 : x.2.2.1 27 = u.2.2.1 27 := l3 27 (by decide)
  have rb : RBx u z s := by
    have old : ∀ k, ¬ k = b → ∀ c, c ∈ [28, 29, 30, 31, 33] → z.2.2.1 c k = u.2.2.1 c k := by
      intro k hk c hcc
      rw [yA]
      simp only [List.mem_cons, List.not_mem_nil, or_false] at hcc
      rcases hcc with y | y | y | y | y
      · rw [y, q12]; unfold upd; rw [if_neg hk, l3 28 (by decide)]
      · rw [y, q13]; unfold upd; rw [if_neg hk, l3 29 (by decide)]
      · rw [y, q14]; unfold upd; rw [if_neg hk, l3 30 (by decide)]
      · rw [y, q15]; unfold upd; rw [if_neg hk, l3 31 (by decide)]
      · rw [y, q11]; unfold upd; rw [if_neg hk, l3 33 (by decide)]
    rcases hso with ⟨z1, z2, z3, z4, z5, z6, z7⟩ | ⟨z1, z2, z3, z4, z5, z6, z7, z8, z9⟩
    · subst z3
      have r36 : (z.2.2.1 36 s).toInt = (k0 + 1 : Nat) := by
        rw [yA, q16, l3 36 (by decide)]
        unfold upd
        rw [if_pos rfl, tI_add (by omega) (by omega), e1, z7]
        omega
      have r37 : z.2.2.1 37 = u.2.2.1 37 := by rw [yA, q7 37 (by decide), l3 37 (by decide)]
      exact ⟨by omega, by rw [r37]; exact Int.le_refl _, fun k hk => old _ (by omega), fun k hk => old _ (by omega)⟩
    · subst z3
      have r37 : (z.2.2.1 37 s).toInt = (k0 + 1 : Nat) := by
        rw [yA, q16, l3 37 (by decide)]
        unfold upd
        rw [if_pos rfl, tI_add (by omega) (by omega), e1, z7]
        omega
      have r36 : z.2.2.1 36 = u.2.2.1 36 := by rw [yA, q7 36 (by decide), l3 36 (by decide)]
      exact ⟨by rw [r36]; exact Int.le_refl _, by omega, fun k hk => old _ (by omega), fun k hk => old _ (by omega)⟩
  have rn : RNx u z s := by
    have old : ∀ k, ¬ k = b → ∀ c, c ∈ [34, 35] → z.2.2.2 c k = u.2.2.2 c k := by
      intro k hk c hcc
      rw [yB]
      simp only [List.mem_cons, List.not_mem_nil, or_false] at hcc
      rcases hcc with y | y
      · rw [y, q9]; unfold vp_updL; rw [if_neg hk, l4 34 (by decide)]
      · rw [y, q10]; unfold vp_updL; rw [if_neg hk, l4 35 (by decide)]
    refine ⟨rb.1, rb.2.1, fun k hk => old _ ?_, fun k hk => old _ ?_⟩
    · rcases hso with ⟨z1, z2, z3, z4, z5, z6, z7⟩ | ⟨z1, z2, z3, z4, z5, z6, z7, z8, z9⟩ <;> omega
    · rcases hso with ⟨z1, z2, z3, z4, z5, z6, z7⟩ | ⟨z1, z2, z3, z4, z5, z6, z7, z8, z9⟩ <;> omega
  have rg : RGx u z G := by
    intro k hk
    obtain ⟨b1, b2, b3, b4⟩ := l5 k hk
    rw [Fp.2.2 57 (by decide), Fp.2.2 58 (by decide), Fp.2.1 59 (by decide), Fp.2.1 60 (by decide)]
    exact ⟨b1, b2, b3, b4⟩
  have rv : RVx u z s := RVx_f F1 (by decide) (by decide)
  have rk : RKx u z s := RKx_f F1 (by decide) (by decide)
  have n2' : mI w3 (169 * q + T) 2 = so := by rw [mT 2 (by decide)]; exact g4
  have n4' : (mI w3 (169 * q + T) 4).toInt = (k0 : Int) := by rw [mT 4 (by decide), n14]; exact p1
  have nn4 := n_of n4'
  have n1' : mI w3 (169 * q + T) 1 = cA v 206 i := by rw [mT 1 (by decide)]; exact g3
  have n3' : mI w3 (169 * q + T) 3 = pI v q 12 := by rw [mT 3 (by decide)]; exact n13
  have s34 : so = 3 ∨ so = 4 := by rcases hso with z | z; exact Or.inl z.1; exact Or.inr z.1
  have hgl : gl w3 (169 * q + T) := by
    unfold gl
    rw [n2']
    rcases s34 with z | z <;> (rw [z]; decide)
  have eb : bk w3 (169 * q + T) s = b := by
    rcases hso with ⟨z1, z2, z3, z4, z5, z6, z7⟩ | ⟨z1, z2, z3, z4, z5, z6, z7, z8, z9⟩
    · rw [bk_3 (by rw [n2']; exact z1), nn4, z4]
    · rw [bk_4 (by rw [n2']; exact z1), nn4, z4]
  have nos : ∀ a : Int32, a = 0 ∨ a = 1 ∨ a = 2 → ¬ mI w3 (169 * q + T) 2 = a := by
    intro a ha z
    rw [n2'] at z
    rcases s34 with y | y <;> rw [y] at z <;> rcases ha with ha | ha | ha <;> (rw [ha] at z; exact absurd z (by decide))
  have k27 : (u.2.2.1 27 s).toInt = ((u.2.2.1 27 s).toInt.toNat : Nat) := by omega
  have z27 : z.2.2.1 27 = u.2.2.1 27 := F1.2.1 27 (by decide)
  have rr : RRr w3 z q s (T + 1) T 0 (u.2.2.1 27 s).toInt.toNat 0 := by
    refine ⟨by omega, ?_, fun z => ?_, ?_, by omega, ?_, ?_, ?_, ?_, ?_, ?_, by omega, by omega, ?_, fun z => ?_, fun j hj => absurd hj (Nat.not_lt_zero _), fun j j' hj => absurd hj (Nat.not_lt_zero _)⟩
    · rcases hso with ⟨z1, z2, z3, z4, z5, z6, z7⟩ | ⟨z1, z2, z3, z4, z5, z6, z7, z8, z9⟩ <;> omega
    · rcases hso with ⟨z1, z2, z3, z4, z5, z6, z7⟩ | ⟨z1, z2, z3, z4, z5, z6, z7, z8, z9⟩
      · omega
      · rw [n2', z1] at z
        exact absurd z (by decide)
    · rw [mT 12 (by decide), g11]; rfl
    · rw [eb, yA, q12, x27]
      unfold upd
      rw [if_pos rfl]
      exact k27
    · rw [eb, yA, q13]
      unfold upd
      rw [if_pos rfl]
      rfl
    · rw [z27]
      omega
    · rw [z27]
      omega
    · rw [eb, yA, q14, mT 11 (by decide), g10]
      unfold upd
      rw [if_pos rfl]
    · rw [mT 11 (by decide), g10]; rfl
    · rw [eb, yA, q15, mT 7 (by decide), g7]
      unfold upd
      rw [if_pos rfl]
    · rcases hso with ⟨z1, z2, z3, z4, z5, z6, z7⟩ | ⟨z1, z2, z3, z4, z5, z6, z7, z8, z9⟩
      · rw [n2', z1] at z
        exact absurd z (by decide)
      · rw [m5, eb, yA, q11]
        unfold upd
        rw [if_pos rfl]
        exact ⟨z8, z9.symm⟩
  have cnt3 : (mI w3 (169 * q + T) 2 = 3 → (mI w3 (169 * q + T) 4).toInt < (z.2.2.1 36 s).toInt) ∧ (mI w3 (169 * q + T) 2 = 4 → (mI w3 (169 * q + T) 4).toInt < (z.2.2.1 37 s).toInt) := by
    rcases hso with ⟨z1, z2, z3, z4, z5, z6, z7⟩ | ⟨z1, z2, z3, z4, z5, z6, z7, z8, z9⟩
    · refine ⟨fun _ => ?_, fun y => by rw [n2', z1] at y; exact absurd y (by decide)⟩
      subst z3
      rw [yA, q16, l3 36 (by decide)]
      unfold upd
      rw [if_pos rfl, tI_add (by omega) (by omega), e1, n4']
      omega
    · refine ⟨fun y => by rw [n2', z1] at y; exact absurd y (by decide), fun _ => ?_⟩
      subst z3
      rw [yA, q16, l3 37 (by decide)]
      unfold upd
      rw [if_pos rfl, tI_add (by omega) (by omega), e1, n4']
      omega
  have tr : TR w3 z q s (T + 1) (G + 1) := by
    refine TR_new hTR hT hc (by rw [w12]; exact n5) ?_ ?_ (F1.1 56 (by decide)) (wR 2) (wR 3) (by rw [n3']; exact t1) (by rw [n2']; rcases s34 with z | z <;> (rw [z]; decide)) hgl (by omega) ⟨?_, ?_, ?_⟩ ?_ ?_ rg rv (RSx_f F1 (by decide) (by decide) (by omega)) rb (RIx_f F1 (by decide) (by decide)) (fun z => absurd z (nos 0 (Or.inl rfl))) (fun _ => ⟨0, _, 0, rr, cnt3.1, cnt3.2⟩) (fun z => absurd z (nos 1 (Or.inr (Or.inl rfl))))
    · rw [Fp.1 62 (by decide), l11, w12, n6, t3]
    · rw [Fp.1 61 (by decide)]; exact l10
    · unfold rN
      rw [wL, n1', Fp.2.2 57 (by decide), Fp.2.2 58 (by decide), l8, l9]
      exact hnr
    · rw [Fp.2.1 59 (by decide), l6, n2']
    · rw [Fp.2.1 60 (by decide), l7, mT 4 (by decide), n14]
    · rw [wL, n1']; exact f1
    · rw [wL, n1']; exact f2
  have px : PAx v w3 q sn k0 T := ⟨p1, by rw [wA]; exact p2, fun p hp hn => by rw [wA]; exact p3 p hp hn, by rw [wA]; exact p4, fun p k hp hn => by rw [wA]; exact p5 p k hp hn⟩
  have cnt : CTN w3 z q s (T + 1) := by
    have z19 : z.2.2.1 19 = u.2.2.1 19 := F1.2.1 19 (by decide)
    have z42 : z.2.2.1 42 = u.2.2.1 42 := F1.2.1 42 (by decide)
    have z48 : z.2.2.1 48 = u.2.2.1 48 := F1.2.1 48 (by decide)
    unfold CTN
    rw [z19, z42, z48, z27]
    rcases hso with ⟨z1, z2, z3, z4, z5, z6, z7⟩ | ⟨z1, z2, z3, z4, z5, z6, z7, z8, z9⟩
    · subst z2 z3
      have r36 : (z.2.2.1 36 s).toInt = (k0 + 1 : Nat) := by
        rw [yA, q16, l3 36 (by decide)]
        unfold upd
        rw [if_pos rfl, tI_add (by omega) (by omega), e1, z7]
        omega
      have r37 : z.2.2.1 37 = u.2.2.1 37 := by rw [yA, q7 37 (by decide), l3 37 (by decide)]
      rw [r37]
      refine ⟨?_, ?_, ?_, tI_eq.mpr (by rw [px.2.1, r36]), ?_, ⟨c5.1, by omega⟩, c6, c7, ⟨by omega, by omega⟩, c9, c10.1, by omega⟩
      · rw [px.2.2.1 0 (by decide) (by decide)]; exact c0
      · rw [px.2.2.1 1 (by decide) (by decide)]; exact c1
      · rw [px.2.2.1 2 (by decide) (by decide)]; exact c2
      · rw [px.2.2.1 4 (by decide) (by decide)]; exact c4
    · subst z2 z3
      have r37 : (z.2.2.1 37 s).toInt = (k0 + 1 : Nat) := by
        rw [yA, q16, l3 37 (by decide)]
        unfold upd
        rw [if_pos rfl, tI_add (by omega) (by omega), e1, z7]
        omega
      have r36 : z.2.2.1 36 = u.2.2.1 36 := by rw [yA, q7 36 (by decide), l3 36 (by decide)]
      rw [r36]
      refine ⟨?_, ?_, ?_, ?_, tI_eq.mpr (by rw [px.2.1, r37]), ⟨c5.1, by omega⟩, c6, c7, c8, ⟨by omega, by omega⟩, c10.1, by omega⟩
      · rw [px.2.2.1 0 (by decide) (by decide)]; exact c0
      · rw [px.2.2.1 1 (by decide) (by decide)]; exact c1
      · rw [px.2.2.1 2 (by decide) (by decide)]; exact c2
      · rw [px.2.2.1 3 (by decide) (by decide)]; exact c3
  have num : NUM w3 z := by
    unfold NUM
    rw [wAA, wI, n2 228 (by decide), n1 12 (by decide), F1.2.1 64 (by decide), F1.1 63 (by decide)]
    exact s3
  have hw12 : (cI v 12).toInt ≤ (cI w3 12).toInt := by rw [wI, n1 12 (by decide)]; exact Int.le_refl _
  have nF : TRf1 w3 z q s T := by
    refine ⟨fun z => absurd z (nos 2 (Or.inr (Or.inr rfl))), fun y => ⟨cnt3.1 y, ?_⟩, fun y => ⟨cnt3.2 y, ?_⟩⟩
    · have e2 : 24 * s + (mI w3 (169 * q + T) 4).toNatClampNeg = b := by rw [← eb, bk_3 y]
      unfold rN
      rw [e2, wL, n1', yB, yB, q9, q10, l4 6 (by decide), l4 7 (by decide)]
      unfold vp_updL
      rw [if_pos rfl, if_pos rfl]
      exact hnr
    · have e2 : 24 * s + 8 + (mI w3 (169 * q + T) 4).toNatClampNeg = b := by rw [← eb, bk_4 y]
      unfold rN
      rw [e2, wL, n1', yB, yB, q9, q10, l4 6 (by decide), l4 7 (by decide)]
      unfold vp_updL
      rw [if_pos rfl, if_pos rfl]
      exact hnr
  have sn' : (mI w3 (169 * q + T) 2).toInt = (sn : Int) := by
    rw [n2']
    rcases hso with ⟨z1, z2, -⟩ | ⟨z1, z2, -⟩ <;> (rw [z1, z2]; decide)
  have tr2 : TR2 w3 z q s (T + 1) := TR2_new hTR hT2 hc px hs4 sn' n4' rv rk rn cnt num hw12 (fun z => absurd z (nos 0 (Or.inl rfl))) nF (TRk_c s6 wt rk (by rw [F1.2.1 48 (by decide)])) (fun _ K hK => by
    rw [mT 12 (by decide), g11] at hK
    have eK : K = 0 := by omega
    rw [eK]
    exact ⟨fun _ => 0, rfl, by rw [mT 7 (by decide), g7]; rfl, (by show (0 : Int) ≤ 100; decide), fun j hj => absurd hj (Nat.not_lt_zero _)⟩)
  refine ⟨⟨hV.tr (tkC_tr tkw tk3) ⟨F1.2.1 2 (by decide), F1.2.1 3 (by decide), F1.2.1 5 (by decide), F1.2.2 4 (by decide), F1.2.2 6 (by decide), F1.2.2 7 (by decide), F1.1 69 (by decide)⟩, hC3, ⟨rfr_rf, ?_, y65, ?_, ?_, rfl⟩, by rw [wI]; exact e16, tr, tr2⟩, (u.2.2.1 27 s).toInt.toNat, by omega, by rw [w15]; exact t1, by rw [n2']; exact s34, rr, by omega, ?_, by rw [z27]; omega, ?_, ?_, ?_, ?_⟩
  · rw [y1 67 (by decide), q1 67 (by decide)]; exact hr.2.1
  · rw [y1 66 (by decide), q1 66 (by decide)]; exact hr.2.2.2.1
  · rw [y1 74 (by decide), q6]; rfl
  · rw [y1 72 (by decide), q4, x27]; exact k27
  · rw [y1 70 (by decide), q2]
    rcases hso with ⟨z1, z2, z3, z4, z5, z6, z7⟩ | ⟨z1, z2, z3, z4, z5, z6, z7, z8, z9⟩ <;> (rw [z6]; decide)
  · rw [n2', y1 70 (by decide), q2]
    rcases hso with ⟨z1, z2, z3, z4, z5, z6, z7⟩ | ⟨z1, z2, z3, z4, z5, z6, z7, z8, z9⟩ <;> (rw [z1, z6]; decide)
  · rw [y1 71 (by decide), q3, eb]; exact hwc
  · rw [y1 73 (by decide), q5, mT 7 (by decide), g7]
/-- block, function: from its NAME on -/
theorem j_routine (hI : IG ty q s n 0 v u i) (hD : dRout ty i (.inr j)) (hi : i ≤ n) (hf : (so = 3 ∧ f = 0) ∨ (so = 4 ∧ f = 1 ∧ KD kd ∧ kr = kd)) : jx (F_X3_routine N so kd v) (B_part_22 N f kr u) (IQ ty q s n j 0) := by
  obtain ⟨T, G, hIT, hO, rfl⟩ := hI
  obtain ⟨hV, h, h', h16, hTR, hT2⟩ := id hIT
  obtain ⟨t1, t2, t3, t4, t5, t5', t6, t7, t8, t9, t10, t11, t12, t13, t14, t15, t16, t17⟩ := id hTR
  obtain ⟨s1, s2, s3, s4, s5, s6, s7⟩ := id hT2
  obtain ⟨c0, c1, c2, c3, c4, c5, c6, c7, c8, c9, c10⟩ := id s2
  obtain ⟨k1, p1, p2⟩ := oS_r hD
  obtain ⟨tt, rfl⟩ := oT_r p1
  obtain ⟨k2, p3, p4⟩ := oS_r p2
  obtain ⟨t40, -, rfl⟩ := oP_r p3
  have hil : i < n := hV.lt hi (by rw [tt]; exact nEnd (by decide) (by decide) (by decide))
  have hi1 : i + 1 < n := hV.lt (i := i + 1) hil (by rw [t40]; exact nEnd (by decide) (by decide) (by decide))
  have hj := hV.2.2.2.2.1
  have hn2 := hV.2.1.2.2
  have e8 : (8 : Int32).toInt = 8 := by decide
  have e16 : (16 : Int32).toInt = 16 := by decide
  have b3 : (bt_1.getD 3 0).toInt = 8 := by decide
  have b4 : (bt_1.getD 4 0).toInt = 16 := by decide
  have hff : (so = 3 ∧ f = 0) ∨ (so = 4 ∧ f = 1) := by rcases hf with z | z; exact Or.inl z; exact Or.inr ⟨z.1, z.2.1⟩
  -- behind the opening
  have rest : ∀ w y r, IP (tyF v) q s n 0 r w y (i + 1) → jx (bc (F_X9_next N w) fun _ u_41 => LP_X3_routine_32 N N (so, kd, 169 * q + T, 0, u_41)) (bn (F_begins N 223 y) fun _ u_32 => if (u_32.1 67) = (0 : Int32) then (bn (F_is N 224 u_32) fun r_35 u_34 => if r_35 = (0 : Int32) then (bn (F_parameter N u_34) fun _ u_37 => LP_part_338 N N (f, kr, u_37)) else (B_part_355 N f kr u_34)) else (B_part_355 N f kr u_32)) (IQ (tyF v) q s n j 0) := by
    intro w y r hP
    obtain ⟨hVw, hw, h0w, hy, htw⟩ := IL_b.1 w y (i + 1) hP.il
    have t40w : tyF w (i + 1) = 40 := by rw [htw]; exact t40
    refine k2_next hVw.1 hw hi1 (fun w2 g2 => ?_)
    refine jx_r (y_begins hVw.2.1 (t := 40) (by decide +kernel) hy hi1 t40w (by omega) (fun y2 r2 => ?_))
    have hP2 : IP (tyF v) q s n 1 r w2 y2 (i + 1 + 1) := IP_mv hP g2 h0w r2
    obtain ⟨hV2, hw2, h02, hy2, ht2⟩ := IL_b.1 w2 y2 (i + 1 + 1) hP2.il
    rw [if_pos r2.2.1]
    rcases oF_r p4 with ⟨z, q4⟩ | ⟨z, q4⟩
    · have z2 : tyF w2 (i + 1 + 1) = 41 := by rw [ht2]; exact z
      rcases oW_r q4 with ⟨-, q5⟩ | ⟨q5, -⟩
      · refine y_is hV2.2.1 (t := 41) (by decide +kernel) hy2 hi1 (fun _ => ?_) (fun y => absurd z2 y)
        rw [if_neg (by decide)]
        refine jx_l ?_
        have key : ∀ M, jx (LP_X3_routine_32 N M (so, kd, 169 * q + T, 0, w2)) (B_part_355 N f kr y2) (IQ (tyF v) q s n j 0) := by
          intro M
          cases M with
          | zero => exact jx_n1 rfl
          | succ M =>
            show jx (B_X3_routine_32 N (LP_X3_routine_32 N M) so kd (169 * q + T) 0 w2) _ _
            unfold B_X3_routine_32
            have fin := j_r62 (N := N) (kd := kd) (kr := kr) (m := 169 * q + T) hP2.il hff q5 hi1
            exact pq_if (fun _ => fin) (fun _ => k2_if hw2 (fun _ => fin) (fun y => absurd z2 y))
        exact key N
      · rw [z] at q5
        exact absurd q5 (by decide)
    · have z2 : ¬ tyF w2 (i + 1 + 1) = 41 := by rw [ht2]; exact z
      obtain ⟨k3, q5, d, q6⟩ := oS_r q4
      refine y_is hV2.2.1 (t := 41) (by decide +kernel) hy2 hi1 (fun y => absurd y z2) (fun _ => ?_)
      rw [if_pos rfl]
      refine jx_l ?_
      have hgt : i + 1 + 1 < k3 := pg_Par _ _ q5
      have tk : 12 ≤ tyF w2 (i + 1 + 1) ∧ tyF w2 (i + 1 + 1) ≤ 16 := by
        obtain ⟨k4, q7, -⟩ := oS_r q5
        rw [ht2]
        exact (oK_r q7).1
      have key : ∀ M, jx (LP_X3_routine_32 N M (so, kd, 169 * q + T, 0, w2)) (bn (F_parameter N y2) fun _ u_37 => LP_part_338 N N (f, kr, u_37)) (IQ (tyF v) q s n j 0) := by
        intro M
        cases M with
        | zero => exact jx_n1 rfl
        | succ M =>
          show jx (B_X3_routine_32 N (LP_X3_routine_32 N M) so kd (169 * q + T) 0 w2) _ _
          unfold B_X3_routine_32
          rw [if_neg (by decide)]
          refine k2_if hw2 (fun y => absurd y z2) (fun _ => ?_)
          unfold F_X3_parameter B_X3_parameter_0
          rw [bt_bc]
          refine k2_is hw2 (fun y => by rw [y] at tk; exact absurd tk.2 (by decide)) (fun _ => ?_)
          rw [if_pos rfl]
          refine jx_bt (j_par hP2 q5 hi1) ?_ (fun _ _ => sk_LP_part_338 _ _)
          rintro b w4 r4 x4 ⟨hI4, hk3⟩
          exact j_rparT hff d k3 j 1 w4 x4 M N q6 hI4 hk3 (by omega)
      exact key N
  unfold F_X3_routine B_X3_routine_0 B_part_22
  refine jx_r (y_is hV.2.1 (t := 128) (by decide +kernel) h' hi (fun _ => ?_) (fun y => absurd tt y))
  rw [if_neg (by decide)]
  have nr := (hV.2.2.1 i hil).2.2.2.2 tt
  rcases hf with ⟨z1, z2⟩ | ⟨z1, z2, z3, z4⟩
  · subst z1 z2
    have k36 : (u.2.2.1 36 s).toInt = ((u.2.2.1 36 s).toInt.toNat : Nat) := by omega
    rw [if_pos rfl]
    refine pp_rd ?_
    rw [n_of t6]
    unfold B_part_61 B_part_72 B_part_85
    rw [if_pos rfl, if_pos rfl]
    have main : ∀ l3 : Int32, (l3 = 0 ↔ ¬ u.2.2.1 36 s = 8) → jx (bt (F_X3_newName N 3 v) fun r_35 u_34 => ok (r_35 < 338) inferInstance <| pc (xmI u_34 r_35 5 kd) fun u_38 => ok (cR u_38 2 < 2) inferInstance <| pc (xpI u_38 (cR u_38 2) 15 (mI u_38 r_35 3)) fun u_40 => bc (F_X9_next N u_40) fun _ u_41 => LP_X3_routine_32 N N (3, kd, r_35, 0, u_41)) (B_part_93 N 0 kr (u.2.2.1 36 s) 3 (u.2.2.1 36 s) l3 u) (IQ (tyF v) q s n j 0) := by
      intro l3 hl3
      unfold B_part_93
      refine j_newG (so := 3) (sn := 3) (k0 := (u.2.2.1 36 s).toInt.toNat) hV hTR h h' hil tt (by decide) (by omega) (by rw [c3]; exact k36) (by omega) (fun _ => ?_) (fun w x hT hk f1 f2 hN hC hX => ?_) (fun _ _ => by repeat' (first | exact KP_some kp_rf | with_reducible refine KP_bn ?_ (fun _ _ => ?_) | with_reducible refine KP_if ?_ ?_ | with_reducible refine KP_rd (fun _ => ?_) | with_reducible refine KP_zr ?_ | (with_reducible refine KP_pu2 ?_ ?_; first | exact ks_sI (by decide) kp_rf | exact ks_sL kp_rf | exact ks_sA (by decide) kp_rf | exact ks_sB (by decide) kp_rf) | (with_reducible refine KP_wr2 ?_ ?_; first | exact ks_sA (by decide) kp_rf | exact ks_sB (by decide) kp_rf) | with_reducible exact h_ro _ _ _ _ | with_reducible exact sk_F_is | with_reducible exact sk_F_take | with_reducible exact sk_F_emit | with_reducible exact sk_F_wrong | with_reducible exact sk_F_cost | with_reducible exact sk_F_stuck | with_reducible exact sk_F_ends | with_reducible exact sk_F_begins | with_reducible exact sk_F_opens | with_reducible exact sk_F_has | with_reducible exact sk_F_isNumber | with_reducible exact sk_F_isNext | with_reducible exact sk_F_push | with_reducible exact sk_F_lead | with_reducible exact sk_F_here | with_reducible exact sk_F_kind | with_reducible exact sk_F_isKind | with_reducible exact sk_F_own | with_reducible exact sk_F_constant | with_reducible exact sk_F_bounded | with_reducible exact sk_F_joined | with_reducible exact sk_F_strength | with_reducible exact sk_F_leadAll | with_reducible exact sk_F_loop | with_reducible exact sk_F_label | with_reducible exact sk_F_leaves | with_reducible exact sk_F_telling | with_reducible exact sk_F_local | with_reducible exact sk_F_addSlot | with_reducible exact sk_F_addVariable | with_reducible exact sk_F_isTooWide | with_reducible exact sk_F_named | with_reducible exact sk_F_slotOf | with_reducible exact sk_F_bad | with_reducible exact sk_G_expression | with_reducible exact sk_G_spot | with_reducible exact sk_G_body | with_reducible exact sk_G_stat | with_reducible exact sk_B_part_438 | (with_reducible refine sk_B_part_414 ?_ <;> assumption) | with_reducible exact sk_LP_part_414 _ _ | (with_reducible refine sk_B_part_396 ?_ <;> assumption) | with_reducible exact sk_LP_part_396 _ _ | with_reducible exact sk_B_part_355 | (with_reducible refine sk_B_part_338 ?_ <;> assumption) | with_reducible exact sk_LP_part_338 _ _ | with_reducible exact sk_B_part_300 | with_reducible exact sk_B_part_138 | with_reducible exact sk_B_part_125 | with_reducible exact sk_B_part_93 | with_reducible exact sk_B_part_85 | with_reducible exact sk_B_part_72 | with_reducible exact sk_B_part_61 | with_reducible exact sk_B_part_22 | with_reducible exact sk_B_part_0 | with_reducible exact sk_F_part))
      · rw [hl3, b3, tI_eq, e8]
        omega
      · rw [b3] at hk
        refine pq_ok (fun _ => pq_pc ?_)
        have x69 : ¬ x.1 69 = 0 := by rw [hX.1 69 (by decide)]; exact hj
        have wR2 : cR (xmI w (169 * q + T) 5 kd) 2 = q := by
          show w.2.2.2.2.2.2.2.2.2.2 2 = q
          rw [hN.2.2.2.2.2.2.2.2.1]
          exact t9
        rw [wR2]
        refine pq_ok (fun _ => pq_pc ?_)
        rw [if_pos rfl]
        have hwc : (24 * x.1 56 + u.2.2.1 36 s).toInt = (24 * s + (u.2.2.1 36 s).toInt.toNat : Nat) := (m24 (by rw [hX.1 56 (by decide)]; exact t6) t7 k36 (by omega)).1
        refine jx_r (y_part (TLr_re hX h') x69 (n_of hwc) (Or.inl ⟨rfl, rfl⟩) (fun y hP => ?_))
        unfold B_part_300
        refine pp_pu (jx_l ?_)
        obtain ⟨y1, F, y2⟩ := IT_open (kd := kd) hIT hT (Or.inl ⟨rfl, rfl, rfl, rfl, by omega, by rfl, k36⟩) nr f1 f2 hN (by rw [c3]; exact hX) hwc hP hC (TLr_re hX h')
        exact rest _ _ T ⟨T + 1, G + 1, 0, F, y1, y2, (by exact (tkC_ty (NGc_tk hN) : tyF w = tyF v))⟩
    by_cases y : u.2.2.1 36 s = 8
    · rw [if_pos y]
      exact jx_l (main 1 ⟨fun z => absurd z (by decide), fun z => absurd y z⟩)
    · rw [if_neg y]
      exact jx_l (main 0 ⟨fun _ => y, fun _ => rfl⟩)
  · subst z1 z2 z4
    have k37 : (u.2.2.1 37 s).toInt = ((u.2.2.1 37 s).toInt.toNat : Nat) := by omega
    rw [if_neg (by decide)]
    refine pp_rd ?_
    rw [n_of t6]
    unfold B_part_61 B_part_72 B_part_85
    rw [if_neg (by decide), if_neg (by decide)]
    have main : ∀ l3 : Int32, (l3 = 0 ↔ ¬ u.2.2.1 37 s = 16) → jx (bt (F_X3_newName N 4 v) fun r_35 u_34 => ok (r_35 < 338) inferInstance <| pc (xmI u_34 r_35 5 kr) fun u_38 => ok (cR u_38 2 < 2) inferInstance <| pc (xpI u_38 (cR u_38 2) 15 (mI u_38 r_35 3)) fun u_40 => bc (F_X9_next N u_40) fun _ u_41 => LP_X3_routine_32 N N (4, kr, r_35, 0, u_41)) (B_part_93 N 1 kr (u.2.2.1 37 s) 4 (u.2.2.1 37 s) l3 u) (IQ (tyF v) q s n j 0) := by
      intro l3 hl3
      unfold B_part_93
      refine j_newG (so := 4) (sn := 4) (k0 := (u.2.2.1 37 s).toInt.toNat) hV hTR h h' hil tt (by decide) (by omega) (by rw [c4]; exact k37) (by omega) (fun _ => ?_) (fun w x hT hk f1 f2 hN hC hX => ?_) (fun _ _ => by repeat' (first | exact KP_some kp_rf | with_reducible refine KP_bn ?_ (fun _ _ => ?_) | with_reducible refine KP_if ?_ ?_ | with_reducible refine KP_rd (fun _ => ?_) | with_reducible refine KP_zr ?_ | (with_reducible refine KP_pu2 ?_ ?_; first | exact ks_sI (by decide) kp_rf | exact ks_sL kp_rf | exact ks_sA (by decide) kp_rf | exact ks_sB (by decide) kp_rf) | (with_reducible refine KP_wr2 ?_ ?_; first | exact ks_sA (by decide) kp_rf | exact ks_sB (by decide) kp_rf) | with_reducible exact h_ro _ _ _ _ | with_reducible exact sk_F_is | with_reducible exact sk_F_take | with_reducible exact sk_F_emit | with_reducible exact sk_F_wrong | with_reducible exact sk_F_cost | with_reducible exact sk_F_stuck | with_reducible exact sk_F_ends | with_reducible exact sk_F_begins | with_reducible exact sk_F_opens | with_reducible exact sk_F_has | with_reducible exact sk_F_isNumber | with_reducible exact sk_F_isNext | with_reducible exact sk_F_push | with_reducible exact sk_F_lead | with_reducible exact sk_F_here | with_reducible exact sk_F_kind | with_reducible exact sk_F_isKind | with_reducible exact sk_F_own | with_reducible exact sk_F_constant | with_reducible exact sk_F_bounded | with_reducible exact sk_F_joined | with_reducible exact sk_F_strength | with_reducible exact sk_F_leadAll | with_reducible exact sk_F_loop | with_reducible exact sk_F_label | with_reducible exact sk_F_leaves | with_reducible exact sk_F_telling | with_reducible exact sk_F_local | with_reducible exact sk_F_addSlot | with_reducible exact sk_F_addVariable | with_reducible exact sk_F_isTooWide | with_reducible exact sk_F_named | with_reducible exact sk_F_slotOf | with_reducible exact sk_F_bad | with_reducible exact sk_G_expression | with_reducible exact sk_G_spot | with_reducible exact sk_G_body | with_reducible exact sk_G_stat | with_reducible exact sk_B_part_438 | (with_reducible refine sk_B_part_414 ?_ <;> assumption) | with_reducible exact sk_LP_part_414 _ _ | (with_reducible refine sk_B_part_396 ?_ <;> assumption) | with_reducible exact sk_LP_part_396 _ _ | with_reducible exact sk_B_part_355 | (with_reducible refine sk_B_part_338 ?_ <;> assumption) | with_reducible exact sk_LP_part_338 _ _ | with_reducible exact sk_B_part_300 | with_reducible exact sk_B_part_138 | with_reducible exact sk_B_part_125 | with_reducible exact sk_B_part_93 | with_reducible exact sk_B_part_85 | with_reducible exact sk_B_part_72 | with_reducible exact sk_B_part_61 | with_reducible exact sk_B_part_22 | with_reducible exact sk_B_part_0 | with_reducible exact sk_F_part))
      · rw [hl3, b4, tI_eq, e16]
        omega
      · rw [b4] at hk
        refine pq_ok (fun _ => pq_pc ?_)
        have x69 : ¬ x.1 69 = 0 := by rw [hX.1 69 (by decide)]; exact hj
        have wR2 : cR (xmI w (169 * q + T) 5 kr) 2 = q := by
          show w.2.2.2.2.2.2.2.2.2.2 2 = q
          rw [hN.2.2.2.2.2.2.2.2.1]
          exact t9
        rw [wR2]
        refine pq_ok (fun _ => pq_pc ?_)
        rw [if_neg (by decide)]
        have hwc : (24 * x.1 56 + 8 + u.2.2.1 37 s).toInt = (24 * s + 8 + (u.2.2.1 37 s).toInt.toNat : Nat) := (m24 (by rw [hX.1 56 (by decide)]; exact t6) t7 k37 (by omega)).2.2
        refine jx_r (y_part (TLr_re hX h') x69 (n_of hwc) (Or.inr ⟨rfl, rfl⟩) (fun y hP => ?_))
        unfold B_part_300
        refine pp_pu (jx_l ?_)
        obtain ⟨y1, F, y2⟩ := IT_open (kd := kr) hIT hT (Or.inr ⟨rfl, rfl, rfl, rfl, by omega, by rfl, k37, z3, rfl⟩) nr f1 f2 hN (by rw [c4]; exact hX) hwc hP hC (TLr_re hX h')
        exact rest _ _ T ⟨T + 1, G + 1, 0, F, y1, y2, (by exact (tkC_ty (NGc_tk hN) : tyF w = tyF v))⟩
    by_cases y : u.2.2.1 37 s = 16
    · rw [if_pos y]
      exact jx_l (main 1 ⟨fun z => absurd z (by decide), fun z => absurd y z⟩)
    · rw [if_neg y]
      exact jx_l (main 0 ⟨fun _ => y, fun _ => rfl⟩)
end Ro
