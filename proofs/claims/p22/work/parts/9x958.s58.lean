/-! The second pass: Items. Parameters and locals: both tables grow. -/
section Lq
variable {v w w2 w3 : CSt} {u x x2 x3 : RSt} {q s T G n i j o l N r K F P nm : Nat} {e : E5} {c : R5} {kd sz rw how p so d l1 : Int32} {fs H : Int64} {t : Int32}
theorem LCr_fx (h : LCr u x) : FX [62] [] [] u x := ⟨fun k hk => h.1 k (fun z => hk (by rw [z]; decide)), fun k _ => by rw [h.2.1], fun k _ => by rw [h.2.1]⟩
theorem LCr_tk (h : LCr u x) : tkR u x := ⟨by rw [h.2.1], by rw [h.2.1], by rw [h.2.1], by rw [h.2.1], by rw [h.2.1], by rw [h.2.1], h.1 69 (by decide)⟩
theorem LCr_re (h : LCr u x) (h' : RE u u i o l c) : RE x x i o l c := by
  obtain ⟨a1, a2, -⟩ := h
  obtain ⟨-, b1, b2, b3, b4, b5⟩ := h'
  refine ⟨rfr_rf, ?_, ?_, ?_, ?_, ?_⟩
  · rw [a1 67 (by decide)]; exact b1
  · rw [a1 65 (by decide)]; exact b2
  · rw [a1 66 (by decide)]; exact b3
  · rw [a1 74 (by decide)]; exact b4
  · rw [← b5]
    unfold eR
    rw [a1 78 (by decide), a1 80 (by decide), a1 81 (by decide), a2]
theorem ASr_fx (h : ASr u x nm kd sz rw fs) : FX [73] [20, 21, 22, 23, 27, 29, 31] [24, 25, 26] u x := ⟨fun k hk => h.1 k (fun z => hk (by rw [z]; decide)), h.2.2.1, h.2.2.2.1⟩
theorem ASr_at {y b : Nat} (h : ASr u x nm kd sz rw fs) (hs : (u.1 56).toInt = (s : Int)) (hs2 : s < 2) (h27 : (u.2.2.1 27 s).toInt = (y : Int)) (hy : y < 160) (hb : (u.1 71).toInt = (b : Int)) (hr : B01 rw) : RSx u x s ∧ (x.2.2.1 27 s).toInt = (y + 1 : Nat) ∧ x.2.2.1 20 (160 * s + y) = kd ∧ x.2.2.1 21 (160 * s + y) = sz ∧ x.2.2.1 22 (160 * s + y) = rw ∧ x.2.2.1 23 (160 * s + y) = u.1 73 ∧ x.2.2.2 24 (160 * s + y) = fs ∧ x.2.2.2 25 (160 * s + y) = u.2.2.2 6 nm ∧ x.2.2.2 26 (160 * s + y) = u.2.2.2 7 nm ∧ x.2.2.1 29 b = u.2.2.1 29 b + 1 ∧ x.2.2.1 31 b = u.1 73 + sz ∧ (∀ d, ¬ d = b → x.2.2.1 29 d = u.2.2.1 29 d ∧ x.2.2.1 31 d = u.2.2.1 31 d) := by
  obtain ⟨a1, a2, a3, a4, a5, a6, a7, a8, a9, a10, a11, a12, a13, a14⟩ := h
  have e1 : (1 : Int32).toInt = 1 := by decide
  have ns := n_of hs
  have nb := n_of hb
  have ni : (160 * u.1 56 + u.2.2.1 27 s).toNatClampNeg = 160 * s + y := n_of (m24 hs hs2 h27 (by omega)).2.1
  rw [ns] at a5 a6 a7 a8 a9 a10 a11 a12
  rw [ni] at a5 a6 a7 a8 a9 a10 a11
  rw [nb] at a13 a14
  rw [av_nar hr] at a7
  have x27 : (x.2.2.1 27 s).toInt = (y + 1 : Nat) := by
    rw [a12]
    unfold upd
    rw [if_pos rfl, tI_add (by omega) (by omega), e1, h27]
    omega
  refine ⟨⟨by omega, by omega, fun k hk => ?_⟩, x27, ?_, ?_, ?_, ?_, ?_, ?_, ?_, ?_, ?_, fun d hd => ?_⟩
  · have ne : ¬ 160 * s + k = 160 * s + y := by omega
    constructor
    · intro d hd
      simp only [List.mem_cons, List.not_mem_nil, or_false] at hd
      rcases hd with z | z | z | z
      · rw [z, a5]; unfold upd; rw [if_neg ne]
      · rw [z, a6]; unfold upd; rw [if_neg ne]
      · rw [z, a7]; unfold upd; rw [if_neg ne]
      · rw [z, a8]; unfold upd; rw [if_neg ne]
    · intro d hd
      simp only [List.mem_cons, List.not_mem_nil, or_false] at hd
      rcases hd with z | z | z
      · rw [z, a9]; unfold vp_updL; rw [if_neg ne]
      · rw [z, a10]; unfold vp_updL; rw [if_neg ne]
      · rw [z, a11]; unfold vp_updL; rw [if_neg ne]
  · rw [a5]; unfold upd; rw [if_pos rfl]
  · rw [a6]; unfold upd; rw [if_pos rfl]
  · rw [a7]; unfold upd; rw [if_pos rfl]
  · rw [a8]; unfold upd; rw [if_pos rfl]
  · rw [a9]; unfold vp_updL; rw [if_pos rfl]
  · rw [a10]; unfold vp_updL; rw [if_pos rfl]
  · rw [a11]; unfold vp_updL; rw [if_pos rfl]
  · rw [a13]; unfold upd; rw [if_pos rfl]
  · rw [a14]; unfold upd; rw [if_pos rfl]
  · rw [a13, a14]
    unfold upd
    rw [if_neg hd, if_neg hd]
    exact ⟨rfl, rfl⟩
/-- another routine: neither its names nor its slots are touched -/
theorem bk_ne {r' : Nat} (hs : TRs v q T) (hr : r < T) (hr' : r' < T) (h3 : mI v (169 * q + r) 2 = 3 ∨ mI v (169 * q + r) 2 = 4) (h3' : mI v (169 * q + r') 2 = 3 ∨ mI v (169 * q + r') 2 = 4) (hn : 0 ≤ (mI v (169 * q + r) 4).toInt) (hn' : 0 ≤ (mI v (169 * q + r') 4).toInt) (h7 : mI v (169 * q + r) 2 = 3 → (mI v (169 * q + r) 4).toInt ≤ 7) (h7' : mI v (169 * q + r') 2 = 3 → (mI v (169 * q + r') 4).toInt ≤ 7) (hne : ¬ r' = r) : ¬ bk v (169 * q + r') s = bk v (169 * q + r) s := by
  intro hb
  have g : gl v (169 * q + r) := by
    unfold gl
    rcases h3 with z | z <;> (rw [z]; decide)
  have g' : gl v (169 * q + r') := by
    unfold gl
    rcases h3' with z | z <;> (rw [z]; decide)
  have a := (hs.1 r hr g).2
  have a' := (hs.1 r' hr' g').2
  have n4 := nat4 hn
  have n4' := nat4 hn'
  rcases h3 with z | z <;> rcases h3' with z' | z'
  · rw [bk_3 z, bk_3 z'] at hb
    have en : (mI v (169 * q + r') 4).toNatClampNeg = (mI v (169 * q + r) 4).toNatClampNeg := by omega
    rw [z', en] at a'
    rw [z] at a
    omega
  · rw [bk_3 z] at hb
    rw [bk_4 z'] at hb
    have := h7 z
    omega
  · rw [bk_4 z] at hb
    rw [bk_3 z'] at hb
    have := h7' z'
    omega
  · rw [bk_4 z, bk_4 z'] at hb
    have en : (mI v (169 * q + r') 4).toNatClampNeg = (mI v (169 * q + r) 4).toNatClampNeg := by omega
    rw [z', en] at a'
    rw [z] at a
    omega
theorem IT_loc {x4 : RSt} {c4 : R5} {P' : Nat} (hI : IT v u q s n i o T G) (hO : OPN v u q s T r K F P) (hT : T < 160) (hso : (so = 5 ∧ P = K ∧ P < 6 ∧ P' = P + 1 ∧ d = 1) ∨ (so = 6 ∧ P' = P ∧ d = 0)) (hnr : NmR (cB v 205 nm) (cA v 206 nm) (u.2.2.2 6 nm) (u.2.2.2 7 nm)) (f1 : ∀ y, y < K → ¬ (mL v (169 * q + (r + 1 + y)) 0 = cB v 205 nm ∧ mI v (169 * q + (r + 1 + y)) 1 = cA v 206 nm)) (hN : NGl v w q T so (cB v 205 nm) (cA v 206 nm)) (hX : LCr u x) (hD : DCl w w2 (169 * q + T) how kd sz rw fs) (hr : rfr x x2) (hKD : KD kd) (hB : B01 rw) (hsz1 : 1 ≤ sz.toInt) (hsz2 : sz.toInt ≤ 200) (hle : mI v (169 * q + r) 7 + sz ≤ 100) (hJ : JNc w2 w3 (169 * q + T) (169 * q + r) d) (h16 : (eC w3).1 = 0) (hc3 : CE w3 w3 j 0 (eC w3)) (hA : ASr x2 x3 nm kd sz rw fs) (hx4 : FX [65] [30] [] x3 x4) (h30 : x4.2.2.1 30 (bk v (169 * q + r) s) = x3.2.2.1 30 (bk v (169 * q + r) s) + d) (h30' : ∀ y, ¬ y = bk v (169 * q + r) s → x4.2.2.1 30 y = x3.2.2.1 30 y) (hr4 : RE x4 x4 j o 0 c4) : IT w3 x4 q s n j o (T + 1) G ∧ OPN w3 x4 q s (T + 1) r (K + 1) F P' ∧ tyF w3 = tyF v := by
  have e1 : (1 : Int32).toInt = 1 := by decide
  have e0 : (0 : Int32).toInt = 0 := by decide
  obtain ⟨hV, h, h', h16', hTR, hT2⟩ := hI
  obtain ⟨t1, t2, t3, t4, t5, t5', t6, t7, t8, t9, t10, t11, t12, t13, t14, t15, t16, t17⟩ := id hTR
  obtain ⟨s1, s2, s3, s4, s5, s6, s7⟩ := id hT2
  obtain ⟨c0, c1, c2, c3, c4', c5, c6, c7, c8, c9, c10⟩ := id s2
  obtain ⟨o1, o2, o3, o4, o5, o6, o7, o8, o9, o10, o11⟩ := id hO
  obtain ⟨a1, a2, a3, a4, a5, a6, a7, a8, a9, a10, a11, a12, a13, a14, a15, a16, a17⟩ := id o4
  have tkw := tkC_tr (NGl_tk hN) (cfT_tk hD.1)
  obtain ⟨n1, n2, n3, n4, n5, n6, n7, n8, n9, n10, n11, n12, n13⟩ := hN
  obtain ⟨g1, g2, g3, g4, g5, g6, g7, g8, g9, g10, g11, g12⟩ := n12
  obtain ⟨⟨d1, d2, d3, d4, d5, d6, d7, d8, d9⟩, f6, f5, f7, f8, f10, fo, f0⟩ := hD
  obtain ⟨j1, j2, j3, j4, j5, j6, j7, j8, j9, j10, j11, j12, j13, j14, j15, j16⟩ := hJ
  have rT : ¬ r = T := by omega
  have ne : ∀ y, ¬ y = T → 169 * q + y ∉ [169 * q + T] := fun y hy z => hy (by have := List.mem_singleton.mp z; omega)
  -- names
  have m2 : ∀ y, ¬ y = T → ∀ k, mI w2 (169 * q + y) k = mI v (169 * q + y) k := fun y hy k => (d7 _ k (ne y hy)).trans (n10 _ k (by omega))
  have l2 : ∀ y, ¬ y = T → ∀ k, mL w2 (169 * q + y) k = mL v (169 * q + y) k := fun y hy k => (d8 _ k (ne y hy)).trans (n11 _ k (by omega))
  have hca : ∀ y, ¬ y = T → ¬ y = r → CNa v w3 q y := fun y hy hyr => ⟨fun k _ => (j9 _ k (by omega) (by omega)).trans (m2 y hy k), fun k => (j10 _ k).trans (l2 y hy k)⟩
  have hcx : CNx v w3 q T := by
    intro y hy
    refine ⟨fun k hk => ?_, fun k => (j10 _ k).trans (l2 y hy k)⟩
    by_cases z : y = r
    · rw [z, j13 k (fun y => hk (by simp only [List.mem_cons, List.not_mem_nil, or_false] at y ⊢; omega))]
      exact m2 r rT k
    · exact (hca y hy z).1 k (fun y => hk (by rw [y]; decide))
  have r7 : mI w3 (169 * q + r) 7 = mI v (169 * q + r) 7 + sz := by rw [j14, m2 r rT, f7]
  have r12 : mI w3 (169 * q + r) 12 = mI v (169 * q + r) 12 + 1 := by rw [j15, m2 r rT]
  have r11 : mI w3 (169 * q + r) 11 = mI v (169 * q + r) 11 + d := by rw [j16, m2 r rT]
  have T9 : mI w3 (169 * q + T) 9 = mI v (169 * q + r) 7 := by rw [j12, m2 r rT]
  have Tk : ∀ k, k ∉ [5, 6, 7, 8, 9] → mI w3 (169 * q + T) k = mI w (169 * q + T) k := fun k hk => by
    rw [j11 k (fun y => hk (by rw [y]; decide))]
    exact fo k (fun y => hk (by simp only [List.mem_cons, List.not_mem_nil, or_false] at y ⊢; omega))
  have T2 : mI w3 (169 * q + T) 2 = so := by rw [Tk 2 (by decide)]; exact g4
  have T1 : mI w3 (169 * q + T) 1 = cA v 206 nm := by rw [Tk 1 (by decide)]; exact g3
  have T3 : mI w3 (169 * q + T) 3 = pI v q 12 := by rw [Tk 3 (by decide)]; exact n13
  have T0 : mL w3 (169 * q + T) 0 = cB v 205 nm := by rw [j10, f0]; exact g1
  have so56 : so = 5 ∨ so = 6 := by rcases hso with z | z; exact Or.inl z.1; exact Or.inr z.1
  have ngl : ¬ gl w3 (169 * q + T) := by
    unfold gl
    rw [T2]
    rcases so56 with z | z <;> (rw [z]; decide)
  have no : ∀ a : Int32, a = 0 ∨ a = 1 ∨ a = 2 ∨ a = 3 ∨ a = 4 → ¬ mI w3 (169 * q + T) 2 = a := by
    intro a ha z
    rw [T2] at z
    rcases so56 with y | y <;> rw [y] at z <;> rcases ha with ha | ha | ha | ha | ha <;> (rw [ha] at z; exact absurd z (by decide))
  -- class's rows
  have p12 : pI w3 q 12 = pI v q 12 + 1 := by
    show w3.2.2.2.2.1 q 12 = _
    rw [j5]
    exact (d4 q 12 (by decide)).trans n6
  have p12i : (pI w3 q 12).toInt = (T + 1 : Nat) := by
    show (w3.2.2.2.2.1 q 12).toInt = _
    rw [j5]
    show (pI w2 q 12).toInt = _
    rw [d4 q 12 (by decide)]
    exact n5
  have p15 : pI w3 q 15 = pI v q 15 := by
    show w3.2.2.2.2.1 q 15 = _
    rw [j5]
    exact (d4 q 15 (by decide)).trans (n4 q 15 (by decide))
  have pA3 : ∀ k, k ∉ [11, 12, 13, 14] → pA w3 q k = pA v q k := fun k hk => by
    show w3.2.2.2.2.2.1 q k = _
    rw [j6]
    exact (d5 q k hk).trans (n7 q k hk)
  have cR3 : ∀ k, cR w3 k = cR v k := fun k => by
    show w3.2.2.2.2.2.2.2.2.2.2 k = v.2.2.2.2.2.2.2.2.2.2 k
    rw [j8, d9, n9]
  have c228 : cA w3 228 = cA v 228 := by
    show w3.2.2.1 228 = _
    rw [j3]
    exact (d2 228 (by decide)).trans (n2 228 (by decide))
  have c12 : cI w3 12 = cI v 12 := by
    show w3.1 12 = _
    rw [j1]
    exact (d1 12 (by decide)).trans (n1 12 (by decide))
  have tI3 : w3.2.2.2.2.2.2.2.1 = v.2.2.2.2.2.2.2.1 := j7.trans (d6.trans n8)
  -- the reference's rows
  have F2 : FX [62, 65, 66, 67, 68, 74, 78, 80, 81] [49, 50, 51, 54, 75, 76] [52, 53] u x2 := by
    refine FX.tr (FX.mo (LCr_fx hX) ?_ ?_ ?_) (FX.mo (FX_r hr) ?_ ?_ ?_) <;> decide
  have F4 : FX [62, 65, 66, 67, 68, 73, 74, 78, 80, 81] [20, 21, 22, 23, 27, 29, 30, 31, 49, 50, 51, 54, 75, 76] [24, 25, 26, 52, 53] u x4 := by
    refine FX.tr (FX.mo F2 ?_ ?_ ?_) (FX.tr (FX.mo (ASr_fx hA) ?_ ?_ ?_) (FX.mo hx4 ?_ ?_ ?_)) <;> decide
  obtain ⟨v1, v2, v3, v4, v5, v6, v7, v8, v9, v10, v11, v12⟩ := ASr_at hA (s := s) (y := F + K) (b := bk v (169 * q + r) s) (by rw [F2.1 56 (by decide)]; exact t6) t7 (by rw [F2.2.1 27 (by decide)]; exact o7) (by omega) (by rw [F2.1 71 (by decide)]; exact o10) hB
  have x73 : x2.1 73 = u.1 73 := F2.1 73 (by decide)
  have E4 : ∀ k, ¬ k = 30 → x4.2.2.1 k = x3.2.2.1 k := fun k hk => hx4.2.1 k (fun y => hk (List.mem_singleton.mp y))
  have E4' : ∀ k, x4.2.2.2 k = x3.2.2.2 k := fun k => hx4.2.2 k (fun y => by simp only [List.not_mem_nil] at y)
  have rs : RSx u x4 s := by
    obtain ⟨z1, z2, z3⟩ := v1
    rw [F2.2.1 27 (by decide)] at z1 z3
    refine ⟨by rw [E4 27 (by decide)]; exact z1, by rw [E4 27 (by decide)]; exact z2, fun k hk => ⟨fun y hy => ?_, fun y hy => ?_⟩⟩
    · rw [E4 y (fun z => by rw [z] at hy; exact absurd hy (by decide)), (z3 k hk).1 y hy, F2.2.1 y (fun z => by simp only [List.mem_cons, List.not_mem_nil, or_false] at hy z; omega)]
    · rw [E4' y, (z3 k hk).2 y hy, F2.2.2 y (fun z => by simp only [List.mem_cons, List.not_mem_nil, or_false] at hy z; omega)]
  have rg : RGx u x4 G := RGx_f F4 (by decide) (by decide)
  have rv : RVx u x4 s := RVx_f F4 (by decide) (by decide)
  have ri : RIx u x4 s := RIx_f F4 (by decide) (by decide)
  have rk : RKx u x4 s := RKx_f F4 (by decide) (by decide)
  have rn : RNx u x4 s := RNx_f F4 (by decide) (by decide)
  have i12 : (mI w3 (169 * q + r) 12).toInt = (K + 1 : Nat) := by
    rw [r12, tI_add (by omega) (by omega), e1, a4]
    omega
  have i11 : (mI w3 (169 * q + r) 11).toInt = (P' : Nat) := by
    rw [r11]
    rcases hso with ⟨-, -, z3, z4, z5⟩ | ⟨-, z4, z5⟩
    · rw [z5, tI_add (by omega) (by omega), e1, a11]
      omega
    · rw [z5, tI_add (by omega) (by omega), e0, a11]
      omega
  have eb : bk w3 (169 * q + r) s = bk v (169 * q + r) s := by
    unfold bk
    rw [(hcx r rT).1 2 (by decide), (hcx r rT).1 4 (by decide)]
  have hP' : P' ≤ K + 1 ∧ P' ≤ 6 ∧ (∀ j, j < K → (j < P' ↔ j < P)) ∧ so = (if K < P' then 5 else 6) := by
    rcases hso with ⟨z1, z2, z3, z4, z5⟩ | ⟨z1, z4, z5⟩
    · exact ⟨by omega, by omega, fun j hj => by omega, by rw [if_pos (by omega)]; exact z1⟩
    · exact ⟨by omega, by omega, fun j hj => by omega, by rw [if_neg (by omega)]; exact z1⟩
  have rr : RRr w3 x4 q s (T + 1) r (K + 1) F P' := by
    refine ⟨?_, ?_, ?_, i12, by omega, ?_, ?_, ?_, ?_, ?_, i11, hP'.1, hP'.2.1, ?_, ?_, fun j hj => ?_, fun j j' hj hj' e1 e2 => ?_⟩
    · rw [(hcx r rT).1 4 (by decide)]; exact a1
    · rw [(hcx r rT).1 4 (by decide)]; exact a2
    · rw [(hcx r rT).1 2 (by decide), (hcx r rT).1 4 (by decide)]; exact a3
    · rw [eb, F4.2.1 28 (by decide)]; exact a6
    · rw [eb, E4 29 (by decide), v10, F2.2.1 29 (by decide), tI_add (by omega) (by omega), e1, a7]
      omega
    · rw [E4 27 (by decide), v2]
      omega
    · rw [E4 27 (by decide), v2]
      omega
    · rw [eb, h30, r11, ← a10, hA.2.2.1 30 (by decide), F2.2.1 30 (by decide)]
    · rw [eb, E4 31 (by decide), v11, x73, o11, r7]
    · rw [(hcx r rT).1 2 (by decide), (hcx r rT).1 5 (by decide), eb, F4.2.1 33 (by decide)]; exact a15
    · by_cases z : j = K
      · have ez : r + 1 + j = T := by omega
        rw [ez, T2, z]
        refine ⟨hP'.2.2.2, ?_⟩
        unfold sE rN
        rw [E4 20 (by decide), E4 21 (by decide), E4 22 (by decide), E4 23 (by decide), E4' 24, E4' 25, E4' 26, v3, v4, v5, v6, v7, v8, v9, T0, T1, T9, j11 5 (by decide), j11 7 (by decide), j11 8 (by decide), j10, f5, f7, f8, f10, x73, F2.2.2 6 (by decide), F2.2.2 7 (by decide)]
        exact ⟨rfl, rfl, rfl, o11, rfl, hnr, hKD, hB⟩
      · obtain ⟨b1, b2⟩ := a16 j (by omega)
        obtain ⟨q1, q2⟩ := hca (r + 1 + j) (by omega) (by omega)
        obtain ⟨y1, y2⟩ := rs.2.2 (F + j) (by omega)
        refine ⟨?_, ?_⟩
        · rw [q1 2 (by decide), b1]
          by_cases y : j < P
          · rw [if_pos y, if_pos ((hP'.2.2.1 j (by omega)).mpr y)]
          · rw [if_neg y, if_neg (fun x => y ((hP'.2.2.1 j (by omega)).mp x))]
        · unfold sE rN at b2 ⊢
          rw [y1 20 (by decide), y1 21 (by decide), y1 22 (by decide), y1 23 (by decide), y2 24 (by decide), y2 25 (by decide), y2 26 (by decide), q1 5 (by decide), q1 7 (by decide), q1 8 (by decide), q1 9 (by decide), q2 10, q2 0, q1 1 (by decide)]
          exact b2
    · by_cases z : j = K <;> by_cases z' : j' = K
      · omega
      · have ez : r + 1 + j = T := by omega
        obtain ⟨q1, q2⟩ := hca (r + 1 + j') (by omega) (by omega)
        rw [ez, T0, q2 0] at e1
        rw [ez, T1, q1 1 (by decide)] at e2
        exact absurd ⟨e1.symm, e2.symm⟩ (f1 j' (by omega))
      · have ez : r + 1 + j' = T := by omega
        obtain ⟨q1, q2⟩ := hca (r + 1 + j) (by omega) (by omega)
        rw [ez, T0, q2 0] at e1
        rw [ez, T1, q1 1 (by decide)] at e2
        exact absurd ⟨e1, e2⟩ (f1 j (by omega))
      · obtain ⟨q1, q2⟩ := hca (r + 1 + j) (by omega) (by omega)
        obtain ⟨q1', q2'⟩ := hca (r + 1 + j') (by omega) (by omega)
        rw [q2 0, q2' 0] at e1
        rw [q1 1 (by decide), q1' 1 (by decide)] at e2
        exact a17 j j' (by omega) (by omega) e1 e2
  have tr : TR w3 x4 q s (T + 1) G := by
    refine ⟨p12i, by omega, ?_, by rw [F4.1 61 (by decide)]; exact t4, by omega, t5', by rw [F4.1 56 (by decide)]; exact t6, t7, t8, by rw [cR3]; exact t9, by rw [cR3]; exact t10, TRx_new t11 hcx (by rw [T3]; exact t1) (by rw [T2]; rcases so56 with z | z <;> (rw [z]; decide)), TRn_new t12 hcx (fun z => absurd z ngl), TRg_loc t13 hcx rg hT ngl, TR8_new t14 (fun y hy => hca y (by omega) (by omega)) rg t5', TRv_new t15 hcx (fun y hy hs => hca y (by omega) (fun z => ?_)) rv (fun z => absurd z (no 0 (Or.inl rfl))), fun r' hr' hs => ?_, TRi_new t17 hcx ri (fun z => absurd z (no 1 (Or.inr (Or.inl rfl))))⟩
    · have z1 : x4.1 62 = x.1 62 := by
        have b1 := hx4.1 62 (by decide)
        have b2 := hA.1 62 (by decide)
        have b3 := hr.1 62 (by decide)
        exact b1.trans (b2.trans b3)
      rw [z1, hX.2.2, p12, t3]
    · rw [z] at hs
      rcases o3 with y | y <;> (rw [y] at hs; exact absurd hs (by decide))
    · by_cases e : r' = T
      · rw [e] at hs
        rcases hs with z | z
        · exact absurd z (no 3 (by decide))
        · exact absurd z (no 4 (by decide))
      · by_cases e' : r' = r
        · rw [e']
          refine ⟨K + 1, F, P', rr, fun z => ?_, fun z => ?_⟩
          · rw [(hcx r rT).1 2 (by decide)] at z
            rw [(hcx r rT).1 4 (by decide), F4.2.1 36 (by decide)]
            obtain ⟨-, -, -, -, b3, -⟩ := t16 r o1 o3
            exact b3 z
          · rw [(hcx r rT).1 2 (by decide)] at z
            rw [(hcx r rT).1 4 (by decide), F4.2.1 37 (by decide)]
            obtain ⟨-, -, -, -, -, b4⟩ := t16 r o1 o3
            exact b4 z
        · have nn := hca r' e e'
          rw [nn.1 2 (by decide)] at hs
          obtain ⟨K', F', P2, hR, b3, b4⟩ := t16 r' (by omega) hs
          have hR5 := hR.2.2.2.2.1
          have hRs := hR.2.2.2.2.2.2.2.2.2.2.2.2.2.2.2.1
          have bne : ¬ bk v (169 * q + r') s = bk v (169 * q + r) s := bk_ne s1 o1 (by omega) o3 hs a1 hR.1 a3 hR.2.2.1 e'
          refine ⟨K', F', P2, RRr_tr hR (fun y h1 h2 => hca y (by omega) (fun z => ?_)) (fun d hd => ?_) rs (by omega), fun z => ?_, fun z => ?_⟩
          · have hy : r' + 1 + (r - r' - 1) = r := by omega
            have := (hRs (r - r' - 1) (by omega)).1
            rw [hy] at this
            rcases o3 with y | y <;> (rw [y] at this; split at this <;> exact absurd this (by decide))
          · simp only [List.mem_cons, List.not_mem_nil, or_false] at hd
            rcases hd with z | z | z | z | z
            · rw [z, F4.2.1 28 (by decide)]
            · rw [z, E4 29 (by decide), (v12 _ bne).1, F2.2.1 29 (by decide)]
            · rw [z, h30' _ bne, hA.2.2.1 30 (by decide), F2.2.1 30 (by decide)]
            · rw [z, E4 31 (by decide), (v12 _ bne).2, F2.2.1 31 (by decide)]
            · rw [z, F4.2.1 33 (by decide)]
          · rw [nn.1 2 (by decide)] at z
            rw [nn.1 4 (by decide), F4.2.1 36 (by decide)]
            exact b3 z
          · rw [nn.1 2 (by decide)] at z
            rw [nn.1 4 (by decide), F4.2.1 37 (by decide)]
            exact b4 z
  have tr2 : TR2 w3 x4 q s (T + 1) := by
    refine ⟨TRs_loc s1 hcx pA3 t11 ngl, ?_, ?_, TRp_new s4 t15 hcx (fun y hy hs => hca y (by omega) (fun z => ?_)) rv (by rw [c12]; exact Int.le_refl _) (fun z => absurd z (no 0 (Or.inl rfl))), TRf_new s5 t12 hcx rk rn ⟨fun z => absurd z (no 2 (by decide)), fun z => absurd z (no 3 (by decide)), fun z => absurd z (no 4 (by decide))⟩, TRk_c s6 tI3 rk (by rw [F4.2.1 48 (by decide)]), fun r' hr' hs K' hK' => ?_⟩
    · unfold CTN
      rw [pA3 9 (by decide), F4.2.1 19 (by decide), F4.2.1 42 (by decide), F4.2.1 48 (by decide), F4.2.1 36 (by decide), F4.2.1 37 (by decide), E4 27 (by decide), v2]
      exact ⟨c0, c1, c2, c3, c4', ⟨c5.1, by omega⟩, c6, c7, c8, c9, by omega, by omega⟩
    · unfold NUM
      rw [c228, c12, F4.2.1 64 (by decide), F4.1 63 (by decide)]
      exact s3
    · rw [z] at hs
      rcases o3 with y | y <;> (rw [y] at hs; exact absurd hs (by decide))
    · by_cases e : r' = T
      · rw [e] at hs
        rcases hs with z | z
        · exact absurd z (no 3 (by decide))
        · exact absurd z (no 4 (by decide))
      · by_cases e' : r' = r
        · rw [e'] at hK' ⊢
          have eK : K' = K + 1 := by omega
          rw [eK]
          have e100 : (100 : Int32).toInt = 100 := by decide
          obtain ⟨g, g1, g2, g3, g4⟩ := s7 r o1 o3 K a4
          have hle' := Int32.le_iff_toInt_le.mp hle
          have gn : ∀ y, y ≤ K → 0 ≤ g y := by
            intro y
            induction y with
            | zero => intro _; rw [g1]; exact Int.le_refl _
            | succ y ih =>
              intro hy
              obtain ⟨-, b1, b2, -⟩ := g4 y (by omega)
              have := ih (by omega)
              omega
          have gK := gn K (Nat.le_refl _)
          have hsum : (mI v (169 * q + r) 7 + sz).toInt = g K + sz.toInt := by rw [tI_add (by omega) (by omega), g2]
          refine ⟨fun y => if y ≤ K then g y else g K + sz.toInt, ?_, ?_, ?_, fun y hy => ?_⟩
          · show (if 0 ≤ K then g 0 else _) = 0
            rw [if_pos (Nat.zero_le _)]; exact g1
          · show (if K + 1 ≤ K then _ else g K + sz.toInt) = _
            rw [if_neg (by omega), r7, hsum]
          · show (if K + 1 ≤ K then _ else g K + sz.toInt) ≤ 100
            rw [if_neg (by omega)]
            omega
          · show _ = (if y ≤ K then g y else _) ∧ (if y + 1 ≤ K then g (y + 1) else g K + sz.toInt) = (if y ≤ K then g y else _) + _ ∧ _
            rw [if_pos (by omega)]
            by_cases z : y = K
            · have ez : r + 1 + y = T := by omega
              rw [ez, T9, j11 7 (by decide), f7, z, if_neg (by omega), ← g2]
              exact ⟨rfl, rfl, hsz1, hsz2⟩
            · have nn := (hca (r + 1 + y) (by omega) (by omega)).1
              rw [if_pos (by omega), nn 7 (by decide), nn 9 (by decide)]
              exact g4 y (by omega)
        · have nn := hca r' e e'
          rw [nn.1 2 (by decide)] at hs
          rw [nn.1 12 (by decide)] at hK'
          obtain ⟨K2, F', P2, hR, -⟩ := t16 r' (by omega) hs
          have hR4 := hR.2.2.2.1
          have hR5 := hR.2.2.2.2.1
          have hRs := hR.2.2.2.2.2.2.2.2.2.2.2.2.2.2.2.1
          refine OFF_tr (s7 r' (by omega) hs K' hK') (fun y h1 h2 => hca y (by omega) (fun z => ?_))
          have hy : r' + 1 + (r - r' - 1) = r := by omega
          have := (hRs (r - r' - 1) (by omega)).1
          rw [hy] at this
          rcases o3 with y | y <;> (rw [y] at this; split at this <;> exact absurd this (by decide))
  have tkw3 : tkC w2 w3 := by
    refine ⟨?_, ?_, ?_, ?_, ?_, ?_, ?_, by show w3.1 7 = w2.1 7; rw [j1]⟩
    · show w3.1 4 = w2.1 4
      rw [j1]
    · show w3.2.2.1 203 = w2.2.2.1 203
      rw [j3]
    · show w3.2.2.1 204 = w2.2.2.1 204
      rw [j3]
    · show w3.2.2.1 206 = w2.2.2.1 206
      rw [j3]
    · show w3.2.2.2.1 205 = w2.2.2.2.1 205
      rw [j4]
    · show w3.2.2.2.2.2.2.2.2.2.2 2 = w2.2.2.2.2.2.2.2.2.2.2 2
      rw [j8]
    · show w3.2.2.2.2.2.2.2.2.2.2 3 = w2.2.2.2.2.2.2.2.2.2.2 3
      rw [j8]
  have tkx : tkR u x4 := ⟨F4.2.1 2 (by decide), F4.2.1 3 (by decide), F4.2.1 5 (by decide), F4.2.2 4 (by decide), F4.2.2 6 (by decide), F4.2.2 7 (by decide), F4.1 69 (by decide)⟩
  have x73' : x4.1 73 = mI w3 (169 * q + r) 7 := by
    rw [hx4.1 73 (by decide), hA.2.1, x73, o11, r7]
  refine ⟨⟨hV.tr (tkC_tr tkw tkw3) tkx, hc3, ⟨rfr_rf, hr4.2.1, hr4.2.2.1, hr4.2.2.2.1, hr4.2.2.2.2.1, rfl⟩, h16, tr, tr2⟩, ⟨by omega, by rw [p15]; exact o2, by rw [(hcx r rT).1 2 (by decide)]; exact o3, rr, by omega, by rw [F4.1 72 (by decide)]; exact o6, ?_, by rw [F4.1 70 (by decide)]; exact o8, by rw [(hcx r rT).1 2 (by decide), F4.1 70 (by decide)]; exact o9, by rw [F4.1 71 (by decide), eb]; exact o10, x73'⟩, tkC_ty (tkC_tr tkw tkw3)⟩
  rw [E4 27 (by decide), v2]
  omega
end Lq
