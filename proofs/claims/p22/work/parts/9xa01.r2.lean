/-! Runs: a function of the class begins. -/
section R12
variable {v0 v w : CSt} {t f s d k n N c t0 Pn K sz e mf : Nat} {M : Nat → Int64} {I b1 b2 b3 : Nat → Int32} {P : CSt → Prop} {a b p : Int32} {off zs : Nat → Nat} {val : Nat → Int64}
/-- a local of the function: where, how many, with what -/
def LOC (N : Nat) (v0 : CSt) (mf j o z : Nat) (y : Int64) : Prop := ∃ r : Nat, (∀ v, crf v0 v → ∀ i : Int32, i.toInt = (j : Int) → pq (F_X6_local N (cR v0 4) mf i v) (fun r' w => r' = r ∧ w = v)) ∧ (mI v0 r 9).toInt = (o : Int) ∧ (mI v0 r 7).toInt = (z : Int) ∧ mL v0 r 10 = y
theorem g_func (hd : d < 8) (hm : ∀ v, crf v0 v → pq (F_X6_name N (cR v0 4) a v) (fun r w => r = mf ∧ w = v)) (hP : (mI v0 mf 11).toInt = (Pn : Int)) (hK : (mI v0 mf 12).toInt = (K : Int)) (hPK : Pn ≤ K) (hK2 : K ≤ 160) (hsz : (mI v0 mf 7).toInt = (sz : Int)) (he : (mI v0 mf 13).toInt = (e : Int)) (ht : t = t0 + Pn) (hroom : t0 + sz ≤ 6096)
    (hl : ∀ j, Pn ≤ j → j < K → LOC N v0 mf j (off j) (zs j) (val j) ∧ off j + zs j ≤ sz)
    (kk : ∀ x1 x2 x3 : Int32, x1.toInt = (s : Int) → x2.toInt = (f : Int) → x3.toInt = (t0 : Int) → CJ N v0 n (t0 + sz, t0, e, d + 1, k, em t0 off zs val M Pn (K - Pn), I, upd b1 d x1, upd b2 d x2, upd b3 d x3) P) : Og N v0 n 37 a b p (t, f, s, d, k, M, I, b1, b2, b3) P := by
  intro v hv
  have e1 : (1 : Int32).toInt = 1 := by decide
  have e8 : (8 : Int32).toInt = 8 := by decide
  have h21 : (cI v 21).toInt = (d : Int) := hv.2.2.2.2.2.2.2.1
  have h18 : (cI v 18).toInt = (t : Int) := hv.2.2.2.2.1
  have tb : ∀ v, crf v0 v → cR v 4 = cR v0 4 ∧ (∀ x j, mI v x j = mI v0 x j) ∧ ∀ x j, mL v x j = mL v0 x j := fun v h => ⟨by show v.2.2.2.2.2.2.2.2.2.2 4 = v0.2.2.2.2.2.2.2.2.2.2 4; rw [h.2.2.2.2], fun x j => by show v.2.2.2.2.2.2.2.2.1 x j = v0.2.2.2.2.2.2.2.2.1 x j; rw [h.2.2.2.2], fun x j => by show v.2.2.2.2.2.2.2.2.2.1 x j = v0.2.2.2.2.2.2.2.2.2.1 x j; rw [h.2.2.2.2]⟩
  unfold B_X2_go_128 F_X2_call B_X2_call_0
  rw [if_pos (by decide), if_pos (by decide), if_pos (by decide), if_pos rfl, (tb v hv.1).1]
  refine pq_bc (pq_ok (fun _ => pq_bc (pq_m (hm v hv.1) (fun r w hw => pq_ok (fun _ => ?_)))))
  rw [hw.1, hw.2]
  refine pq_bc ?_
  unfold F_X2_enterFunction B_X2_enterFunction_0
  rw [if_pos (Int32.lt_iff_toInt_lt.mpr (by omega)), (tb v hv.1).2.1]
  have hbase : (cI v 18 - mI v0 mf 11).toInt = (t0 : Int) := by rw [tI_sub (by omega) (by omega)]; omega
  generalize cI v 18 - mI v0 mf 11 = base at hbase ⊢
  refine p_remember hv hd (fun w1 x1 x2 q1 q2 g1 => pq_pc (pq_pc ?_))
  have g2 := g1.x19 (a := base) (t' := t0) hbase
  have m7 : mI (xI w1 19 base) mf 7 = mI v0 mf 7 := (tb _ g2.1).2.1 mf 7
  have g3 := g2.x18 (a := base + mI (xI w1 19 base) mf 7) (t' := t0 + sz) (by rw [m7, tI_add (by omega) (by omega)]; omega)
  have m11 : mI (xI (xI w1 19 base) 18 (base + mI (xI w1 19 base) mf 7)) mf 11 = mI v0 mf 11 := (tb _ g3.1).2.1 mf 11
  rw [m11]
  have k2 := kk x1 x2 base q1 q2 hbase
  have loop : ∀ (L : Nat) (y : Nat × Int32 × Int32 × CSt), (y.1 = mf ∧ y.2.1 = base ∧ ∃ (j : Nat) (Mj : Nat → Int64), y.2.2.1.toInt = (j : Int) ∧ Pn ≤ j ∧ j ≤ K ∧ em t0 off zs val Mj j (K - j) = em t0 off zs val M Pn (K - Pn) ∧ Xc v0 y.2.2.2 (t0 + sz, t0, s, d + 1, k, Mj, I, upd b1 d x1, upd b2 d x2, upd b3 d base)) → pq (LP_X2_enterFunction_52 N L y) (fun _ w => AC N n P w) := by
    refine pq_lp (Z := fun _ (_ : Int32) w => AC N n P w) (fun (y : Nat × Int32 × Int32 × CSt) => y.1 = mf ∧ y.2.1 = base ∧ ∃ (j : Nat) (Mj : Nat → Int64), y.2.2.1.toInt = (j : Int) ∧ Pn ≤ j ∧ j ≤ K ∧ em t0 off zs val Mj j (K - j) = em t0 off zs val M Pn (K - Pn) ∧ Xc v0 y.2.2.2 (t0 + sz, t0, s, d + 1, k, Mj, I, upd b1 d x1, upd b2 d x2, upd b3 d base)) ?_
    rintro R ⟨y1, y2, y3, y4⟩ ⟨h1, h2, j, Mj, h3, hj1, hj2, hM, hX⟩ ih
    dsimp only at h1 h2 h3 hX ih ⊢
    rw [h1, h2]
    unfold B_X2_enterFunction_52
    rw [(tb y4 hX.1).2.1, (tb y4 hX.1).2.1, (tb y4 hX.1).1]
    refine pq_if (fun c => ?_) (fun c => ?_)
    · have c := Int32.le_iff_toInt_le.mp c
      have ej : j = K := by omega
      have eM : Mj = em t0 off zs val M Pn (K - Pn) := by
        rw [← hM, ej, Nat.sub_self]
        rfl
      rw [eM] at hX
      exact pq_pc (pq_some (AC_of (hX.x20 (a := mI v0 mf 13) (t' := e) he) k2))
    · have c := Int32.lt_iff_toInt_lt.mp (Int32.not_le.mp c)
      have hjK : j < K := by omega
      obtain ⟨⟨r, l1, l2, l3, l4⟩, l5⟩ := hl j hj1 hjK
      refine pq_ok (fun _ => pq_bc (pq_m (l1 y4 hX.1 y3 h3) (fun r' w' hw' => pq_ok (fun _ => ?_))))
      rw [hw'.1, hw'.2, (tb y4 hX.1).2.1, (tb y4 hX.1).2.1, (tb y4 hX.1).2.2, l4]
      refine p_fill (c := t0 + off j) (m := zs j) hX (by rw [tI_add (by omega) (by omega)]; omega) l3 (by omega) (fun w5 g5 => ?_)
      refine ih (mf, base, y3 + 1, w5) ⟨rfl, rfl, j + 1, _, ?_, by omega, by omega, ?_, g5⟩
      · show (y3 + 1).toInt = _
        rw [tI_add (by omega) (by omega), e1, h3]
        omega
      · rw [← hM, show K - j = (K - (j + 1)) + 1 by omega]
        rfl
  exact pq_m (loop N (mf, base, mI v0 mf 11, _) ⟨rfl, rfl, Pn, M, hP, Nat.le_refl _, hPK, rfl, g3⟩) (fun _ w hw => pq_some (pq_some hw))
end R12
/-! Runs: a function of the reference begins. -/
theorem flM_0 {M : Nat → Int64} {c : Nat} {z : Int64} : flM M c 0 z = M := funext (fun j => if_neg (by omega))
theorem flM_s {M : Nat → Int64} {c i : Nat} {z : Int64} : vp_updL (flM M c i z) (c + i) z = flM M c (i + 1) z := by
  funext j
  show (if j = c + i then z else (if c ≤ j ∧ j < c + i then z else M j)) = (if c ≤ j ∧ j < c + (i + 1) then z else M j)
  by_cases q : j = c + i
  · rw [if_pos q, if_pos (by omega)]
  · rw [if_neg q]
    by_cases q2 : c ≤ j ∧ j < c + i
    · rw [if_pos q2, if_pos (by omega)]
    · rw [if_neg q2, if_neg (by omega)]
section R13
variable {u0 u w : RSt} {p s d f g k N c n x Pn K F0 e s0 p0 : Nat} {M S : Nat → Int64} {I c1 c2 c3 c4 : Nat → Int32} {β : Type} {Q : β → RSt → Prop} {P P' : RSt → Prop} {a b o : Int32} {z : Int64} {off zs : Nat → Nat} {val : Nat → Int64}
theorem p_ent {kk : Int32 → RSt → Option (β × RSt)} (h : RX u0 u (p, s, d, f, g, k, M, I, S, c1, c2, c3, c4)) (hx : a.toNatClampNeg = x) (hd : d < 8) (hp : p = p0 + Pn) (hp2 : p < 2147483648) (h30 : (u0.2.2.1 30 x).toInt = (Pn : Int)) (h29 : (u0.2.2.1 29 x).toInt = (K : Int)) (h28 : (u0.2.2.1 28 x).toInt = (F0 : Int)) (h32 : (u0.2.2.1 32 x).toInt = (e : Int)) (h55 : (u0.1 55).toInt = (s0 : Int)) (hs0 : s0 < 2) (hK : Pn ≤ K) (hF : F0 + K ≤ 160)
    (hl : ∀ j, j < K → (u0.2.2.1 21 (160 * s0 + F0 + j)).toInt = (zs j : Int) ∧ (u0.2.2.1 23 (160 * s0 + F0 + j)).toInt = (off j : Int) ∧ (Pn ≤ j → u0.2.2.2 24 (160 * s0 + F0 + j) = val j) ∧ off j + zs j ≤ 100)
    (hk : ∀ w x4, x4.toInt = (p0 : Int) → RX u0 w (p0, e, d + 1, 2100 + 100 * d, g, k, em (2100 + 100 * d) off zs (fun j => if j < Pn then S (p0 + j) else val j) M 0 K, I, S, c1, c2, c3, upd c4 d x4) → pp (kk 0 w) Q) : pp (bn (F_enter N a u) kk) Q := by
  have e0 : (0 : Int32).toInt = 0 := by decide
  have e1 : (1 : Int32).toInt = 1 := by decide
  have e100 : (100 : Int32).toInt = 100 := by decide
  have e160 : (160 : Int32).toInt = ((160 : Nat) : Int) := by decide
  have e2100 : (2100 : Int32).toInt = 2100 := by decide
  have rA : ∀ {y : RSt} {B : RK} (i : Nat), i ∉ [85, 108, 109, 110, 111] → RX u0 y B → y.2.2.1 i = u0.2.2.1 i := fun i hi hy => hy.1.2.2.1 i hi
  have h114 : (u.1 114).toInt = (d : Int) := h.2.2.2.2.1
  refine pp_bn ?_
  unfold F_enter B_enter_0
  refine pp_rd (pp_rd ?_)
  rw [rA 30 (by decide) h, rA 28 (by decide) h, hx, h.1.1 55 (by decide)]
  have hb1 : (100 * u.1 114).toInt = 100 * (d : Int) := by rw [tI_mul (by rw [e100, h114]; omega) (by rw [e100, h114]; omega), e100, h114]
  have hbase : (2100 + 100 * u.1 114).toInt = ((2100 + 100 * d : Nat) : Int) := by rw [tI_add (by rw [hb1]; omega) (by rw [hb1]; omega), hb1, e2100]; omega
  have hr0 : (160 * u0.1 55 + u0.2.2.1 28 x).toInt = ((160 * s0 + F0 : Nat) : Int) := by
    have hm : (160 * u0.1 55).toInt = 160 * (s0 : Int) := by
      have e : (160 : Int32).toInt = 160 := by decide
      rw [tI_mul (by rw [e, h55]; omega) (by rw [e, h55]; omega), e, h55]
    rw [tI_add (by rw [hm]; omega) (by rw [hm]; omega), hm]
    omega
  generalize 2100 + 100 * u.1 114 = bb at hbase ⊢
  generalize 160 * u0.1 55 + u0.2.2.1 28 x = rr at hr0 ⊢
  have loop : ∀ (L : Nat) (y : Int32 × Int32 × Int32 × Int32 × Int32 × RSt), (y.1 = a ∧ y.2.1 = u0.2.2.1 30 x ∧ y.2.2.1 = bb ∧ y.2.2.2.1 = rr ∧ ∃ (j : Nat) (Mj : Nat → Int64), y.2.2.2.2.1.toInt = (j : Int) ∧ j ≤ K ∧ em (2100 + 100 * d) off zs (fun j => if j < Pn then S (p0 + j) else val j) Mj j (K - j) = em (2100 + 100 * d) off zs (fun j => if j < Pn then S (p0 + j) else val j) M 0 K ∧ RX u0 y.2.2.2.2.2 (p, s, d, f, g, k, Mj, I, S, c1, c2, c3, c4)) → pp (LP_enter_39 N L y) (fun r w => pp (kk r w) Q) := by
    refine pp_lp (Z := fun _ (r : Int32) w => pp (kk r w) Q) (fun (y : Int32 × Int32 × Int32 × Int32 × Int32 × RSt) => y.1 = a ∧ y.2.1 = u0.2.2.1 30 x ∧ y.2.2.1 = bb ∧ y.2.2.2.1 = rr ∧ ∃ (j : Nat) (Mj : Nat → Int64), y.2.2.2.2.1.toInt = (j : Int) ∧ j ≤ K ∧ em (2100 + 100 * d) off zs (fun j => if j < Pn then S (p0 + j) else val j) Mj j (K - j) = em (2100 + 100 * d) off zs (fun j => if j < Pn then S (p0 + j) else val j) M 0 K ∧ RX u0 y.2.2.2.2.2 (p, s, d, f, g, k, Mj, I, S, c1, c2, c3, c4)) ?_
    rintro R ⟨y1, y2, y3, y4, y5, y6⟩ ⟨h1, h2, h3, h4, j, Mj, h5, hj, hM, hX⟩ ih
    dsimp only at h1 h2 h3 h4 h5 hX ih ⊢
    rw [h1, h2, h3, h4]
    unfold B_enter_39
    refine pp_rd ?_
    rw [rA 29 (by decide) hX, hx]
    refine pp_if (fun c => ?_) (fun c => ?_)
    · have c := Int32.le_iff_toInt_le.mp c
      have ej : j = K := by omega
      have eM : Mj = em (2100 + 100 * d) off zs (fun j => if j < Pn then S (p0 + j) else val j) M 0 K := by
        rw [← hM, ej, Nat.sub_self]
        rfl
      rw [eM] at hX
      have p112 : (y6.1 112).toInt = (p : Int) := hX.2.2.1
      have g1 := hX.x112 (a := y6.1 112 - u0.2.2.1 30 x) (t := p0) (by rw [tI_sub (by omega) (by omega)]; omega)
      have d114 : ((sI y6 112 (y6.1 112 - u0.2.2.1 30 x)).1 114).toInt = (d : Int) := g1.2.2.2.2.1
      have x112 : ((sI y6 112 (y6.1 112 - u0.2.2.1 30 x)).1 112).toInt = (p0 : Int) := g1.2.2.1
      generalize sI y6 112 (y6.1 112 - u0.2.2.1 30 x) = y7 at g1 d114 x112 ⊢
      have g2 : RX u0 (sA y7 111 (y7.1 114).toNatClampNeg (y7.1 112)) (p0, s, d, f, g, k, em (2100 + 100 * d) off zs (fun j => if j < Pn then S (p0 + j) else val j) M 0 K, I, S, c1, c2, c3, upd c4 d (y7.1 112)) := by
        obtain ⟨hr, o1, o2, o3, o4, o5, o6, o7, o8, o9, o10, o11, o12, o13, o14⟩ := g1
        refine ⟨rrf_A hr (by decide), o1, o2, o3, o4, o5, o6, o7, o8, o9, o10, o11, o12, o13, ?_⟩
        show upd (y7.2.2.1 111) (y7.1 114).toNatClampNeg (y7.1 112) = _
        rw [n_of d114, show y7.2.2.1 111 = c4 from o14]
      have g3 := g2.x114 (a := y7.1 114 + 1) (t := d + 1) (by rw [tI_add (by omega) (by omega), e1]; omega)
      have g4 := g3.x115 (a := bb) (t := 2100 + 100 * d) hbase
      have r32 : (sI (sI (sA y7 111 (y7.1 114).toNatClampNeg (y7.1 112)) 114 (y7.1 114 + 1)) 115 bb).2.2.1 32 = u0.2.2.1 32 := rA 32 (by decide) g4
      have g5 := g4.x113 (a := u0.2.2.1 32 x) (t := e) h32
      refine pp_pu (pp_wr (pp_pu (pp_pu (pp_rd (pp_pu (pp_some ?_))))))
      rw [hx]
      refine hk _ (y7.1 112) x112 ?_
      exact r32 ▸ g5
    · have c := Int32.lt_iff_toInt_lt.mp (Int32.not_le.mp c)
      have hjK : j < K := by omega
      obtain ⟨l1, l2, l3, l4⟩ := hl j hjK
      have hix : (rr + y5).toInt = ((160 * s0 + F0 + j : Nat) : Int) := by rw [tI_add (by omega) (by omega)]; omega
      have nix := n_of hix
      obtain ⟨vj, hvj⟩ : ∃ vj, vj = (if j < Pn then S (p0 + j) else val j) := ⟨_, rfl⟩
      refine pp_lp (Z := fun _ (r : Int32) w => pp (kk r w) Q) (fun (y : Int32 × Int32 × Int32 × Int32 × Int32 × Int32 × RSt) => y.1 = a ∧ y.2.1 = u0.2.2.1 30 x ∧ y.2.2.1 = bb ∧ y.2.2.2.1 = rr ∧ y.2.2.2.2.1 = y5 ∧ ∃ i : Nat, y.2.2.2.2.2.1.toInt = (i : Int) ∧ i ≤ zs j ∧ RX u0 y.2.2.2.2.2.2 (p, s, d, f, g, k, flM Mj (2100 + 100 * d + off j) i vj, I, S, c1, c2, c3, c4)) ?_ N (a, u0.2.2.1 30 x, bb, rr, y5, 0, y6) ⟨rfl, rfl, rfl, rfl, rfl, 0, rfl, Nat.zero_le _, by rw [flM_0]; exact hX⟩
      rintro R2 ⟨z1, z2, z3, z4, z5, z6, z7⟩ ⟨k1, k2, k3, k4, k5, i, k6, hi, hY⟩ ih2
      dsimp only at k1 k2 k3 k4 k5 k6 hY ih2 ⊢
      rw [k1, k2, k3, k4, k5]
      unfold B_enter_53
      refine pp_rd ?_
      rw [rA 21 (by decide) hY, nix]
      refine pp_if (fun c2 => ?_) (fun c2 => ?_)
      · have c2 := Int32.le_iff_toInt_le.mp c2
        have ei : i = zs j := by omega
        rw [ei] at hY
        refine ih (a, u0.2.2.1 30 x, bb, rr, y5 + 1, z7) ⟨rfl, rfl, rfl, rfl, j + 1, _, ?_, by omega, ?_, hY⟩
        · show (y5 + 1).toInt = _
          rw [tI_add (by omega) (by omega), e1, h5]
          omega
        · rw [← hM, show K - j = (K - (j + 1)) + 1 by omega, hvj]
          rfl
      · have c2 := Int32.lt_iff_toInt_lt.mp (Int32.not_le.mp c2)
        refine pp_rd ?_
        rw [rA 23 (by decide) hY, nix]
        have ha1 : (bb + u0.2.2.1 23 (160 * s0 + F0 + j)).toInt = ((2100 + 100 * d + off j : Nat) : Int) := by rw [tI_add (by omega) (by omega)]; omega
        have ha2 : (bb + u0.2.2.1 23 (160 * s0 + F0 + j) + z6).toInt = ((2100 + 100 * d + off j + i : Nat) : Int) := by rw [tI_add (by omega) (by omega)]; omega
        have fin : pp (B_enter_120 N R R2 a (u0.2.2.1 30 x) bb rr y5 z6 (bb + u0.2.2.1 23 (160 * s0 + F0 + j) + z6) vj z7) (fun r w => pp (kk r w) Q) := by
          unfold B_enter_120
          refine pp_wr ?_
          refine ih2 (a, u0.2.2.1 30 x, bb, rr, y5, z6 + 1, sB z7 82 (bb + u0.2.2.1 23 (160 * s0 + F0 + j) + z6).toNatClampNeg vj) ⟨rfl, rfl, rfl, rfl, rfl, i + 1, ?_, by omega, ?_⟩
          · show (z6 + 1).toInt = _
            rw [tI_add (by omega) (by omega), e1, k6]
            omega
          · show RX u0 (sB z7 82 (bb + u0.2.2.1 23 (160 * s0 + F0 + j) + z6).toNatClampNeg vj) _
            rw [n_of ha2, ← flM_s]
            exact hY.xM
        refine pp_if (fun c3 => ?_) (fun c3 => ?_)
        · have c3 := Int32.le_iff_toInt_le.mp c3
          refine pp_rd ?_
          rw [show z7.2.2.2 24 = u0.2.2.2 24 from hY.1.2.2.2 24 (by decide), nix, l3 (by omega), show val j = vj by rw [hvj, if_neg (by omega)]]
          exact fin
        · have c3 := Int32.lt_iff_toInt_lt.mp (Int32.not_le.mp c3)
          refine pp_rd ?_
          have p112 : (z7.1 112).toInt = (p : Int) := hY.2.2.1
          have q1 : (z7.1 112 - u0.2.2.1 30 x).toInt = (p0 : Int) := by rw [tI_sub (by omega) (by omega)]; omega
          have q2 : (z7.1 112 - u0.2.2.1 30 x + y5).toInt = ((p0 + j : Nat) : Int) := by rw [tI_add (by omega) (by omega)]; omega
          rw [hY.st, n_of q2, show S (p0 + j) = vj by rw [hvj, if_pos (by omega)]]
          exact fin
  exact loop N (a, u0.2.2.1 30 x, bb, rr, 0, u) ⟨rfl, rfl, rfl, rfl, 0, M, rfl, Nat.zero_le _, rfl, h⟩
end R13
/-! Runs: a function is called; its arguments. -/
section R14a
variable {u0 u w : RSt} {p s d f g k N c n x Pn K F0 e s0 p0 : Nat} {M S : Nat → Int64} {I c1 c2 c3 c4 : Nat → Int32} {P : RSt → Prop} {a b o : Int32} {off zs : Nat → Nat} {val : Nat → Int64}
theorem q_call (hc : rdc u0 s 31 a b) (hx : a.toNatClampNeg = x) (hd : d < 8) (hp : p = p0 + Pn) (h30 : (u0.2.2.1 30 x).toInt = (Pn : Int)) (h29 : (u0.2.2.1 29 x).toInt = (K : Int)) (h28 : (u0.2.2.1 28 x).toInt = (F0 : Int)) (h32 : (u0.2.2.1 32 x).toInt = (e : Int)) (h55 : (u0.1 55).toInt = (s0 : Int)) (hs0 : s0 < 2) (hK : Pn ≤ K) (hF : F0 + K ≤ 160)
    (hl : ∀ j, j < K → (u0.2.2.1 21 (160 * s0 + F0 + j)).toInt = (zs j : Int) ∧ (u0.2.2.1 23 (160 * s0 + F0 + j)).toInt = (off j : Int) ∧ (Pn ≤ j → u0.2.2.2 24 (160 * s0 + F0 + j) = val j) ∧ off j + zs j ≤ 100)
    (kk : ∀ x1 x2 x3 x4 : Int32, x1.toInt = ((s + 1 : Nat) : Int) → x2.toInt = (f : Int) → x3.toInt = (g : Int) → x4.toInt = (p0 : Int) → Sr N u0 (p0, e, d + 1, 2100 + 100 * d, g, k, em (2100 + 100 * d) off zs (fun j => if j < Pn then S (p0 + j) else val j) M 0 K, I, S, upd c1 d x1, upd c2 d x2, upd c3 d x3, upd c4 d x4) P) : Sr N u0 (p, s, d, f, g, k, M, I, S, c1, c2, c3, c4) P := by
  refine r_go hc (fun u R i hu hi rc => ?_)
  unfold rbody
  rw [if_neg (by decide), if_neg (by decide), if_neg (by decide), if_neg (by decide), if_neg (by decide), if_neg (by decide), if_neg (by decide), if_neg (by decide), if_neg (by decide), if_neg (by decide), if_neg (by decide), if_neg (by decide), if_neg (by decide), if_neg (by decide), if_neg (by decide), if_neg (by decide), if_neg (by decide), if_neg (by decide), if_neg (by decide), if_neg (by decide), if_neg (by decide), if_neg (by decide), if_neg (by decide), if_pos rfl]
  refine p_may hu hd (fun w x1 x2 x3 q1 q2 q3 hw => ?_)
  rw [if_neg (by decide)]
  have hp2 : p < 2147483648 := by have y1 : (w.1 112).toInt = (p : Int) := hw.2.2.1; have y2 := Int32.toInt_lt (w.1 112); omega
  exact p_ent hw hx hd hp hp2 h30 h29 h28 h32 h55 hs0 hK hF hl (fun w4 x4 q4 hw4 => rc.on hw4 (kk x1 x2 x3 x4 q1 q2 q3 q4))
end R14a
/-- j arguments: both put the same numbers -/
def SA (N : Nat) (vF : CSt) (uF : RSt) (g md sz : Nat) (fk gk : Nat → Int32) (a b a' b' h : Nat) (Vs : Nat → Int64 → Prop) (j n : Nat) : Prop :=
  ∀ m t f d k M I b1 b2 b3 p f' g' M' I' S c1 c2 c3 c4 (Q : CSt → RSt → Prop), RLt vF uF g md sz fk gk t f d k M I f' g' M' I' → 8 ≤ n + d → t + h + (8 - d) * 440 ≤ 6096 → m + 3200 * (g - k) + (b - a) ≤ 40000000 →
    (∀ m2 k2 M2 I2 e1 e2 e3 M3 I3 S3 i1 i2 i3 i4, RLt vF uF g md sz fk gk (t + j) f d k2 M2 I2 f' g' M3 I3 → KPc md sz t f d M M2 b1 b2 b3 e1 e2 e3 → KPr md d p M' M3 S S3 c1 c2 c3 c4 i1 i2 i3 i4 → (∀ i, i < j → M2 (t + i) = S3 (p + i) ∧ Vs i (M2 (t + i))) → k ≤ k2 → m2 + 3200 * (g - k2) ≤ m + 3200 * (g - k) + (b - a) →
      RJ N vF uF m2 (t + j, f, b, d, k2, M2, I2, e1, e2, e3) (p + j, b', d, f', g', k2, M3, I3, S3, i1, i2, i3, i4) Q) →
    KZt vF uF gk Q → RJ N vF uF m (t, f, a, d, k, M, I, b1, b2, b3) (p, a', d, f', g', k, M', I', S, c1, c2, c3, c4) Q
section R14b
variable {vF v w : CSt} {uF u x : RSt} {t f s d k n m N c c' g md sz h h' j : Nat} {fk gk : Nat → Int32} {a b a' b' : Nat} {V : Int64 → Prop} {Vs : Nat → Int64 → Prop}
theorem sa_nil : SA N vF uF g md sz fk gk a a a' a' h Vs 0 n := fun m t f d k M I b1 b2 b3 p f' g' M' I' S c1 c2 c3 c4 Q hR hn ht hm kk _ => kk m k M I b1 b2 b3 M' I' S c1 c2 c3 c4 hR KPc_rf KPr_rf (fun i hi => absurd hi (Nat.not_lt_zero i)) (Nat.le_refl _) (by omega)
theorem sa_snoc (hA : SA N vF uF g md sz fk gk a b a' b' h Vs j n) (hE : SE N vF uF g md sz fk gk b c b' c' h' V n) (hV : ∀ z, V z → Vs j z) (hh : h' + j ≤ h) (hab : a ≤ b) (hbc : b ≤ c) : SA N vF uF g md sz fk gk a c a' c' h Vs (j + 1) n := by
  intro m t f d k M I b1 b2 b3 p f' g' M' I' S c1 c2 c3 c4 Q hR hn ht hm kk kz
  refine hA m t f d k M I b1 b2 b3 p f' g' M' I' S c1 c2 c3 c4 Q hR hn ht (by omega) (fun m2 k2 M2 I2 e1 e2 e3 M3 I3 S3 i1 i2 i3 i4 qR qc qr qv qk qm => ?_) kz
  refine hE m2 (t + j) f d k2 M2 I2 e1 e2 e3 (p + j) f' g' M3 I3 S3 i1 i2 i3 i4 Q qR hn (by omega) (by omega) (fun m4 k4 z M4 I4 h1 h2 h3 M5 I5 S5 j1 j2 j3 j4 wR wc wr wz ws wi wk wm => ?_) kz
  refine kk m4 k4 M4 I4 h1 h2 h3 M5 I5 S5 j1 j2 j3 j4 wR (KPc_tr (by omega) qc wc) (KPr_tr (by omega) qr wr) (fun i hi => ?_) (by omega) (by omega)
  by_cases q : i = j
  · rw [q, wz, ws]
    exact ⟨rfl, hV z wi⟩
  · have t2 := hR.2.2.1
    have c1 : M4 (t + i) = M2 (t + i) := wc.1 (t + i) (by omega) (by omega) (fun y => by have := (hR.2.2.2.2.2.2.2 y.1).2.2.2.1; omega)
    have c2 : S5 (p + i) = S3 (p + i) := wr.1 (p + i) (by omega)
    rw [c1, c2]
    exact qv i (by omega)
/-! what a frame holds -/
variable {base : Nat} {off zs : Nat → Nat} {val : Nat → Int64} {M : Nat → Int64}
theorem em_out : ∀ (l j : Nat) (M : Nat → Int64) (c : Nat), (∀ i, j ≤ i → i < j + l → ¬ (base + off i ≤ c ∧ c < base + off i + zs i)) → em base off zs val M j l c = M c := by
  intro l
  induction l with
  | zero => intro j M c _; rfl
  | succ l ih =>
    intro j M c h
    show em base off zs val (flM M (base + off j) (zs j) (val j)) (j + 1) l c = M c
    rw [ih (j + 1) _ c (fun i h1 h2 => h i (by omega) (by omega))]
    exact if_neg (h j (by omega) (by omega))
theorem em_in : ∀ (l j : Nat) (M : Nat → Int64) (i c : Nat), j ≤ i → i < j + l → base + off i ≤ c → c < base + off i + zs i → (∀ i', i < i' → i' < j + l → ¬ (base + off i' ≤ c ∧ c < base + off i' + zs i')) → em base off zs val M j l c = val i := by
  intro l
  induction l with
  | zero => intro j M i c h1 h2; omega
  | succ l ih =>
    intro j M i c h1 h2 h3 h4 h5
    show em base off zs val (flM M (base + off j) (zs j) (val j)) (j + 1) l c = val i
    by_cases q : i = j
    · rw [em_out l (j + 1) _ c (fun i' y1 y2 => h5 i' (by omega) (by omega))]
      rw [q] at h3 h4 ⊢
      exact if_pos ⟨h3, h4⟩
    · exact ih (j + 1) _ i c (by omega) (by omega) h3 h4 (fun i' y1 y2 => h5 i' y1 (by omega))
end R14b
/-! Runs: settings of outputs; x op= E of a variable of all. -/
section R15
variable {vF v w : CSt} {uF u0 u x : RSt} {t f s d k k2 n m N c c0 c' e e' g md sz h h' bud : Nat} {fk gk : Nat → Int32} {M : Nat → Int64} {I b1 b2 b3 : Nat → Int32} {p s' f' g' a b a' b' : Nat} {M' S : Nat → Int64} {I' c1 c2 c3 c4 : Nat → Int32} {z : Int64} {Va Vb : Int64 → Prop} {rk rk' pa pb pl qa qb ql ra rb sa sb' ta tb y kd : Int32} {bx cx : Option (Nat × Nat)}
theorem RX.fo {J : Nat → Int32} (h9 : RX u0 u (p, s, d, f, g, k, M, I, S, c1, c2, c3, c4)) (hf : f85 u x) (hJ : x.2.2.1 85 = J) : RX u0 x (p, s, d, f, g, k, M, J, S, c1, c2, c3, c4) := by
  obtain ⟨⟨r1, r2, r3, r4⟩, g1, g2, g3, g4, g5, g6, g7, g8, g9, g10, g11, g12, g13, g14⟩ := h9
  obtain ⟨f1, f2, f3, f4⟩ := hf
  refine ⟨⟨fun i hi => by rw [f1]; exact r1 i hi, fun i hi => by rw [f2]; exact r2 i hi, fun i hi => (f3 i (fun q => hi (by rw [q]; decide))).trans (r3 i hi), fun i hi => by rw [f4]; exact r4 i hi⟩, by rw [f1]; exact g1, by rw [f1]; exact g2, by rw [f1]; exact g3, by rw [f1]; exact g4, by rw [f1]; exact g5, by rw [f1]; exact g6, by rw [f1]; exact g7, by rw [f4]; exact g8, hJ, by rw [f4]; exact g10, (f3 108 (by decide)).trans g11, (f3 109 (by decide)).trans g12, (f3 110 (by decide)).trans g13, (f3 111 (by decide)).trans g14⟩
theorem WR_out (hy : y.toInt = ((5000 + c : Nat) : Int)) (hk : KD kd) (hc : c + nb kd ≤ 64) : WR N u0 M I y kd z M (sb z I (64 + c) (nb kd)) := by
  intro u p s d f g k S c1 c2 c3 c4 hu
  refine pp_m (i_write (u := u) hy hk hc) (fun _ w hw => ?_)
  have e : u.2.2.1 85 = I := hu.2.2.2.2.2.2.2.2.2.1
  rw [e] at hw
  exact hu.fo hw.1 hw.2
/-- x = E, x an output -/
theorem ss_setO (hE : SE N vF uF g md sz fk gk a b (a' + 1) b' h Va n) (hc : cdc vF b 9 pa rk pl) (hp : pa.toInt = (c : Int)) (r1 : rdc uF a' 10 qa qb) (hq : qa.toInt = ((5000 + c : Nat) : Int)) (r2 : rdc uF b' 18 rk rb) (hrk : KD rk) (hc2 : c + nb rk ≤ 64) (hh : 1 ≤ h) (hab : a ≤ b) : SS N vF uF g md sz fk gk rk' bx cx a (b + 1) a' (b' + 1) h n := by
  intro m t f d k M I b1 b2 b3 p f' g' M' I' S c1 c2 c3 c4 Q bud hR hn ht hm hb kk kb kc kr kz
  refine rj_r (hE m t f d k M I b1 b2 b3 (p + 1) f' g' M' I' (vp_updL S p qa.toInt64) c1 c2 c3 c4 Q hR hn ht (by omega) (fun m2 k2 z M2 I2 e1 e2 e3 M3 I3 S3 i1 i2 i3 i4 qR qc qr qz qs qi qk qm => ?_) kz) (fun P hP => q_place r1 hP)
  have low : S3 p = qa.toInt64 := (qr.1 p (by omega)).trans uL_eq
  refine rj_r (x_c (by omega) hc (by decide) (g_setout hp hrk hc2 (by omega) ?_)) (fun P hP => q_put (M' := M3) (I' := sb z I3 (64 + c) (nb rk)) r2 (by rw [low, t6432, qs]; exact WR_out hq hrk hc2) hP)
  rw [qz]
  have im := qR.2.2.2.2.2.1
  refine kk (m2 + 1) k2 M2 (sb z I2 c (nb rk)) e1 e2 e3 M3 (sb z I3 (64 + c) (nb rk)) S3 i1 i2 i3 i4 (RLt_I (RLt_dn hR qR) (fun i hi => ⟨?_, ?_⟩)) qc ⟨fun j hj => ?_, qr.2⟩ qk (by omega)
  · rw [sb_lt _ _ _ (by omega)]
    exact (im i hi).1
  · exact (sb_rel (f := I2) (g := I3) (nb rk) c (fun i hi => ((im i hi).2).symm) i hi).symm
  · exact (qr.1 j (by omega)).trans (uL_ne (by omega))
/-- x op= E, x of all: the number first, then E -/
theorem ss_opG {F F' : Int64 → Int64 → Int64} {Zd : Int64 → Prop} (hc0 : cdc vF a 3 pa pb pl) (hp : pa.toInt = (c : Int)) (hc2 : c < 2000) (r1 : rdc uF a' 10 qa qb) (hq : qa.toInt = (c : Int)) (r2 : rdc uF (a' + 1) 17 ta tb) (hE : SE N vF uF g md sz fk gk (a + 1) b (a' + 2) b' h' Va n) (hU : U2 N vF b Zd F) (hV : V2 N uF b' Zd F') (hF : ∀ x y, (¬ gk c = 4 → i32 x) → Va y → ¬ Zd y → F x y = F' x y) {ua ul va : Int32} (hs : cdc vF (b + 1) 7 ua rk ul) (hu : ua.toInt = (c : Int)) (r3 : rdc uF (b' + 1) 18 rk va) (hgk : gk c = rk) (hrk : KD rk) (hh : h' + 1 ≤ h) (hh2 : 2 ≤ h) (hab : a + 1 ≤ b) : SS N vF uF g md sz fk gk rk' bx cx a (b + 2) a' (b' + 2) h n := by
  intro m t f d k M I b1 b2 b3 p f' g' M' I' S c1 c2 c3 c4 Q bud hR hn ht hm hb kk kb kc kr kz
  have t2 := hR.2.2.1
  refine rj_r (x_c (by omega) hc0 (by decide) (g_get hp (by omega) (by omega) ?_)) (fun P hP => q_place r1 (q_peek (z := M c) r2 (by rw [uL_eq, t6432, hR.2.2.2.1 c hc2]; exact RD_mem hq (by omega)) hP))
  refine hE (m + 1) (t + 1) f d k (vp_updL M t (M c)) I b1 b2 b3 (p + 2) f' g' M' I' (vp_updL (vp_updL S p qa.toInt64) (p + 1) (M c)) c1 c2 c3 c4 Q (RLt_push hR) hn (by omega) (by omega) (fun m2 k2 z M2 I2 e1 e2 e3 M3 I3 S3 i1 i2 i3 i4 qR qc qr qz qs qi qk qm => ?_) kz
  have low : M2 t = M c := (KPc_low qc hR).trans uL_eq
  have lowS : S3 (p + 1) = M c := (qr.1 (p + 1) (by omega)).trans uL_eq
  have lowP : S3 p = qa.toInt64 := (qr.1 p (by omega)).trans ((uL_ne (by omega)).trans uL_eq)
  refine hU m2 t f d k2 M2 I2 e1 e2 e3 _ (by omega) (by omega) (fun nz => ?_) (fun zz w hw => ?_)
  · rw [qz] at nz
    have f1 := hF (M c) z (hR.2.2.2.2.1 c hc2) qi nz
    rw [low, qz]
    refine rj_r (x_c (by omega) hs (by decide) (g_set hu (by omega) (by omega) ?_)) (fun P hP => hV (p + 1) d f' g' k2 M3 I3 S3 i1 i2 i3 i4 _ (fun _ => q_put (M' := vp_updL M3 c (n_cut rk (F' (M c) z))) (I' := I3) r3 ?_ hP) (fun zz => absurd (by rw [qs] at zz; exact zz) nz))
    · rw [uL_eq, f1]
      refine kk (m2 + 2) k2 (vp_updL (vp_updL M2 t (F' (M c) z)) c (n_cut rk (F' (M c) z))) I2 e1 e2 e3 (vp_updL M3 c (n_cut rk (F' (M c) z))) I3 (vp_updL S3 (p + 1) (F' (S3 (p + 1)) (S3 (p + 1 + 1)))) i1 i2 i3 i4 (RLt_setG (RLt_dn hR (RLt_upd hR qR)) hc2 (fun q => i32_cut hrk (by rw [← hgk]; exact q))) (KPc_setG ⟨fun j q1 q2 q3 => ?_, qc.2⟩ hc2) (KPr_setG ⟨fun j hj => ?_, qr.2⟩ hc2) qk (by omega)
      · exact (uL_ne (by omega)).trans ((qc.1 j q1 (by omega) q3).trans (uL_ne (by omega)))
      · exact (uL_ne (by omega)).trans ((qr.1 j (by omega)).trans ((uL_ne (by omega)).trans (uL_ne (by omega))))
    · rw [uL_ne (show ¬ p = p + 1 by omega), lowP, t6432, uL_eq, lowS, show S3 (p + 1 + 1) = z from qs, ← q_cut]
      exact WR_mem hq (by omega)
  · rw [qz] at zz
    exact hV (p + 1) d f' g' k2 M3 I3 S3 i1 i2 i3 i4 _ (fun nz => absurd (by rw [qs]; exact zz) nz) (fun _ x hx => kz w x 1 0 k2 M2 I2 M3 I3 hw hx qR.2.2.2.1 qR.2.2.2.2.1 qR.2.2.2.2.2.1 (by decide) (fun e => absurd e (by decide)))
end R15
/-! Runs: bodies of routines (no normal end); states at a call and behind it. -/
def SN (N : Nat) (vF : CSt) (uF : RSt) (g md sz : Nat) (fk gk : Nat → Int32) (rk : Int32) (a b a' h n : Nat) : Prop :=
  ∀ m t f d k M I b1 b2 b3 p f' g' M' I' S c1 c2 c3 c4 (Q : CSt → RSt → Prop) (bud : Nat), RLt vF uF g md sz fk gk t f d k M I f' g' M' I' → 8 ≤ n + d → t + h + (8 - d) * 440 ≤ 6096 → m + 3200 * (g - k) + (b - a) ≤ bud → bud ≤ 40000000 → KRt N vF uF g md sz fk gk rk t f d k M b1 b2 b3 p f' g' M' S c1 c2 c3 c4 Q bud → KZt vF uF gk Q → RJ N vF uF m (t, f, a, d, k, M, I, b1, b2, b3) (p, a', d, f', g', k, M', I', S, c1, c2, c3, c4) Q
section R16
variable {vF v w : CSt} {uF u x : RSt} {t f s d k k2 n m N c g md sz sz2 h t0 t2 Pn fx gx : Nat} {fk fk2 gk : Nat → Int32} {M X : Nat → Int64} {I J : Nat → Int32} {p f' g' a b a' b' : Nat} {M' Y : Nat → Int64} {I' J' : Nat → Int32} {Va : Int64 → Prop} {rk pa pb pl ra rb : Int32}
theorem sn_seq (hA : SS N vF uF g md sz fk gk rk none none a b a' b' h n) (hB : SN N vF uF g md sz fk gk rk b c b' h n) (hab : a ≤ b) (hbc : b ≤ c) : SN N vF uF g md sz fk gk rk a c a' h n := by
  intro m t f d k M I b1 b2 b3 p f' g' M' I' S c1 c2 c3 c4 Q bud hR hn ht hm hb kr kz
  exact hA m t f d k M I b1 b2 b3 p f' g' M' I' S c1 c2 c3 c4 Q (m + 3200 * (g - k) + (b - a)) hR hn ht (by omega) (by omega) (fun m2 k2 M2 I2 e1 e2 e3 M3 I3 S3 i1 i2 i3 i4 qR qc qr qk qm => hB m2 t f d k2 M2 I2 e1 e2 e3 p f' g' M3 I3 S3 i1 i2 i3 i4 Q bud qR hn ht (by omega) hb (KRt_tr kr (Nat.le_refl _) (Nat.le_refl _) qc qr qk (Nat.le_refl _)) kz) (fun x x' hx => nomatch hx) (fun x x' hx => nomatch hx) (KRt_tr kr (Nat.le_refl _) (Nat.le_refl _) KPc_rf KPr_rf (Nat.le_refl _) (by omega)) kz
theorem sn_ret (hmd : ¬ md = 2) (hc : cdc vF a 40 pa pb pl) (r1 : rdc uF a' 33 ra rb) (hh : 1 ≤ h) : SN N vF uF g md sz fk gk rk a (a + 1) a' h n := by
  intro m t f d k M I b1 b2 b3 p f' g' M' I' S c1 c2 c3 c4 Q bud hR hn ht hm hb kr kz
  exact kr m k t p a a' t p M I b1 b2 b3 M' I' S c1 c2 c3 c4 hR (Nat.le_refl _) (by omega) KPc_rf KPr_rf (Nat.le_refl _) (by omega) (Or.inr ⟨hmd, rfl, rfl, pa, pb, pl, ra, rb, hc, r1⟩)
theorem sn_give (hmd : md = 2) (hE : SE N vF uF g md sz fk gk a b a' b' h Va n) (hc : cdc vF b 39 rk pb pl) (r1 : rdc uF b' 34 rk rb) (hh : 1 ≤ h) (hab : a ≤ b) : SN N vF uF g md sz fk gk rk a (b + 1) a' h n := by
  intro m t f d k M I b1 b2 b3 p f' g' M' I' S c1 c2 c3 c4 Q bud hR hn ht hm hb kr kz
  refine hE m t f d k M I b1 b2 b3 p f' g' M' I' S c1 c2 c3 c4 Q hR hn ht (by omega) (fun m2 k2 z M2 I2 e1 e2 e3 M3 I3 S3 i1 i2 i3 i4 qR qc qr qz qs qi qk qm => ?_) kz
  exact kr m2 k2 t p b b' (t + 1) (p + 1) M2 I2 e1 e2 e3 M3 I3 S3 i1 i2 i3 i4 (RLt_dn hR qR) (Nat.le_refl _) (by omega) qc qr qk (by omega) (Or.inl ⟨hmd, rfl, rfl, qz.trans qs.symm, pb, pl, rb, hc, r1⟩)
/-- a function's state at its begin -/
theorem RLt_in (hR : RLt vF uF g md sz fk gk t f d k M I f' g' M' I') (hd : d < 8) (hsz : sz2 ≤ 100) (ht0 : 2000 ≤ t0) (hX : ∀ c, c < 2000 → X c = M c) (hY : ∀ c, c < 2000 → Y c = M' c) (hm : ∀ c, c < sz2 → X (t0 + c) = Y (2100 + 100 * d + c)) (hi : ∀ c, c < sz2 → ¬ fk2 c = 4 → i32 (X (t0 + c))) : RLt vF uF g 2 sz2 fk2 gk (t0 + sz2) t0 (d + 1) k X I (2100 + 100 * d) gx Y I' :=
  ⟨hR.1, by omega, by omega, fun c hc => by rw [hX c hc, hY c hc]; exact hR.2.2.2.1 c hc, fun c hc hk => by rw [hX c hc]; exact hR.2.2.2.2.1 c hc hk, hR.2.2.2.2.2.1, fun q => absurd q (by decide), fun _ => ⟨by omega, by omega, ht0, by omega, hsz, hm, hi⟩⟩
/-- the caller's state behind it -/
theorem RLt_back {md2 : Nat} (h0 : RLt vF uF g md sz fk gk t f d k M I f' g' M' I') (h9 : RLt vF uF g md2 sz2 fk2 gk t2 t0 (d + 1) k2 X J fx gx Y J') (hX : ∀ c, 2000 ≤ c → c < t → X c = M c) (hY : ∀ c, 2100 ≤ c → c < 2100 + 100 * d → Y c = M' c) : RLt vF uF g md sz fk gk t f d k2 X J f' g' Y J' := by
  refine ⟨h9.1, h0.2.1, h0.2.2.1, h9.2.2.2.1, h9.2.2.2.2.1, h9.2.2.2.2.2.1, h0.2.2.2.2.2.2.1, fun q => ?_⟩
  obtain ⟨q1, q2, q3, q4, q5, q6, q7⟩ := h0.2.2.2.2.2.2.2 q
  exact ⟨q1, q2, q3, q4, q5, fun c hc => by rw [hX (f + c) (by omega) (by omega), hY (f' + c) (by omega) (by omega)]; exact q6 c hc, fun c hc hk => by rw [hX (f + c) (by omega) (by omega)]; exact q7 c hc hk⟩
end R16
/-! Runs: places. PLg: a place is read; PLs: it is set. Y: the reference's place. -/
def PLg (N : Nat) (vF : CSt) (uF : RSt) (g md sz : Nat) (fk gk : Nat → Int32) (kd o pa pb o' qa : Int32) (Y : Nat → Nat → Int32) : Prop :=
  ∀ t f d k M I f' g' M' I', RLt vF uF g md sz fk gk t f d k M I f' g' M' I' →
    (∀ p s qb S c1 c2 c3 c4 P, rdc uF s o' qa qb → Sr N uF (p + 1, s + 1, d, f', g', k, M', I', vp_updL S p (Y f' g').toInt64, c1, c2, c3, c4) P → Sr N uF (p, s, d, f', g', k, M', I', S, c1, c2, c3, c4) P) ∧
    ∃ z, (¬ kd = 4 → i32 z) ∧ RD N uF M' I' (Y f' g') kd z ∧ (∀ n s pl b1 b2 b3 P, t < 6096 → CJ N vF n (t + 1, f, s, d, k, vp_updL M t z, I, b1, b2, b3) P → Og N vF n o pa pb pl (t, f, s, d, k, M, I, b1, b2, b3) P)
def PLs (N : Nat) (vF : CSt) (uF : RSt) (g md sz : Nat) (fk gk : Nat → Int32) (kd o pa o' qa : Int32) (Y : Nat → Nat → Int32) : Prop :=
  ∀ t f d k M I f' g' M' I', RLt vF uF g md sz fk gk t f d k M I f' g' M' I' →
    (∀ p s qb S c1 c2 c3 c4 P, rdc uF s o' qa qb → Sr N uF (p + 1, s + 1, d, f', g', k, M', I', vp_updL S p (Y f' g').toInt64, c1, c2, c3, c4) P → Sr N uF (p, s, d, f', g', k, M', I', S, c1, c2, c3, c4) P) ∧
    ∀ z, ∃ Mn In Mn' In', WR N uF M' I' (Y f' g') kd z Mn' In' ∧ RLt vF uF g md sz fk gk t f d k Mn In f' g' Mn' In' ∧ (∀ c, 2000 ≤ c → ¬ (md = 2 ∧ f ≤ c ∧ c < f + sz) → Mn c = M c) ∧ (∀ c, 2100 ≤ c → c < 2100 + 100 * (if md = 2 then d - 1 else d) → Mn' c = M' c) ∧ (∀ n s pl b1 b2 b3 P, t < 6096 → M t = z → CJ N vF n (t, f, s, d, k, Mn, In, b1, b2, b3) P → Og N vF n o pa kd pl (t + 1, f, s, d, k, M, I, b1, b2, b3) P)
section R17
variable {vF v w : CSt} {uF u0 u x : RSt} {t f s d k k2 n m N c c0 c' e e' g md sz h h' bud : Nat} {fk gk : Nat → Int32} {M : Nat → Int64} {I b1 b2 b3 : Nat → Int32} {p s' f' g' a b a' b' : Nat} {M' S : Nat → Int64} {I' c1 c2 c3 c4 : Nat → Int32} {z : Int64} {Va Vb : Int64 → Prop} {rk rk' pa pb pl qa qb ql ra rb sa sb' ta tb ua ul va y kd o o' oS : Int32} {bx cx : Option (Nat × Nat)} {Y : Nat → Nat → Int32}
theorem PLg_G (hp : pa.toInt = (c : Int)) (hq : qa.toInt = (c : Int)) (hc : c < 2000) (hk : gk c = kd) : PLg N vF uF g md sz fk gk kd 3 pa pb 10 qa (fun _ _ => qa) := fun t f d k M I f' g' M' I' hR =>
  ⟨fun p s qb S c1 c2 c3 c4 P r hP => q_place r hP, M c, fun q => hR.2.2.2.2.1 c hc (by rw [hk]; exact q), by rw [hR.2.2.2.1 c hc]; exact RD_mem hq (by omega), fun n s pl b1 b2 b3 P ht hP => g_get hp (by omega) ht hP⟩
theorem PLs_G (hp : pa.toInt = (c : Int)) (hq : qa.toInt = (c : Int)) (hc : c < 2000) (hk : gk c = kd) (hkd : KD kd) : PLs N vF uF g md sz fk gk kd 7 pa 10 qa (fun _ _ => qa) := fun t f d k M I f' g' M' I' hR =>
  ⟨fun p s qb S c1 c2 c3 c4 P r hP => q_place r hP, fun z => ⟨vp_updL M c (n_cut kd z), I, vp_updL M' c (n_cut kd z), I', by rw [← q_cut]; exact WR_mem hq (by omega), RLt_setG hR hc (fun q => i32_cut hkd (by rw [← hk]; exact q)), fun j q1 _ => uL_ne (by omega), fun j q1 _ => uL_ne (by omega), fun n s pl b1 b2 b3 P ht hz hP => g_set hp (by omega) ht (by rw [hz]; exact hP)⟩⟩
theorem ofF {f c : Nat} (h : f + c < 100000) : (Int32.ofNat (f + c)).toInt = ((f + c : Nat) : Int) := Int32.toInt_ofNat_of_lt (by omega)
theorem PLg_F (hmd : md = 2) (hp : pa.toInt = (c : Int)) (hq : qa.toInt = (c : Int)) (hc : c < sz) (hk : fk c = kd) : PLg N vF uF g md sz fk gk kd 4 pa pb 12 qa (fun f' _ => Int32.ofNat (f' + c)) := by
  intro t f d k M I f' g' M' I' hR
  obtain ⟨q1, q2, q3, q4, q5, q6, q7⟩ := hR.2.2.2.2.2.2.2 hmd
  have hd := hR.2.1
  have hy := ofF (f := f') (c := c) (by omega)
  refine ⟨fun p s qb S c1 c2 c3 c4 P r hP => q_frame r (by rw [hy, hq]; omega) hP, M (f + c), fun q => q7 c hc (by rw [hk]; exact q), by rw [q6 c hc]; exact RD_mem hy (by omega), fun n s pl b1 b2 b3 P ht hP => g_getL hp (by omega) ht hP⟩
theorem PLs_F (hmd : md = 2) (hp : pa.toInt = (c : Int)) (hq : qa.toInt = (c : Int)) (hc : c < sz) (hk : fk c = kd) (hkd : KD kd) : PLs N vF uF g md sz fk gk kd 8 pa 12 qa (fun f' _ => Int32.ofNat (f' + c)) := by
  intro t f d k M I f' g' M' I' hR
  obtain ⟨q1, q2, q3, q4, q5, q6, q7⟩ := hR.2.2.2.2.2.2.2 hmd
  have hd := hR.2.1
  have hy := ofF (f := f') (c := c) (by omega)
  refine ⟨fun p s qb S c1 c2 c3 c4 P r hP => q_frame r (by rw [hy, hq]; omega) hP, fun z => ⟨vp_updL M (f + c) (n_cut kd z), I, vp_updL M' (f' + c) (n_cut kd z), I', by rw [← q_cut]; exact WR_mem hy (by omega), RLt_setF hmd hR hc (fun q => i32_cut hkd (by rw [← hk]; exact q)), fun j y1 y2 => uL_ne (fun y => y2 ⟨hmd, by omega, by omega⟩), fun j y1 y2 => uL_ne (by rw [if_pos hmd] at y2; omega), fun n s pl b1 b2 b3 P ht hz hP => g_setL hp (by omega) ht (by rw [hz]; exact hP)⟩⟩
theorem PLg_S (hmd : md = 1) (hp : pa.toInt = (c : Int)) (hq : qa.toInt = (c : Int)) (hc : c < sz) (hk : fk c = kd) : PLg N vF uF g md sz fk gk kd 4 pa pb 11 qa (fun _ g' => Int32.ofNat (g' + c)) := by
  intro t f d k M I f' g' M' I' hR
  obtain ⟨q1, q2, q3⟩ := hR.2.2.2.2.2.2.1 hmd
  have hy := ofF (f := g') (c := c) (by omega)
  refine ⟨fun p s qb S c1 c2 c3 c4 P r hP => q_self r (by rw [hy, hq]; omega) hP, M (f + c), fun q => hR.2.2.2.2.1 (f + c) (by omega) (by rw [q3 c hc, hk]; exact q), ?_, fun n s pl b1 b2 b3 P ht hP => g_getL hp (by omega) ht hP⟩
  rw [hR.2.2.2.1 (f + c) (by omega), q1]
  exact RD_mem hy (by omega)
theorem PLs_S (hmd : md = 1) (hp : pa.toInt = (c : Int)) (hq : qa.toInt = (c : Int)) (hc : c < sz) (hk : fk c = kd) (hkd : KD kd) : PLs N vF uF g md sz fk gk kd 8 pa 11 qa (fun _ g' => Int32.ofNat (g' + c)) := by
  intro t f d k M I f' g' M' I' hR
  obtain ⟨q1, q2, q3⟩ := hR.2.2.2.2.2.2.1 hmd
  have hy := ofF (f := g') (c := c) (by omega)
  refine ⟨fun p s qb S c1 c2 c3 c4 P r hP => q_self r (by rw [hy, hq]; omega) hP, fun z => ⟨vp_updL M (f + c) (n_cut kd z), I, vp_updL M' (f + c) (n_cut kd z), I', ?_, RLt_setG hR (by omega) (fun q => i32_cut hkd (by rw [← hk, ← q3 c hc]; exact q)), fun j y1 y2 => uL_ne (by omega), fun j y1 y2 => uL_ne (by omega), fun n s pl b1 b2 b3 P ht hz hP => g_setL hp (by omega) ht (by rw [hz]; exact hP)⟩⟩
  rw [← q_cut, q1]
  exact WR_mem hy (by omega)
theorem PLg_in (hp : pa.toInt = (c : Int)) (hq : qa.toInt = ((6000 + c : Nat) : Int)) (hkd : KD kd) (hc2 : c + nb kd ≤ 64) : PLg N vF uF g md sz fk gk kd 5 pa kd 10 qa (fun _ _ => qa) := by
  intro t f d k M I f' g' M' I' hR
  refine ⟨fun p s qb S c1 c2 c3 c4 P r hP => q_place r hP, n_cut kd (jn (cA vF 213) c (nb kd) 0), i32_cut hkd, ?_, fun n s pl b1 b2 b3 P ht hP => g_getin hp hkd hc2 ht hP⟩
  have e : n_cut kd (jn (cA vF 213) c (nb kd) 0) = r_cut kd (jn I' c (nb kd) 0) := by
    rw [q_cut, jn_cong (f := cA vF 213) (g := I') (nb kd) c c 0 (fun i hi => ((hR.2.2.2.2.2.1 (c + i) (by omega)).1).symm)]
  rw [e]
  exact RD_in hq hkd hc2
theorem PLg_O (hp : pa.toInt = (c : Int)) (hq : qa.toInt = ((5000 + c : Nat) : Int)) (hkd : KD kd) (hc2 : c + nb kd ≤ 64) : PLg N vF uF g md sz fk gk kd 6 pa kd 10 qa (fun _ _ => qa) := by
  intro t f d k M I f' g' M' I' hR
  refine ⟨fun p s qb S c1 c2 c3 c4 P r hP => q_place r hP, n_cut kd (jn I c (nb kd) 0), i32_cut hkd, ?_, fun n s pl b1 b2 b3 P ht hP => g_getout hp hkd hc2 ht hP⟩
  have e : n_cut kd (jn I c (nb kd) 0) = r_cut kd (jn I' (64 + c) (nb kd) 0) := by
    rw [q_cut, jn_cong (f := I) (g := I') (nb kd) c (64 + c) 0 (fun i hi => by
      have := (hR.2.2.2.2.2.1 (c + i) (by omega)).2
      rw [show 64 + c + i = 64 + (c + i) by omega]
      exact this.symm)]
  rw [e]
  exact RD_out hq hkd hc2
theorem PLs_O (hp : pa.toInt = (c : Int)) (hq : qa.toInt = ((5000 + c : Nat) : Int)) (hkd : KD kd) (hc2 : c + nb kd ≤ 64) : PLs N vF uF g md sz fk gk kd 9 pa 10 qa (fun _ _ => qa) := by
  intro t f d k M I f' g' M' I' hR
  have im := hR.2.2.2.2.2.1
  refine ⟨fun p s qb S c1 c2 c3 c4 P r hP => q_place r hP, fun z => ⟨M, sb z I c (nb kd), M', sb z I' (64 + c) (nb kd), WR_out hq hkd hc2, RLt_I hR (fun i hi => ⟨?_, ?_⟩), fun _ _ _ => rfl, fun _ _ _ => rfl, fun n s pl b1 b2 b3 P ht hz hP => g_setout hp hkd hc2 ht (by rw [hz]; exact hP)⟩⟩
  · rw [sb_lt _ _ _ (by omega)]
    exact (im i hi).1
  · exact (sb_rel (f := I) (g := I') (nb kd) c (fun i hi => ((im i hi).2).symm) i hi).symm
/-- x = E -/
theorem ss_set (hS : PLs N vF uF g md sz fk gk kd oS pa o' qa Y) (hE : SE N vF uF g md sz fk gk a b (a' + 1) b' h Va n) (hc : cdc vF b oS pa kd pl) (ho : oS.toInt < 64) (r1 : rdc uF a' o' qa qb) (r2 : rdc uF b' 18 kd rb) (hh : 1 ≤ h) (hab : a ≤ b) : SS N vF uF g md sz fk gk rk' bx cx a (b + 1) a' (b' + 1) h n := by
  intro m t f d k M I b1 b2 b3 p f' g' M' I' S c1 c2 c3 c4 Q bud hR hn ht hm hb kk kb kc kr kz
  have pl1 := (hS t f d k M I f' g' M' I' hR).1
  refine rj_r (hE m t f d k M I b1 b2 b3 (p + 1) f' g' M' I' (vp_updL S p (Y f' g').toInt64) c1 c2 c3 c4 Q hR hn ht (by omega) (fun m2 k2 z M2 I2 e1 e2 e3 M3 I3 S3 i1 i2 i3 i4 qR qc qr qz qs qi qk qm => ?_) kz) (fun P hP => pl1 p a' qb S c1 c2 c3 c4 P r1 hP)
  have low : S3 p = (Y f' g').toInt64 := (qr.1 p (by omega)).trans uL_eq
  obtain ⟨Mn, In, Mn', In', hw, hR2, k1, k2', hc'⟩ := (hS t f d k2 M2 I2 f' g' M3 I3 (RLt_dn hR qR)).2 z
  refine rj_r (x_c (by omega) hc ho (hc' _ _ _ _ _ _ _ (by omega) qz ?_)) (fun P hP => q_put (M' := Mn') (I' := In') r2 (by rw [low, t6432, qs]; exact hw) hP)
  refine kk (m2 + 1) k2 Mn In e1 e2 e3 Mn' In' S3 i1 i2 i3 i4 hR2 ⟨fun j q1 q2 q3 => (k1 j q1 q3).trans (qc.1 j q1 q2 q3), qc.2⟩ ⟨fun j hj => ?_, fun j q1 q2 => (k2' j q1 q2).trans (qr.2.1 j q1 q2), qr.2.2⟩ qk (by omega)
  exact (qr.1 j (by omega)).trans (uL_ne (by omega))
/-- x op= E: the number first, then E -/
theorem ss_op {F F' : Int64 → Int64 → Int64} {Zd : Int64 → Prop} (hG : PLg N vF uF g md sz fk gk kd o pa pb o' qa Y) (hS : PLs N vF uF g md sz fk gk kd oS ua o' qa Y) (hc0 : cdc vF a o pa pb pl) (ho : o.toInt < 64) (r1 : rdc uF a' o' qa qb) (r2 : rdc uF (a' + 1) 17 kd tb) (hE : SE N vF uF g md sz fk gk (a + 1) b (a' + 2) b' h' Va n) (hU : U2 N vF b Zd F) (hV : V2 N uF b' Zd F') (hF : ∀ x y, (¬ kd = 4 → i32 x) → Va y → ¬ Zd y → F x y = F' x y) (hs : cdc vF (b + 1) oS ua kd ul) (hoS : oS.toInt < 64) (r3 : rdc uF (b' + 1) 18 kd va) (hh : h' + 1 ≤ h) (hh2 : 2 ≤ h) (hab : a + 1 ≤ b) : SS N vF uF g md sz fk gk rk' bx cx a (b + 2) a' (b' + 2) h n := by
  intro m t f d k M I b1 b2 b3 p f' g' M' I' S c1 c2 c3 c4 Q bud hR hn ht hm hb kk kb kc kr kz
  have t2 := hR.2.2.1
  obtain ⟨pl1, x, hx1, hx2, hx3⟩ := hG t f d k M I f' g' M' I' hR
  refine rj_r (x_c (by omega) hc0 ho (hx3 _ _ _ _ _ _ _ (by omega) ?_)) (fun P hP => pl1 p a' qb S c1 c2 c3 c4 P r1 (q_peek (z := x) r2 (by rw [uL_eq, t6432]; exact hx2) hP))
  refine hE (m + 1) (t + 1) f d k (vp_updL M t x) I b1 b2 b3 (p + 2) f' g' M' I' (vp_updL (vp_updL S p (Y f' g').toInt64) (p + 1) x) c1 c2 c3 c4 Q (RLt_push hR) hn (by omega) (by omega) (fun m2 k2 z M2 I2 e1 e2 e3 M3 I3 S3 i1 i2 i3 i4 qR qc qr qz qs qi qk qm => ?_) kz
  have low : M2 t = x := (KPc_low qc hR).trans uL_eq
  have lowS : S3 (p + 1) = x := (qr.1 (p + 1) (by omega)).trans uL_eq
  have lowP : S3 p = (Y f' g').toInt64 := (qr.1 p (by omega)).trans ((uL_ne (by omega)).trans uL_eq)
  refine hU m2 t f d k2 M2 I2 e1 e2 e3 _ (by omega) (by omega) (fun nz => ?_) (fun zz w hw => ?_)
  · rw [qz] at nz
    have f1 := hF x z hx1 qi nz
    rw [low, qz]
    obtain ⟨Mn, In, Mn', In', hw, hR2, k1, k2', hc'⟩ := (hS t f d k2 (vp_updL M2 t (F x z)) I2 f' g' M3 I3 (RLt_dn hR (RLt_upd hR qR))).2 (F x z)
    refine rj_r (x_c (by omega) hs hoS (hc' _ _ _ _ _ _ _ (by omega) uL_eq ?_)) (fun P hP => hV (p + 1) d f' g' k2 M3 I3 S3 i1 i2 i3 i4 _ (fun _ => q_put (M' := Mn') (I' := In') r3 ?_ hP) (fun zz => absurd (by rw [qs] at zz; exact zz) nz))
    · refine kk (m2 + 2) k2 Mn In e1 e2 e3 Mn' In' (vp_updL S3 (p + 1) (F' (S3 (p + 1)) (S3 (p + 1 + 1)))) i1 i2 i3 i4 hR2 ⟨fun j q1 q2 q3 => ?_, qc.2⟩ ⟨fun j hj => ?_, fun j q1 q2 => (k2' j q1 q2).trans (qr.2.1 j q1 q2), qr.2.2⟩ qk (by omega)
      · exact (k1 j q1 q3).trans ((uL_ne (by omega)).trans ((qc.1 j q1 (by omega) q3).trans (uL_ne (by omega))))
      · exact (uL_ne (by omega)).trans ((qr.1 j (by omega)).trans ((uL_ne (by omega)).trans (uL_ne (by omega))))
    · rw [uL_ne (show ¬ p = p + 1 by omega), lowP, t6432, uL_eq, lowS, show S3 (p + 1 + 1) = z from qs, ← f1]
      exact hw
  · rw [qz] at zz
    exact hV (p + 1) d f' g' k2 M3 I3 S3 i1 i2 i3 i4 _ (fun nz => absurd (by rw [qs]; exact zz) nz) (fun _ x hx => kz w x 1 0 k2 M2 I2 M3 I3 hw hx qR.2.2.2.1 qR.2.2.2.2.1 qR.2.2.2.2.2.1 (by decide) (fun e => absurd e (by decide)))
/-- a bit is set -/
theorem bitq (o z y : Int64) : (if (z &&& 1) = (1 : Int64) then (o ||| ((1 : Int64) <<< y)) else (o &&& (((1 : Int64) <<< y) ^^^ (-1)))) = ((o &&& (((1 : Int64) <<< y) ^^^ (-1))) ||| ((z &&& 1) <<< y)) := by
  have h01 : (z &&& 1) = 0 ∨ (z &&& 1) = 1 := by
    have e := q_and z 1 1 (by decide) (by decide)
    have z0 : (0 : Int64).toInt = 0 := by decide
    have z1 : (1 : Int64).toInt = 1 := by decide
    rcases (by omega : (z &&& 1).toInt = 0 ∨ (z &&& 1).toInt = 1) with q | q
    · exact Or.inl (Int64.toInt_inj.mp (by rw [q, z0]))
    · exact Or.inr (Int64.toInt_inj.mp (by rw [q, z1]))
  have aux : ∀ m : Int64, o ||| m = (o &&& (m ^^^ (-1))) ||| m := by
    intro m
    apply Int64.toBitVec_inj.mp
    have e1 : (-1 : Int64).toBitVec = BitVec.allOnes 64 := by decide
    rw [Int64.toBitVec_or, Int64.toBitVec_or, Int64.toBitVec_and, Int64.toBitVec_xor, e1]
    ext i hi
    simp only [BitVec.getElem_or, BitVec.getElem_and, BitVec.getElem_xor, BitVec.getElem_allOnes]
    cases o.toBitVec[i] <;> cases m.toBitVec[i] <;> rfl
  rcases h01 with q | q
  · rw [q, if_neg (by decide)]
    have e0 : (0 : Int64) <<< y = 0 := by
      apply Int64.toBitVec_inj.mp
      simp
    rw [e0]
    simp
  · rw [q, if_pos rfl]
    exact aux _
/-- x.b = E -/
theorem ss_bit (hG : PLg N vF uF g md sz fk gk kd o pa pb o' qa Y) (hS : PLs N vF uF g md sz fk gk kd oS ua o' qa Y) (hE : SE N vF uF g md sz fk gk a b (a' + 1) b' h Va n) (hc0 : cdc vF b o pa pb pl) (ho : o.toInt < 64) (hc1 : cdc vF (b + 1) 21 rk sa ql) (hs : cdc vF (b + 2) oS ua kd ul) (hoS : oS.toInt < 64) (r1 : rdc uF a' o' qa qb) (r2 : rdc uF b' 19 rk kd) (hh : 2 ≤ h) (hab : a ≤ b) : SS N vF uF g md sz fk gk rk' bx cx a (b + 3) a' (b' + 1) h n := by
  intro m t f d k M I b1 b2 b3 p f' g' M' I' S c1 c2 c3 c4 Q bud hR hn ht hm hb kk kb kc kr kz
  have t2 := hR.2.2.1
  have pl1 := (hS t f d k M I f' g' M' I' hR).1
  refine rj_r (hE m t f d k M I b1 b2 b3 (p + 1) f' g' M' I' (vp_updL S p (Y f' g').toInt64) c1 c2 c3 c4 Q hR hn ht (by omega) (fun m2 k2 z M2 I2 e1 e2 e3 M3 I3 S3 i1 i2 i3 i4 qR qc qr qz qs qi qk qm => ?_) kz) (fun P hP => pl1 p a' qb S c1 c2 c3 c4 P r1 hP)
  have low : S3 p = (Y f' g').toInt64 := (qr.1 p (by omega)).trans uL_eq
  obtain ⟨-, x, hx1, hx2, hx3⟩ := hG (t + 1) f d k2 M2 I2 f' g' M3 I3 qR
  have eq := bitq x z (rk.toInt64 &&& 63)
  obtain ⟨y, hy⟩ : ∃ y, y = ((x &&& (((1 : Int64) <<< (rk.toInt64 &&& 63)) ^^^ (-1))) ||| ((z &&& 1) <<< (rk.toInt64 &&& 63))) := ⟨_, rfl⟩
  rw [← hy] at eq
  refine x_c (by omega) hc0 ho (hx3 _ _ _ _ _ _ _ (by omega) ?_)
  refine x_c (by omega) hc1 (by decide) (g_setbit (by omega) ?_)
  rw [uL_eq, uL_ne (show ¬ t = t + 1 by omega), qz, ← hy]
  obtain ⟨Mn, In, Mn', In', hw, hR2, k1, k2', hc'⟩ := (hS t f d k2 (vp_updL (vp_updL M2 (t + 1) x) t y) I2 f' g' M3 I3 (RLt_dn hR (RLt_upd hR (RLt_push qR)))).2 y
  refine rj_r (x_c (by omega) hs hoS (hc' _ _ _ _ _ _ _ (by omega) uL_eq ?_)) (fun P hP => q_putbit (z := x) (M' := Mn') (I' := In') r2 (by rw [low, t6432]; exact hx2) (by rw [low, t6432, qs, eq]; exact hw) hP)
  refine kk (m2 + 3) k2 Mn In e1 e2 e3 Mn' In' S3 i1 i2 i3 i4 hR2 ⟨fun j q1 q2 q3 => ?_, qc.2⟩ ⟨fun j hj => ?_, fun j q1 q2 => (k2' j q1 q2).trans (qr.2.1 j q1 q2), qr.2.2⟩ qk (by omega)
  · exact (k1 j q1 q3).trans ((uL_ne (by omega)).trans ((uL_ne (by omega)).trans (qc.1 j q1 q2 q3)))
  · exact (qr.1 j (by omega)).trans (uL_ne (by omega))
end R17
/-! Runs: rows that are set. -/
/-- an address A of the class and one, B, of the reference are one place -/
def ADR (md sz : Nat) (fk gk : Nat → Int32) (kd : Int32) (f f' A B : Nat) : Prop := (A = B ∧ A < 2000 ∧ gk A = kd) ∨ (md = 2 ∧ ∃ c, c < sz ∧ A = f + c ∧ B = f' + c ∧ fk c = kd)
/-- both put an address -/
def SPr (N : Nat) (vF : CSt) (uF : RSt) (g md sz : Nat) (fk gk : Nat → Int32) (kd : Int32) (a b a' b' h n : Nat) : Prop :=
  ∀ m t f d k M I b1 b2 b3 p f' g' M' I' S c1 c2 c3 c4 (Q : CSt → RSt → Prop), RLt vF uF g md sz fk gk t f d k M I f' g' M' I' → 8 ≤ n + d → t + h + (8 - d) * 440 ≤ 6096 → m + 3200 * (g - k) + (b - a) ≤ 40000000 →
    (∀ (m2 k2 A B : Nat) M2 I2 e1 e2 e3 M3 I3 S3 i1 i2 i3 i4, RLt vF uF g md sz fk gk (t + 1) f d k2 M2 I2 f' g' M3 I3 → KPc md sz t f d M M2 b1 b2 b3 e1 e2 e3 → KPr md d p M' M3 S S3 c1 c2 c3 c4 i1 i2 i3 i4 → (M2 t).toInt32.toInt = (A : Int) → (S3 p).toInt32.toInt = (B : Int) → ADR md sz fk gk kd f f' A B → k ≤ k2 → m2 + 3200 * (g - k2) ≤ m + 3200 * (g - k) + (b - a) →
      RJ N vF uF m2 (t + 1, f, b, d, k2, M2, I2, e1, e2, e3) (p + 1, b', d, f', g', k2, M3, I3, S3, i1, i2, i3, i4) Q) →
    KZt vF uF gk Q → RJ N vF uF m (t, f, a, d, k, M, I, b1, b2, b3) (p, a', d, f', g', k, M', I', S, c1, c2, c3, c4) Q
section R18
variable {vF v w : CSt} {uF u x : RSt} {t f s d k n m N c g md sz h h' A B : Nat} {fk gk : Nat → Int32} {M Mn Mo : Nat → Int64} {I b1 b2 b3 e1 e2 e3 h1 h2 h3 : Nat → Int32} {p s' f' g' a b a' b' c' c0 sn : Nat} {M' S Sn So : Nat → Int64} {I' c1 c2 c3 c4 i1 i2 i3 i4 j1 j2 j3 j4 : Nat → Int32} {z : Int64} {V Va : Int64 → Prop} {pa pb pl qa qb ql ya yb va vb sa sb' wa wb kd rk rk' rb ta tb ua ub ul : Int32} {bx cx : Option (Nat × Nat)}
theorem adr_lt (hR : RLt vF uF g md sz fk gk t f d k M I f' g' M' I') (hA : ADR md sz fk gk kd f f' A B) : A < t ∧ B < 5000 ∧ M A = M' B ∧ (¬ kd = 4 → i32 (M A)) := by
  have t2 := hR.2.2.1
  have d8 := hR.2.1
  rcases hA with ⟨q1, q2, q3⟩ | ⟨q1, c, q2, q3, q4, q5⟩
  · rw [← q1]
    exact ⟨by omega, by omega, hR.2.2.2.1 A q2, fun q => hR.2.2.2.2.1 A q2 (by rw [q3]; exact q)⟩
  · obtain ⟨o1, o2, o3, o4, o5, o6, o7⟩ := hR.2.2.2.2.2.2.2 q1
    rw [q3, q4]
    exact ⟨by omega, by omega, o6 c q2, fun q => o7 c q2 (by rw [q5]; exact q)⟩
theorem adr_wr (hR : RLt vF uF g md sz fk gk t f d k M I f' g' M' I') (hA : ADR md sz fk gk kd f f' A B) (hkd : KD kd) : RLt vF uF g md sz fk gk t f d k (vp_updL M A (n_cut kd z)) I f' g' (vp_updL M' B (n_cut kd z)) I' ∧ (∀ c, 2000 ≤ c → ¬ (md = 2 ∧ f ≤ c ∧ c < f + sz) → vp_updL M A (n_cut kd z) c = M c) ∧ (∀ c, 2100 ≤ c → c < 2100 + 100 * (if md = 2 then d - 1 else d) → vp_updL M' B (n_cut kd z) c = M' c) := by
  rcases hA with ⟨q1, q2, q3⟩ | ⟨q1, c, q2, q3, q4, q5⟩
  · rw [← q1]
    exact ⟨RLt_setG hR q2 (fun q => i32_cut hkd (by rw [← q3]; exact q)), fun c y1 y2 => uL_ne (by omega), fun c y1 y2 => uL_ne (by omega)⟩
  · obtain ⟨o1, o2, o3, o4, o5, o6, o7⟩ := hR.2.2.2.2.2.2.2 q1
    rw [q3, q4]
    exact ⟨RLt_setF q1 hR q2 (fun q => i32_cut hkd (by rw [← q5]; exact q)), fun j y1 y2 => uL_ne (fun y => y2 ⟨q1, by omega, by omega⟩), fun j y1 y2 => uL_ne (by rw [if_pos q1] at y2; omega)⟩
/-- of all -/
theorem sp_rowG (hE : SE N vF uF g md sz fk gk a b a' b' h Va n) (hr1 : cdc vF b 10 pa pb pl) (hp : pa.toInt = (c0 : Int)) (hpb : pb.toInt = (sn : Int)) (r2 : rdc uF b' 15 ya yb) (hya : ya.toInt = (sn : Int)) (r3 : rdc uF (b' + 1) 10 va vb) (hva : va.toInt = (c0 : Int)) (r4 : rdc uF (b' + 2) 14 sa sb') (hV : ∀ j, j < sn → gk (c0 + j) = kd) (hsz : c0 + sn ≤ 2000) (hab : a ≤ b) (hh : 1 ≤ h) : SPr N vF uF g md sz fk gk kd a (b + 1) a' (b' + 3) h n := by
  intro m t f d k M I b1 b2 b3 p f' g' M' I' S c1 c2 c3 c4 Q hR hn ht hm kk kz
  refine hE m t f d k M I b1 b2 b3 p f' g' M' I' S c1 c2 c3 c4 Q hR hn (by omega) (by omega) (fun m2 k2 z M2 I2 e1 e2 e3 M3 I3 S3 i1 i2 i3 i4 qR qc qr qz qs qi qk qm => ?_) kz
  have t2000 := hR.2.2.1
  have d8 := hR.2.1
  obtain ⟨A, B, x, y, hA, hB, hx, hy⟩ : ∃ (A B : Nat) (x y : Int32), A = c0 ∧ B = c0 ∧ x.toInt = (A : Int) ∧ y.toInt = (B : Int) := ⟨c0, c0, pa, va, rfl, rfl, hp, hva⟩
  have ex : x = pa := tI_eq.mpr (by omega)
  have ey : y = va := tI_eq.mpr (by omega)
  subst ex
  subst ey
  have bad : ∀ w x', CZ vF w 2 0 k2 M2 I2 → RZ uF x' 2 k2 M3 I3 → Q w x' := fun w x' hw hx' => kz w x' 2 0 k2 M2 I2 M3 I3 hw hx' qR.2.2.2.1 qR.2.2.2.2.1 qR.2.2.2.2.2.1 (by decide) (fun e => absurd e (by decide))
  refine x_c (by omega) hr1 (by decide) (g_row hp (by omega) (by omega) (fun j jz jl => ?_) (fun nj w hw => ?_))
  · rw [qz] at jz
    have j3 : j < sn := by omega
    have sj : (S3 p).toInt = (j : Int) := by rw [qs]; exact jz
    refine rj_r (kk (m2 + 1) k2 (A + j) (B + j) (vp_updL M2 t (x.toInt64 + M2 t)) I2 e1 e2 e3 M3 I3 (vp_updL (vp_updL S3 (p + 1) y.toInt64) p (S3 p + y.toInt64)) i1 i2 i3 i4 (RLt_upd hR qR) (KPc_upd qc) (KPr_up (KPr_up qr (by omega)) (Nat.le_refl _)) ?_ ?_ (Or.inl ⟨by omega, by omega, by rw [hA]; exact hV j j3⟩) qk (by omega)) (fun P hP => ?_)
    · rw [uL_eq, qz]
      exact ad64 (by rw [Int32.toInt_toInt64]; exact hx) jz (by omega)
    · rw [uL_eq, qs, show B + j = j + B by omega]
      exact ad64 jz (by rw [Int32.toInt_toInt64]; exact hy) (by omega)
    · refine q_asks r2 (fun j' y1 y2 => ?_) (fun nj => absurd ⟨by omega, by omega⟩ nj)
      refine q_place r3 (q_shift r4 ?_)
      rw [uL_ne (show ¬ p = p + 1 by omega), uL_eq]
      exact hP
  · rw [qz] at nj
    exact q_asks r2 (fun j' y1 y2 => absurd ⟨by rw [qs] at y1; omega, by rw [qs] at y1; omega⟩ nj) (fun _ x' hx' => bad w x' hw hx')
/-- a function's own -/
theorem sp_rowF (hmd : md = 2) (hE : SE N vF uF g md sz fk gk a b a' b' h Va n) (hr1 : cdc vF b 11 pa pb pl) (hp : pa.toInt = (c0 : Int)) (hpb : pb.toInt = (sn : Int)) (r2 : rdc uF b' 15 ya yb) (hya : ya.toInt = (sn : Int)) (r3 : rdc uF (b' + 1) 12 va vb) (hva : va.toInt = (c0 : Int)) (r4 : rdc uF (b' + 2) 14 sa sb') (hV : ∀ j, j < sn → fk (c0 + j) = kd) (hsz : c0 + sn ≤ sz) (hab : a ≤ b) (hh : 1 ≤ h) : SPr N vF uF g md sz fk gk kd a (b + 1) a' (b' + 3) h n := by
  intro m t f d k M I b1 b2 b3 p f' g' M' I' S c1 c2 c3 c4 Q hR hn ht hm kk kz
  refine hE m t f d k M I b1 b2 b3 p f' g' M' I' S c1 c2 c3 c4 Q hR hn (by omega) (by omega) (fun m2 k2 z M2 I2 e1 e2 e3 M3 I3 S3 i1 i2 i3 i4 qR qc qr qz qs qi qk qm => ?_) kz
  have t2000 := hR.2.2.1
  have d8 := hR.2.1
  obtain ⟨o1, o2, o3, o4, o5, o6, o7⟩ := qR.2.2.2.2.2.2.2 hmd
  obtain ⟨A, hA⟩ : ∃ A : Nat, A = f + c0 := ⟨_, rfl⟩
  obtain ⟨B, hB⟩ : ∃ B : Nat, B = f' + c0 := ⟨_, rfl⟩
  obtain ⟨x, hx⟩ : ∃ x : Int32, x.toInt = (A : Int) := ⟨Int32.ofNat A, Int32.toInt_ofNat_of_lt (by omega)⟩
  obtain ⟨y, hy⟩ : ∃ y : Int32, y.toInt = (B : Int) := ⟨Int32.ofNat B, Int32.toInt_ofNat_of_lt (by omega)⟩
  have hx' : x.toInt = ((f + c0 : Nat) : Int) := by rw [hx, hA]
  have hy' : y.toInt = (f' : Int) + va.toInt := by rw [hy, hB, hva]; omega
  have o4' := (hR.2.2.2.2.2.2.2 hmd).2.2.2.1
  have bad : ∀ w x', CZ vF w 2 0 k2 M2 I2 → RZ uF x' 2 k2 M3 I3 → Q w x' := fun w x' hw hx' => kz w x' 2 0 k2 M2 I2 M3 I3 hw hx' qR.2.2.2.1 qR.2.2.2.2.1 qR.2.2.2.2.2.1 (by decide) (fun e => absurd e (by decide))
  refine x_c (by omega) hr1 (by decide) (g_rowL hp hx' (by omega) (by omega) (fun j jz jl => ?_) (fun nj w hw => ?_))
  · rw [qz] at jz
    have j3 : j < sn := by omega
    have sj : (S3 p).toInt = (j : Int) := by rw [qs]; exact jz
    refine rj_r (kk (m2 + 1) k2 (A + j) (B + j) (vp_updL M2 t (x.toInt64 + M2 t)) I2 e1 e2 e3 M3 I3 (vp_updL (vp_updL S3 (p + 1) y.toInt64) p (S3 p + y.toInt64)) i1 i2 i3 i4 (RLt_upd hR qR) (KPc_upd qc) (KPr_up (KPr_up qr (by omega)) (Nat.le_refl _)) ?_ ?_ (Or.inr ⟨hmd, c0 + j, by omega, by omega, by omega, hV j j3⟩) qk (by omega)) (fun P hP => ?_)
    · rw [uL_eq, qz]
      exact ad64 (by rw [Int32.toInt_toInt64]; exact hx) jz (by omega)
    · rw [uL_eq, qs, show B + j = j + B by omega]
      exact ad64 jz (by rw [Int32.toInt_toInt64]; exact hy) (by omega)
    · refine q_asks r2 (fun j' y1 y2 => ?_) (fun nj => absurd ⟨by omega, by omega⟩ nj)
      refine q_frame r3 hy' (q_shift r4 ?_)
      rw [uL_ne (show ¬ p = p + 1 by omega), uL_eq]
      exact hP
  · rw [qz] at nj
    exact q_asks r2 (fun j' y1 y2 => absurd ⟨by rw [qs] at y1; omega, by rw [qs] at y1; omega⟩ nj) (fun _ x' hx' => bad w x' hw hx')
/-- an instance's own -/
theorem sp_rowS (hmd : md = 1) (hE : SE N vF uF g md sz fk gk a b a' b' h Va n) (hr1 : cdc vF b 11 pa pb pl) (hp : pa.toInt = (c0 : Int)) (hpb : pb.toInt = (sn : Int)) (r2 : rdc uF b' 15 ya yb) (hya : ya.toInt = (sn : Int)) (r3 : rdc uF (b' + 1) 11 va vb) (hva : va.toInt = (c0 : Int)) (r4 : rdc uF (b' + 2) 14 sa sb') (hV : ∀ j, j < sn → fk (c0 + j) = kd) (hsz : c0 + sn ≤ sz) (hab : a ≤ b) (hh : 1 ≤ h) : SPr N vF uF g md sz fk gk kd a (b + 1) a' (b' + 3) h n := by
  intro m t f d k M I b1 b2 b3 p f' g' M' I' S c1 c2 c3 c4 Q hR hn ht hm kk kz
  refine hE m t f d k M I b1 b2 b3 p f' g' M' I' S c1 c2 c3 c4 Q hR hn (by omega) (by omega) (fun m2 k2 z M2 I2 e1 e2 e3 M3 I3 S3 i1 i2 i3 i4 qR qc qr qz qs qi qk qm => ?_) kz
  have t2000 := hR.2.2.1
  have d8 := hR.2.1
  obtain ⟨o1, o2, o3⟩ := qR.2.2.2.2.2.2.1 hmd
  obtain ⟨A, hA⟩ : ∃ A : Nat, A = f + c0 := ⟨_, rfl⟩
  obtain ⟨B, hB⟩ : ∃ B : Nat, B = g' + c0 := ⟨_, rfl⟩
  obtain ⟨x, hx⟩ : ∃ x : Int32, x.toInt = (A : Int) := ⟨Int32.ofNat A, Int32.toInt_ofNat_of_lt (by omega)⟩
  obtain ⟨y, hy⟩ : ∃ y : Int32, y.toInt = (B : Int) := ⟨Int32.ofNat B, Int32.toInt_ofNat_of_lt (by omega)⟩
  have hx' : x.toInt = ((f + c0 : Nat) : Int) := by rw [hx, hA]
  have hy' : y.toInt = (g' : Int) + va.toInt := by rw [hy, hB, hva]; omega
  have bad : ∀ w x', CZ vF w 2 0 k2 M2 I2 → RZ uF x' 2 k2 M3 I3 → Q w x' := fun w x' hw hx' => kz w x' 2 0 k2 M2 I2 M3 I3 hw hx' qR.2.2.2.1 qR.2.2.2.2.1 qR.2.2.2.2.2.1 (by decide) (fun e => absurd e (by decide))
  refine x_c (by omega) hr1 (by decide) (g_rowL hp hx' (by omega) (by omega) (fun j jz jl => ?_) (fun nj w hw => ?_))
  · rw [qz] at jz
    have j3 : j < sn := by omega
    have sj : (S3 p).toInt = (j : Int) := by rw [qs]; exact jz
    refine rj_r (kk (m2 + 1) k2 (A + j) (B + j) (vp_updL M2 t (x.toInt64 + M2 t)) I2 e1 e2 e3 M3 I3 (vp_updL (vp_updL S3 (p + 1) y.toInt64) p (S3 p + y.toInt64)) i1 i2 i3 i4 (RLt_upd hR qR) (KPc_upd qc) (KPr_up (KPr_up qr (by omega)) (Nat.le_refl _)) ?_ ?_ (Or.inl ⟨by omega, by omega, by rw [hA, Nat.add_assoc, o3 (c0 + j) (by omega)]; exact hV j j3⟩) qk (by omega)) (fun P hP => ?_)
    · rw [uL_eq, qz]
      exact ad64 (by rw [Int32.toInt_toInt64]; exact hx) jz (by omega)
    · rw [uL_eq, qs, show B + j = j + B by omega]
      exact ad64 jz (by rw [Int32.toInt_toInt64]; exact hy) (by omega)
    · refine q_asks r2 (fun j' y1 y2 => ?_) (fun nj => absurd ⟨by omega, by omega⟩ nj)
      refine q_self r3 hy' (q_shift r4 ?_)
      rw [uL_ne (show ¬ p = p + 1 by omega), uL_eq]
      exact hP
  · rw [qz] at nj
    exact q_asks r2 (fun j' y1 y2 => absurd ⟨by rw [qs] at y1; omega, by rw [qs] at y1; omega⟩ nj) (fun _ x' hx' => bad w x' hw hx')
/-- x[i] = E -/
theorem ss_rset {x1 : Nat} (hP : SPr N vF uF g md sz fk gk kd a b a' b' x1 n) (hE : SE N vF uF g md sz fk gk b c b' c' h' Va n) (hc : cdc vF c 15 pa kd pl) (r1 : rdc uF c' 18 kd rb) (hkd : KD kd) (hab : a ≤ b) (hbc : b ≤ c) (hh1 : x1 ≤ h) (hh2 : h' + 1 ≤ h) (hh : 2 ≤ h) : SS N vF uF g md sz fk gk rk' bx cx a (c + 1) a' (c' + 1) h n := by
  intro m t f d k M I b1 b2 b3 p f' g' M' I' S c1 c2 c3 c4 Q bud hR hn ht hm hb kk kb kc kr kz
  refine hP m t f d k M I b1 b2 b3 p f' g' M' I' S c1 c2 c3 c4 Q hR hn (by omega) (by omega) (fun m2 k2 A B M2 I2 e1 e2 e3 M3 I3 S3 i1 i2 i3 i4 qR qc qr qA qB qD qk qm => ?_) kz
  refine hE m2 (t + 1) f d k2 M2 I2 e1 e2 e3 (p + 1) f' g' M3 I3 S3 i1 i2 i3 i4 Q qR hn (by omega) (by omega) (fun m4 k4 z M4 I4 h1 h2 h3 M5 I5 S5 j1 j2 j3 j4 wR wc wr wz ws wi wk wm => ?_) kz
  have low : M4 t = M2 t := KPc_low wc hR
  have lowS : S5 p = S3 p := KPr_low wr
  have hR5 := RLt_dn hR wR
  obtain ⟨a1, a2, a3, a4⟩ := adr_lt hR5 qD
  obtain ⟨w1, w2, w3⟩ := adr_wr (z := z) hR5 qD hkd
  refine rj_r (x_c (by omega) hc (by decide) (g_assign (c := A) (by rw [low]; exact qA) (by omega) (by omega) ?_)) (fun P hP => q_put (M' := vp_updL M5 B (n_cut kd z)) (I' := I5) r1 (by rw [lowS, ws, ← q_cut]; exact WR_mem qB (by omega)) hP)
  rw [wz]
  exact kk (m4 + 1) k4 (vp_updL M4 A (n_cut kd z)) I4 h1 h2 h3 (vp_updL M5 B (n_cut kd z)) I5 S5 j1 j2 j3 j4 w1 ⟨fun j q1 q2 q3 => (w2 j q1 q3).trans ((wc.1 j q1 (by omega) q3).trans (qc.1 j q1 q2 q3)), (KPc_tr (by omega) qc wc).2⟩ ⟨fun j hj => (wr.1 j (by omega)).trans (qr.1 j hj), fun j q1 q2 => (w3 j q1 q2).trans ((wr.2.1 j q1 q2).trans (qr.2.1 j q1 q2)), (KPr_tr (by omega) qr wr).2.2⟩ (by omega) (by omega)
/-- x[i] op= E -/
theorem ss_rop {F F' : Int64 → Int64 → Int64} {Zd : Int64 → Prop} {x1 : Nat} (hP : SPr N vF uF g md sz fk gk kd a b a' b' x1 n) (hc0 : cdc vF b 13 pa pb pl) (r0 : rdc uF b' 17 kd tb) (hE : SE N vF uF g md sz fk gk (b + 1) c (b' + 1) c' h' Va n) (hU : U2 N vF c Zd F) (hV : V2 N uF c' Zd F') (hF : ∀ x y, (¬ kd = 4 → i32 x) → Va y → ¬ Zd y → F x y = F' x y) (hc : cdc vF (c + 1) 15 ua kd ul) (r1 : rdc uF (c' + 1) 18 kd rb) (hkd : KD kd) (hab : a ≤ b) (hbc : b + 1 ≤ c) (hh1 : x1 ≤ h) (hh2 : h' + 2 ≤ h) (hh : 3 ≤ h) : SS N vF uF g md sz fk gk rk' bx cx a (c + 2) a' (c' + 2) h n := by
  intro m t f d k M I b1 b2 b3 p f' g' M' I' S c1 c2 c3 c4 Q bud hR hn ht hm hb kk kb kc kr kz
  refine hP m t f d k M I b1 b2 b3 p f' g' M' I' S c1 c2 c3 c4 Q hR hn (by omega) (by omega) (fun m2 k2 A B M2 I2 e1 e2 e3 M3 I3 S3 i1 i2 i3 i4 qR qc qr qA qB qD qk qm => ?_) kz
  obtain ⟨a1, a2, a3, a4⟩ := adr_lt (RLt_dn hR qR) qD
  refine rj_r (x_c (by omega) hc0 (by decide) (g_fetchT (c := A) qA (by omega) (by omega) ?_)) (fun P hP => q_peek (z := M2 A) r0 (by rw [a3]; exact RD_mem qB (by omega)) hP)
  refine hE (m2 + 1) (t + 2) f d k2 (vp_updL M2 (t + 1) (M2 A)) I2 e1 e2 e3 (p + 2) f' g' M3 I3 (vp_updL S3 (p + 1) (M2 A)) i1 i2 i3 i4 Q (RLt_push qR) hn (by omega) (by omega) (fun m4 k4 z M4 I4 h1 h2 h3 M5 I5 S5 j1 j2 j3 j4 wR wc wr wz ws wi wk wm => ?_) kz
  have low1 : M4 (t + 1) = M2 A := (KPc_low wc qR).trans uL_eq
  have low : M4 t = M2 t := (wc.1 t (hR.2.2.1) (by omega) (fun q => by have := (hR.2.2.2.2.2.2.2 q.1).2.2.2.1; omega)).trans (uL_ne (by omega))
  have lowS1 : S5 (p + 1) = M2 A := (wr.1 (p + 1) (by omega)).trans uL_eq
  have lowS : S5 p = S3 p := (wr.1 p (by omega)).trans (uL_ne (by omega))
  refine hU m4 (t + 1) f d k4 M4 I4 h1 h2 h3 _ (by omega) (by omega) (fun nz => ?_) (fun zz w hw => ?_)
  · have nz : ¬ Zd z := by rw [← wz]; exact nz
    have f1 := hF (M2 A) z a4 wi nz
    rw [low1, show M4 (t + 1 + 1) = z from wz]
    have hR5 := RLt_dn hR (RLt_dn qR wR)
    have ht2 : RLt vF uF g md sz fk gk t f d k4 (vp_updL M4 (t + 1) (F (M2 A) z)) I4 f' g' M5 I5 := RLt_dn hR (RLt_upd qR wR)
    obtain ⟨w1, w2, w3⟩ := adr_wr (z := F (M2 A) z) ht2 qD hkd
    refine rj_r (x_c (by omega) hc (by decide) (g_assign (c := A) (by rw [uL_ne (show ¬ t = t + 1 by omega), low]; exact qA) (by omega) (by omega) ?_)) (fun P hP => hV (p + 1) d f' g' k4 M5 I5 S5 j1 j2 j3 j4 _ (fun _ => q_put (M' := vp_updL M5 B (n_cut kd (F (M2 A) z))) (I' := I5) r1 ?_ hP) (fun zz => absurd (by rw [show S5 (p + 1 + 1) = z from ws] at zz; exact zz) nz))
    · rw [uL_eq]
      refine kk (m4 + 2) k4 (vp_updL (vp_updL M4 (t + 1) (F (M2 A) z)) A (n_cut kd (F (M2 A) z))) I4 h1 h2 h3 (vp_updL M5 B (n_cut kd (F (M2 A) z))) I5 (vp_updL S5 (p + 1) (F' (S5 (p + 1)) (S5 (p + 1 + 1)))) j1 j2 j3 j4 w1 ⟨fun j q1 q2 q3 => ?_, ?_⟩ ⟨fun j hj => ?_, fun j q1 q2 => (w3 j q1 q2).trans ((wr.2.1 j q1 q2).trans (qr.2.1 j q1 q2)), ?_⟩ (by omega) (by omega)
      · exact (w2 j q1 q3).trans ((uL_ne (by omega)).trans ((wc.1 j q1 (by omega) q3).trans ((uL_ne (by omega)).trans (qc.1 j q1 q2 q3))))
      · intro i hi
        obtain ⟨x1, x2, x3⟩ := qc.2 i hi
        obtain ⟨y1, y2, y3⟩ := wc.2 i hi
        exact ⟨y1.trans x1, y2.trans x2, y3.trans x3⟩
      · exact (uL_ne (by omega)).trans ((wr.1 j (by omega)).trans ((uL_ne (by omega)).trans (qr.1 j (by omega))))
      · intro i hi
        obtain ⟨x1, x2, x3, x4⟩ := qr.2.2 i hi
        obtain ⟨y1, y2, y3, y4⟩ := wr.2.2 i hi
        exact ⟨y1.trans x1, y2.trans x2, y3.trans x3, y4.trans x4⟩
    · rw [uL_ne (show ¬ p = p + 1 by omega), lowS, uL_eq, lowS1, show S5 (p + 1 + 1) = z from ws, ← f1, ← q_cut]
      exact WR_mem qB (by omega)
  · have zz : Zd z := by rw [← wz]; exact zz
    exact hV (p + 1) d f' g' k4 M5 I5 S5 j1 j2 j3 j4 _ (fun nz => absurd (by rw [show S5 (p + 1 + 1) = z from ws]; exact zz) nz) (fun _ x hx => kz w x 1 0 k4 M4 I4 M5 I5 hw hx wR.2.2.2.1 wR.2.2.2.2.1 wR.2.2.2.2.2.1 (by decide) (fun e => absurd e (by decide)))
/-- x[i].b = E -/
theorem ss_rbit {x1 : Nat} (hP : SPr N vF uF g md sz fk gk kd a b a' b' x1 n) (hE : SE N vF uF g md sz fk gk b c b' c' h' Va n) (hc0 : cdc vF c 14 pa pb pl) (hc1 : cdc vF (c + 1) 21 rk sa ql) (hc : cdc vF (c + 2) 15 ua kd ul) (r1 : rdc uF c' 19 rk kd) (hkd : KD kd) (hab : a ≤ b) (hbc : b ≤ c) (hh1 : x1 ≤ h) (hh2 : h' + 1 ≤ h) (hh : 3 ≤ h) : SS N vF uF g md sz fk gk rk' bx cx a (c + 3) a' (c' + 1) h n := by
  intro m t f d k M I b1 b2 b3 p f' g' M' I' S c1 c2 c3 c4 Q bud hR hn ht hm hb kk kb kc kr kz
  refine hP m t f d k M I b1 b2 b3 p f' g' M' I' S c1 c2 c3 c4 Q hR hn (by omega) (by omega) (fun m2 k2 A B M2 I2 e1 e2 e3 M3 I3 S3 i1 i2 i3 i4 qR qc qr qA qB qD qk qm => ?_) kz
  refine hE m2 (t + 1) f d k2 M2 I2 e1 e2 e3 (p + 1) f' g' M3 I3 S3 i1 i2 i3 i4 Q qR hn (by omega) (by omega) (fun m4 k4 z M4 I4 h1 h2 h3 M5 I5 S5 j1 j2 j3 j4 wR wc wr wz ws wi wk wm => ?_) kz
  have low : M4 t = M2 t := KPc_low wc hR
  have lowS : S5 p = S3 p := KPr_low wr
  obtain ⟨a1, a2, a3, a4⟩ := adr_lt (RLt_dn hR wR) qD
  have eq := bitq (M4 A) z (rk.toInt64 &&& 63)
  obtain ⟨y, hy⟩ : ∃ y, y = ((M4 A &&& (((1 : Int64) <<< (rk.toInt64 &&& 63)) ^^^ (-1))) ||| ((z &&& 1) <<< (rk.toInt64 &&& 63))) := ⟨_, rfl⟩
  rw [← hy] at eq
  refine x_c (by omega) hc0 (by decide) (g_fetchU (c := A) (by rw [low]; exact qA) (by omega) (by omega) ?_)
  refine x_c (by omega) hc1 (by decide) (g_setbit (by omega) ?_)
  rw [show vp_updL M4 (t + 2) (M4 A) (t + 1 + 1) = M4 A from uL_eq, uL_ne (show ¬ t + 1 = t + 2 by omega), wz, ← hy]
  have ht2 : RLt vF uF g md sz fk gk t f d k4 (vp_updL (vp_updL M4 (t + 2) (M4 A)) (t + 1) y) I4 f' g' M5 I5 := RLt_dn hR (RLt_upd qR (RLt_push wR))
  obtain ⟨w1, w2, w3⟩ := adr_wr (z := y) ht2 qD hkd
  refine rj_r (x_c (by omega) hc (by decide) (g_assign (c := A) (by rw [uL_ne (show ¬ t = t + 1 by omega), uL_ne (show ¬ t = t + 2 by omega), low]; exact qA) (by omega) (by omega) ?_)) (fun P hP => q_putbit (z := M4 A) (M' := vp_updL M5 B (n_cut kd y)) (I' := I5) r1 (by rw [lowS, a3]; exact RD_mem qB (by omega)) (by rw [lowS, ws, eq, ← q_cut]; exact WR_mem qB (by omega)) hP)
  rw [uL_eq]
  refine kk (m4 + 3) k4 (vp_updL (vp_updL (vp_updL M4 (t + 2) (M4 A)) (t + 1) y) A (n_cut kd y)) I4 h1 h2 h3 (vp_updL M5 B (n_cut kd y)) I5 S5 j1 j2 j3 j4 w1 ⟨fun j q1 q2 q3 => ?_, (KPc_tr (by omega) qc wc).2⟩ ⟨fun j hj => (wr.1 j (by omega)).trans (qr.1 j hj), fun j q1 q2 => (w3 j q1 q2).trans ((wr.2.1 j q1 q2).trans (qr.2.1 j q1 q2)), (KPr_tr (by omega) qr wr).2.2⟩ (by omega) (by omega)
  exact (w2 j q1 q3).trans ((uL_ne (by omega)).trans ((uL_ne (by omega)).trans ((wc.1 j q1 (by omega) q3).trans (qc.1 j q1 q2 q3))))
end R18
/-! Runs: for. -/
section R19
variable {vF v w : CSt} {uF u x : RSt} {t f s d k n m N c c' e e' g md sz h h' h2 bud : Nat} {fk gk : Nat → Int32} {M : Nat → Int64} {I b1 b2 b3 : Nat → Int32} {p s' f' g' a b a' b' : Nat} {M' S : Nat → Int64} {I' c1 c2 c3 c4 : Nat → Int32} {z : Int64} {Va Vb : Int64 → Prop} {rk kd o pa pb o' qa qb q5 l1 l4 xa xb xl sa sb' sl ya yb yl ja jb jl da db dl ta tb ra rb rb2 rb3 ua ub va vb wa wb : Int32} {bx cx : Option (Nat × Nat)} {Y : Nat → Nat → Int32}
theorem ss_for (hG : PLg N vF uF g md sz fk gk kd o pa pb o' qa Y) (ho : o.toInt < 64) (hE : SE N vF uF g md sz fk gk a c a' c' h' Va n) (hB : SS N vF uF g md sz fk gk rk (some (e + 7, e' + 9)) (some (e, e')) (c + 3) e (c' + 4) e' h2 n) (hI : SS N vF uF g md sz fk gk rk none none (e + 2) (e + 6) (e' + 3) (e' + 8) h2 n)
    (i1 : cdc vF c o pa pb l1) (i2 : cdc vF (c + 1) 34 xa xb xl) (hx : xa.toInt = ((e + 7 : Nat) : Int)) (i3 : cdc vF (c + 2) 64 sa sb' sl) (i4 : cdc vF e o pa pb l4) (i5 : cdc vF (e + 1) 35 ya yb yl) (hy : ya.toInt = ((e + 7 : Nat) : Int)) (i8 : cdc vF (e + 6) 30 ja jb jl) (hj : ja.toInt = (c : Int)) (i9 : cdc vF (e + 7) 16 da db dl) (hg : (cI vF 23).toInt = (g : Int)) (hg' : (uF.1 105).toInt = (g : Int))
    (r1 : rdc uF c' o' qa qb) (r2 : rdc uF (c' + 1) 16 kd rb) (r3 : rdc uF (c' + 2) 38 ta tb) (ht3 : ta.toInt = ((e' + 9 : Nat) : Int)) (r4 : rdc uF (c' + 3) 1 ra rb2) (r5 : rdc uF e' o' qa q5) (r6 : rdc uF (e' + 1) 16 kd rb3) (r7 : rdc uF (e' + 2) 39 ua ub) (hu : ua.toInt = ((e' + 9 : Nat) : Int)) (r8 : rdc uF (e' + 8) 28 va vb) (hv : va.toInt = (c' : Int)) (r9 : rdc uF (e' + 9) 37 wa wb)
    (hab : a ≤ c) (hce : c + 3 ≤ e) (hsz : e + 8 - c ≤ 3200) (hh1 : h' ≤ h) (hh2 : h2 + 1 ≤ h) (hh : 2 ≤ h) : SS N vF uF g md sz fk gk rk bx cx a (e + 8) a' (e' + 10) h n := by
  intro m t f d k M I b1 b2 b3 p f' g' M' I' S c1 c2 c3 c4 Q bud hR hn ht hm hb kk _ _ kr kz
  have t2 := hR.2.2.1
  refine hE m t f d k M I b1 b2 b3 p f' g' M' I' S c1 c2 c3 c4 Q hR hn (by omega) (by omega) (fun m0 k0 L M0 I0 e1 e2 e3 M1 I1 S1 i1' i2' i3' i4' qR qc qr qz qs qi qk qm => ?_) kz
  have out : ∀ (m2 k2 : Nat) (M2 : Nat → Int64) (I2 h1 h2 h3 : Nat → Int32) (M3 : Nat → Int64) (I3 : Nat → Int32) (S3 : Nat → Int64) (j1 j2 j3 j4 : Nat → Int32), RLt vF uF g md sz fk gk (t + 1) f d k2 M2 I2 f' g' M3 I3 → KPc md sz t f d M M2 b1 b2 b3 h1 h2 h3 → KPr md d p M' M3 S S3 c1 c2 c3 c4 j1 j2 j3 j4 → k ≤ k2 → m2 + 1 + 3200 * (g - k2) ≤ bud → RJ N vF uF m2 (t + 1, f, e + 7, d, k2, M2, I2, h1, h2, h3) (p + 1, e' + 9, d, f', g', k2, M3, I3, S3, j1, j2, j3, j4) Q :=
    fun m2 k2 M2 I2 h1 h2 h3 M3 I3 S3 j1 j2 j3 j4 wR wc wr wk wm => rj_r (x_c (by omega) i9 (by decide) (g_drop (by omega) (kk (m2 + 1) k2 M2 I2 h1 h2 h3 M3 I3 S3 j1 j2 j3 j4 (RLt_dn hR wR) wc wr wk (by omega)))) (fun P hP => q_drop r9 hP)
  have step : ∀ (m1 k1 : Nat) (N1 : Nat → Int64) (J1 x1 x2 x3 : Nat → Int32) (N2 : Nat → Int64) (J2 : Nat → Int32) (T : Nat → Int64) (y1 y2 y3 y4 : Nat → Int32), RLt vF uF g md sz fk gk (t + 1) f d k1 N1 J1 f' g' N2 J2 → N1 t = L → T p = L → KPc md sz t f d M N1 b1 b2 b3 x1 x2 x3 → KPr md d p M' N2 S T c1 c2 c3 c4 y1 y2 y3 y4 → k ≤ k1 → m1 + 3200 * (g - k1) + (e + 8 - c) ≤ bud →
      (k1 < g → ∀ (m3 k3 : Nat) (N3 : Nat → Int64) (J3 z1 z2 z3 : Nat → Int32) (N4 : Nat → Int64) (J4 : Nat → Int32) (T3 : Nat → Int64) (w1 w2 w3 w4 : Nat → Int32), RLt vF uF g md sz fk gk (t + 1) f d k3 N3 J3 f' g' N4 J4 → N3 t = L → T3 p = L → KPc md sz t f d M N3 b1 b2 b3 z1 z2 z3 → KPr md d p M' N4 S T3 c1 c2 c3 c4 w1 w2 w3 w4 → k1 + 1 ≤ k3 → m3 + 3200 * (g - k3) + (e + 8 - c) ≤ bud → RJ N vF uF m3 (t + 1, f, c, d, k3, N3, J3, z1, z2, z3) (p + 1, c', d, f', g', k3, N4, J4, T3, w1, w2, w3, w4) Q) →
      RJ N vF uF m1 (t + 1, f, c, d, k1, N1, J1, x1, x2, x3) (p + 1, c', d, f', g', k1, N2, J2, T, y1, y2, y3, y4) Q := by
    intro m1 k1 N1 J1 x1 x2 x3 N2 J2 T y1 y2 y3 y4 wR wL wT wc wr wk wm again
    obtain ⟨pl1, z, z1, z2, z3⟩ := hG (t + 1) f d k1 N1 J1 f' g' N2 J2 wR
    refine rj_r (x_c (by omega) i1 ho (z3 _ _ _ _ _ _ _ (by omega) ?_)) (fun P hP => pl1 (p + 1) c' qb T y1 y2 y3 y4 P r1 (q_get (z := z) r2 (by rw [uL_eq, t6432]; exact z2) (by rw [uL_2]; exact hP)))
    have wR2 : RLt vF uF g md sz fk gk (t + 1) f d k1 (vp_updL N1 (t + 1) z) J1 f' g' N2 J2 := RLt_dn wR (RLt_push wR)
    have wc2 : KPc md sz t f d M (vp_updL N1 (t + 1) z) b1 b2 b3 x1 x2 x3 := ⟨fun j q1 q2 q3 => (uL_ne (by omega)).trans (wc.1 j q1 q2 q3), wc.2⟩
    have wr2 : KPr md d p M' N2 S (vp_updL T (p + 1) z) c1 c2 c3 c4 y1 y2 y3 y4 := ⟨fun j q1 => (uL_ne (by omega)).trans (wr.1 j q1), wr.2⟩
    have L1 : vp_updL N1 (t + 1) z t = L := (uL_ne (by omega)).trans wL
    have T1 : vp_updL T (p + 1) z p = L := (uL_ne (by omega)).trans wT
    refine x_c (by omega) i2 (by decide) (g_above hx (by omega) (fun ab => ?_) (fun ab => ?_))
    · rw [L1, uL_eq] at ab
      exact rj_r (out (m1 + 2) k1 _ J1 x1 x2 x3 N2 J2 _ y1 y2 y3 y4 wR2 wc2 wr2 wk (by omega)) (fun P hP => q_above r3 ht3 (fun _ => hP) (fun q => absurd (by rw [T1, uL_eq]; exact ab) q))
    rw [L1, uL_eq] at ab
    refine rj_r (x_cost (o := 0) (g := g) (by omega) i3 (by decide) (by decide) hg r4 hg' wR.1 (fun hk9 => ?_) (fun w x hw hx => kz w x 3 0 k1 _ J1 N2 J2 hw hx wR2.2.2.2.1 wR2.2.2.2.2.1 wR2.2.2.2.2.2.1 (by decide) (fun e => absurd e (by decide)))) (fun P hP => q_above r3 ht3 (fun q => absurd (by rw [T1, uL_eq] at q; exact q) ab) (fun _ => hP))
    refine g_none ?_
    have cont : KXg N vF uF g md sz fk gk (t + 1) f d (k1 + 1) (vp_updL N1 (t + 1) z) x1 x2 x3 (p + 1) f' g' N2 (vp_updL T (p + 1) z) y1 y2 y3 y4 Q e e' (m1 + 3 + 3200 * (g - (k1 + 1)) + (e - (c + 3))) := by
      intro m2 k2 M2 I2 h1 h2 h3 M3 I3 S3 j1 j2 j3 j4 vR vc vr vk vm
      have g2 := vR.1
      have L2 : M2 t = L := (KPc_low vc hR).trans L1
      have T2 : S3 p = L := (KPr_low vr).trans T1
      have vc2 := KPc_tr (Nat.le_succ t) wc2 vc
      have vr2 := KPr_tr (Nat.le_succ p) wr2 vr
      obtain ⟨pl2, y, y1', y2', y3'⟩ := hG (t + 1) f d k2 M2 I2 f' g' M3 I3 vR
      refine rj_r (x_c (by omega) i4 ho (y3' _ _ _ _ _ _ _ (by omega) ?_)) (fun P hP => pl2 (p + 1) e' q5 S3 j1 j2 j3 j4 P r5 (q_get (z := y) r6 (by rw [uL_eq, t6432]; exact y2') (by rw [uL_2]; exact hP)))
      have vR3 : RLt vF uF g md sz fk gk (t + 1) f d k2 (vp_updL M2 (t + 1) y) I2 f' g' M3 I3 := RLt_dn vR (RLt_push vR)
      have vc3 : KPc md sz t f d M (vp_updL M2 (t + 1) y) b1 b2 b3 h1 h2 h3 := ⟨fun j q1 q2 q3 => (uL_ne (by omega)).trans (vc2.1 j q1 q2 q3), vc2.2⟩
      have vr3 : KPr md d p M' M3 S (vp_updL S3 (p + 1) y) c1 c2 c3 c4 j1 j2 j3 j4 := ⟨fun j q1 => (uL_ne (by omega)).trans (vr2.1 j q1), vr2.2⟩
      have L3 : vp_updL M2 (t + 1) y t = L := (uL_ne (by omega)).trans L2
      have T3 : vp_updL S3 (p + 1) y p = L := (uL_ne (by omega)).trans T2
      refine x_c (by omega) i5 (by decide) (g_reached hy (by omega) (fun eq => ?_) (fun eq => ?_))
      · rw [L3, uL_eq] at eq
        exact rj_r (out (m2 + 2) k2 _ I2 h1 h2 h3 M3 I3 _ j1 j2 j3 j4 vR3 vc3 vr3 (by omega) (by omega)) (fun P hP => q_equal r7 hu (fun _ => hP) (fun q => absurd (by rw [T3, uL_eq]; exact eq) q))
      rw [L3, uL_eq] at eq
      refine rj_r (hI (m2 + 2) (t + 1) f d k2 (vp_updL M2 (t + 1) y) I2 h1 h2 h3 (p + 1) f' g' M3 I3 (vp_updL S3 (p + 1) y) j1 j2 j3 j4 Q (m2 + 2 + 3200 * (g - k2) + 4) vR3 hn (by omega) (by omega) (by omega) ?_ (fun x x' hx => nomatch hx) (fun x x' hx => nomatch hx) (KRt_tr kr (Nat.le_succ t) (Nat.le_succ p) vc3 vr3 (by omega) (by omega)) kz) (fun P hP => q_equal r7 hu (fun q => absurd (by rw [T3, uL_eq] at q; exact q) eq) (fun _ => hP))
      intro m4 k4 M4 I4 o1 o2 o3 M5 I5 S5 p1 p2 p3 p4 uR uc ur uk um
      have g4 := uR.1
      refine rj_r (x_c (by omega) i8 (by decide) (g_jump hj ?_)) (fun P hP => q_jump r8 hv hP)
      exact again hk9 (m4 + 1) k4 M4 I4 o1 o2 o3 M5 I5 S5 p1 p2 p3 p4 uR ((KPc_low uc hR).trans L3) ((KPr_low ur).trans T3) (KPc_tr (Nat.le_succ t) vc3 uc) (KPr_tr (Nat.le_succ p) vr3 ur) (by omega) (by omega)
    refine hB (m1 + 3) (t + 1) f d (k1 + 1) (vp_updL N1 (t + 1) z) J1 x1 x2 x3 (p + 1) f' g' N2 J2 (vp_updL T (p + 1) z) y1 y2 y3 y4 Q (m1 + 3 + 3200 * (g - (k1 + 1)) + (e - (c + 3))) (RLt_k wR2 hk9) hn (by omega) (Nat.le_refl _) (by omega) cont (fun x x' hx => ?_) (fun x x' hx => ?_) (KRt_tr kr (Nat.le_succ t) (Nat.le_succ p) wc2 wr2 (by omega) (by omega)) kz
    · injection hx with hx
      injection hx with hx1 hx2
      rw [← hx1, ← hx2]
      intro m2 k2 M2 I2 h1 h2 h3 M3 I3 S3 j1 j2 j3 j4 vR vc vr vk vm
      have g2 := vR.1
      exact out m2 k2 M2 I2 h1 h2 h3 M3 I3 S3 j1 j2 j3 j4 vR (KPc_tr (Nat.le_succ t) wc2 vc) (KPr_tr (Nat.le_succ p) wr2 vr) (by omega) (by omega)
    · injection hx with hx
      injection hx with hx1 hx2
      rw [← hx1, ← hx2]
      exact cont
  have loop : ∀ (q m1 k1 : Nat) (N1 : Nat → Int64) (J1 x1 x2 x3 : Nat → Int32) (N2 : Nat → Int64) (J2 : Nat → Int32) (T : Nat → Int64) (y1 y2 y3 y4 : Nat → Int32), g - k1 ≤ q → RLt vF uF g md sz fk gk (t + 1) f d k1 N1 J1 f' g' N2 J2 → N1 t = L → T p = L → KPc md sz t f d M N1 b1 b2 b3 x1 x2 x3 → KPr md d p M' N2 S T c1 c2 c3 c4 y1 y2 y3 y4 → k ≤ k1 → m1 + 3200 * (g - k1) + (e + 8 - c) ≤ bud → RJ N vF uF m1 (t + 1, f, c, d, k1, N1, J1, x1, x2, x3) (p + 1, c', d, f', g', k1, N2, J2, T, y1, y2, y3, y4) Q := by
    intro q
    induction q with
    | zero =>
      intro m1 k1 N1 J1 x1 x2 x3 N2 J2 T y1 y2 y3 y4 hq wR wL wT wc wr wk wm
      exact step m1 k1 N1 J1 x1 x2 x3 N2 J2 T y1 y2 y3 y4 wR wL wT wc wr wk wm (fun h9 => by omega)
    | succ q ih =>
      intro m1 k1 N1 J1 x1 x2 x3 N2 J2 T y1 y2 y3 y4 hq wR wL wT wc wr wk wm
      exact step m1 k1 N1 J1 x1 x2 x3 N2 J2 T y1 y2 y3 y4 wR wL wT wc wr wk wm (fun h9 m3 k3 N3 J3 z1 z2 z3 N4 J4 T3 w1 w2 w3 w4 vR vL vT vc vr vk vm => ih m3 k3 N3 J3 z1 z2 z3 N4 J4 T3 w1 w2 w3 w4 (by omega) vR vL vT vc vr (by omega) vm)
  exact loop (g - k0) m0 k0 M0 I0 e1 e2 e3 M1 I1 S1 i1' i2' i3' i4' (Nat.le_refl _) qR qz qs qc qr qk (by omega)
end R19
/-! Runs: switch. -/
/-- z lies in one of the labels l0 .. l0 + cnt - 1 -/
def LBI (vF : CSt) (l0 cnt : Nat) (z : Int64) : Prop := ∃ i, i < cnt ∧ ¬ z < pB vF (cR vF 4) 15 (l0 + i) ∧ ¬ pB vF (cR vF 4) 16 (l0 + i) < z
/-- Stats with a number on top, which they take away -/
def SW (N : Nat) (vF : CSt) (uF : RSt) (g md sz : Nat) (fk gk : Nat → Int32) (rk : Int32) (bx cx : Option (Nat × Nat)) (a b a' b' h n : Nat) : Prop :=
  ∀ m t f d k M I b1 b2 b3 p f' g' M' I' S c1 c2 c3 c4 (Q : CSt → RSt → Prop) (bud : Nat), RLt vF uF g md sz fk gk t f d k M I f' g' M' I' → M t = S p → 8 ≤ n + d → t + h + (8 - d) * 440 ≤ 6096 → m + 3200 * (g - k) + (b - a) ≤ bud → bud ≤ 40000000 →
    KXg N vF uF g md sz fk gk t f d k M b1 b2 b3 p f' g' M' S c1 c2 c3 c4 Q b b' bud →
    (∀ x x', bx = some (x, x') → KXg N vF uF g md sz fk gk t f d k M b1 b2 b3 p f' g' M' S c1 c2 c3 c4 Q x x' bud) →
    (∀ x x', cx = some (x, x') → KXg N vF uF g md sz fk gk t f d k M b1 b2 b3 p f' g' M' S c1 c2 c3 c4 Q x x' bud) →
    KRt N vF uF g md sz fk gk rk t f d k M b1 b2 b3 p f' g' M' S c1 c2 c3 c4 Q bud → KZt vF uF gk Q →
    RJ N vF uF m (t + 1, f, a, d, k, M, I, b1, b2, b3) (p + 1, a', d, f', g', k, M', I', S, c1, c2, c3, c4) Q
section R20
variable {vF v0 v w : CSt} {uF u0 u x : RSt} {t f s d k k2 n m N c c0 c' e e' g md sz h h' bud l0 cnt : Nat} {fk gk : Nat → Int32} {M : Nat → Int64} {I b1 b2 b3 : Nat → Int32} {p s' f' g' a b a' b' : Nat} {M' S : Nat → Int64} {I' c1 c2 c3 c4 : Nat → Int32} {z : Int64} {Va Vb : Int64 → Prop} {rk pa pb pl qa qb ql ra rb sa sb' sl ta tb ua ub ul va vb vl y kd o o' : Int32} {bx cx : Option (Nat × Nat)} {P : CSt → Prop} {P' : RSt → Prop}
theorem p_lies {q : Nat} (ha : pa.toInt = (l0 : Int)) (hb : pb.toInt = (cnt : Int)) (hl : ((l0 + cnt : Nat) : Int) ≤ (pI v q 14).toInt) (hl2 : l0 + cnt < 100000) : pq (F_X6_liesIn N q z pa pb v) (fun r w => w = v ∧ ((r = 1 ∧ ∃ i, i < cnt ∧ ¬ z < pB v q 15 (l0 + i) ∧ ¬ pB v q 16 (l0 + i) < z) ∨ (r = 0 ∧ ¬ ∃ i, i < cnt ∧ ¬ z < pB v q 15 (l0 + i) ∧ ¬ pB v q 16 (l0 + i) < z))) := by
  have e0 : (0 : Int32).toInt = 0 := by decide
  have e1 : (1 : Int32).toInt = 1 := by decide
  have hab : (pa + pb).toInt = ((l0 + cnt : Nat) : Int) := by rw [tI_add (by omega) (by omega)]; omega
  unfold F_X6_liesIn B_X6_liesIn_0
  refine pq_lp (Z := fun _ r w => w = v ∧ ((r = 1 ∧ ∃ i, i < cnt ∧ ¬ z < pB v q 15 (l0 + i) ∧ ¬ pB v q 16 (l0 + i) < z) ∨ (r = 0 ∧ ¬ ∃ i, i < cnt ∧ ¬ z < pB v q 15 (l0 + i) ∧ ¬ pB v q 16 (l0 + i) < z))) (fun (x : Nat × Int64 × Int32 × Int32 × Int32 × CSt) => x.1 = q ∧ x.2.1 = z ∧ x.2.2.1 = pa ∧ x.2.2.2.1 = pb ∧ x.2.2.2.2.2 = v ∧ ∃ i : Nat, x.2.2.2.2.1.toInt = ((l0 + i : Nat) : Int) ∧ i ≤ cnt ∧ ∀ j, j < i → ¬ (¬ z < pB v q 15 (l0 + j) ∧ ¬ pB v q 16 (l0 + j) < z)) ?_ N _ ⟨rfl, rfl, rfl, rfl, rfl, 0, by rw [ha]; rfl, Nat.zero_le _, fun j hj => absurd hj (Nat.not_lt_zero j)⟩
  rintro R ⟨x1, x2, x3, x4, x5, x6⟩ ⟨h1, h2, h3, h4, h5, i, h6, h7, h8⟩ ih
  dsimp only at h1 h2 h3 h4 h5 h6
  rw [h1, h2, h3, h4, h5]
  show pq (B_X6_liesIn_3 N R q z pa pb x5 v) _
  unfold B_X6_liesIn_3 B_X6_liesIn_52
  have nx : (x5 + 1).toInt = ((l0 + (i + 1) : Nat) : Int) := by rw [tI_add (by omega) (by omega), e1]; omega
  refine pq_if (fun c => pq_some ⟨rfl, Or.inr ⟨rfl, ?_⟩⟩) (fun c => ?_)
  · have := Int32.le_iff_toInt_le.mp c
    rintro ⟨j, j1, j2⟩
    exact h8 j (by omega) j2
  have c' : ¬ (l0 + cnt : Nat) ≤ l0 + i := fun y => c (Int32.le_iff_toInt_le.mpr (by omega))
  have on : ¬ (¬ z < pB v q 15 (l0 + i) ∧ ¬ pB v q 16 (l0 + i) < z) → pq (R (q, z, pa, pb, (x5 + 1), v)) (fun r w => w = v ∧ ((r = 1 ∧ ∃ i, i < cnt ∧ ¬ z < pB v q 15 (l0 + i) ∧ ¬ pB v q 16 (l0 + i) < z) ∨ (r = 0 ∧ ¬ ∃ i, i < cnt ∧ ¬ z < pB v q 15 (l0 + i) ∧ ¬ pB v q 16 (l0 + i) < z))) := by
    intro y
    refine ih (q, z, pa, pb, (x5 + 1), v) ⟨rfl, rfl, rfl, rfl, rfl, i + 1, nx, by omega, fun j hj => ?_⟩
    by_cases ej : j = i
    · rw [ej]; exact y
    · exact h8 j (by omega)
  refine pq_if (fun c2 => ?_) (fun c2 => pq_if (fun c3 => ?_) (fun c3 => pq_rd ?_))
  · have := Int32.lt_iff_toInt_lt.mp c2
    omega
  · have := Int32.le_iff_toInt_le.mp c3
    omega
  rw [n_of h6]
  refine pq_if (fun c4 => on (fun y => y.1 c4)) (fun c4 => pq_rd ?_)
  rw [n_of h6]
  exact pq_if (fun c5 => on (fun y => y.2 c5)) (fun c5 => pq_some ⟨rfl, Or.inl ⟨rfl, i, by omega, c4, c5⟩⟩)
theorem g_labels (ha : pa.toInt = (l0 : Int)) (hb : pb.toInt = (cnt : Int)) (hl : ((l0 + cnt : Nat) : Int) ≤ (pI v0 (cR v0 4) 14).toInt) (hl2 : l0 + cnt < 100000) (ht : t < 6096) (hs : s < 100000) (k1 : LBI v0 l0 cnt (M t) → CJ N v0 n (t + 1, f, s + 1, d, k, M, I, b1, b2, b3) P) (k0 : ¬ LBI v0 l0 cnt (M t) → CJ N v0 n (t + 1, f, s, d, k, M, I, b1, b2, b3) P) : Og N v0 n 36 pa pb pl (t + 1, f, s, d, k, M, I, b1, b2, b3) P := by
  intro v hv
  have e0 : (0 : Int32).toInt = 0 := by decide
  have e1 : (1 : Int32).toInt = 1 := by decide
  have h18 : (cI v 18).toInt = ((t + 1 : Nat) : Int) := hv.2.2.2.2.1
  have h20 : (cI v 20).toInt = (s : Int) := hv.2.2.2.2.2.2.1
  have hR : cR v 4 = cR v0 4 := by show v.2.2.2.2.2.2.2.2.2.2 4 = v0.2.2.2.2.2.2.2.2.2.2 4; rw [hv.1.2.2.2.2]
  have hp : ∀ q j, pI v q j = pI v0 q j := fun q j => by show v.2.2.2.2.1 q j = v0.2.2.2.2.1 q j; rw [hv.1.2.2.2.2]
  have hB : ∀ q j, pB v q j = pB v0 q j := fun q j => by show v.2.2.2.2.2.2.1 q j = v0.2.2.2.2.2.2.1 q j; rw [hv.1.2.2.2.2]
  unfold B_X2_go_128 F_X2_turn B_X2_turn_0
  rw [if_pos (by decide), if_pos (by decide), if_neg (by decide), if_neg (by decide), if_neg (by decide), if_neg (by decide), if_neg (by decide), if_neg (by decide), if_neg (by decide)]
  refine pq_bc (pq_ok (fun _ => p_num (c := t) hv (by rw [tI_sub (by omega) (by omega), e1]; omega) (by omega) ?_))
  refine pq_bc (pq_m (p_lies (v := v) (q := cR v 4) (z := M t) (N := N) ha hb (by rw [hR, hp]; exact hl) hl2) (fun r w hw => ?_))
  rw [hw.1]
  have s0 : (cI v 20 + 0).toInt = (s : Int) := by rw [tI_add (by omega) (by omega), e0]; omega
  have s1 : (cI v 20 + 1).toInt = ((s + 1 : Nat) : Int) := by rw [tI_add (by omega) (by omega), e1]; omega
  rcases hw.2 with ⟨q1, q2⟩ | ⟨q1, q2⟩
  · rw [if_neg (by rw [q1]; decide)]
    refine pq_pc (pq_some (pq_some (AC_of (hv.x20 s1) (k1 ?_))))
    rw [hR, hB, hB] at q2
    exact q2
  · rw [if_pos q1]
    refine pq_pc (pq_some (pq_some (AC_of (hv.x20 s0) (k0 ?_))))
    rw [hR, hB, hB] at q2
    exact q2
theorem q_labels : ∀ (cnt s l0 : Nat), (∀ i, i < cnt → ∃ ta tb, rdc uF (s + i) 36 ta tb ∧ ta.toInt = (c : Int) ∧ uF.2.2.2 52 (s + i) = pB vF (cR vF 4) 15 (l0 + i) ∧ uF.2.2.2 53 (s + i) = pB vF (cR vF 4) 16 (l0 + i)) → (LBI vF l0 cnt (S p) → Sr N uF (p, c, d, f, g, k, M, I, S, c1, c2, c3, c4) P') → (¬ LBI vF l0 cnt (S p) → Sr N uF (p + 1, s + cnt, d, f, g, k, M, I, S, c1, c2, c3, c4) P') → Sr N uF (p + 1, s, d, f, g, k, M, I, S, c1, c2, c3, c4) P' := by
  intro cnt
  induction cnt with
  | zero =>
    intro s l0 _ _ k0
    exact k0 (fun ⟨i, hi, _⟩ => absurd hi (Nat.not_lt_zero i))
  | succ cnt ih =>
    intro s l0 hc k1 k0
    obtain ⟨ta, tb, h1, h2, h3, h4⟩ := hc 0 (by omega)
    rw [Nat.add_zero] at h1 h3 h4
    rw [Nat.add_zero] at h3 h4
    refine q_lies h1 h2 (fun y => ?_) (fun y => ?_)
    · rw [h3, h4] at y
      exact k1 ⟨0, by omega, by rw [Nat.add_zero]; exact y⟩
    · rw [h3, h4] at y
      refine ih (s + 1) (l0 + 1) (fun i hi => ?_) (fun q => k1 ?_) (fun q => ?_)
      · obtain ⟨ta, tb, o1, o2, o3, o4⟩ := hc (i + 1) (by omega)
        rw [show s + 1 + i = s + (i + 1) by omega, show l0 + 1 + i = l0 + (i + 1) by omega]
        exact ⟨ta, tb, o1, o2, o3, o4⟩
      · obtain ⟨i, hi, q2⟩ := q
        rw [show l0 + 1 + i = l0 + (i + 1) by omega] at q2
        exact ⟨i + 1, by omega, q2⟩
      · rw [show s + 1 + cnt = s + (cnt + 1) by omega]
        refine k0 ?_
        rintro ⟨i, hi, q2⟩
        cases i with
        | zero => rw [Nat.add_zero] at q2; exact y q2
        | succ i => exact q ⟨i, by omega, by rw [show l0 + 1 + i = l0 + (i + 1) by omega]; exact q2⟩
/-- the end: nothing fitted -/
theorem sw_end (hS : SS N vF uF g md sz fk gk rk bx cx (a + 1) b (a' + 1) b' h n) (hc : cdc vF a 16 pa pb pl) (r1 : rdc uF a' 37 ra rb) (hab : a + 1 ≤ b) (hh : 1 ≤ h) : SW N vF uF g md sz fk gk rk bx cx a b a' b' h n := by
  intro m t f d k M I b1 b2 b3 p f' g' M' I' S c1 c2 c3 c4 Q bud hR hz hn ht hm hb kk kb kc kr kz
  refine rj_r (x_c (by omega) hc (by decide) (g_drop (by omega) ?_)) (fun P hP => q_drop r1 hP)
  exact hS (m + 1) t f d k M I b1 b2 b3 p f' g' M' I' S c1 c2 c3 c4 Q bud hR hn ht (by omega) hb kk kb kc kr kz
/-- switch E -/
theorem ss_switch (hE : SE N vF uF g md sz fk gk a b a' b' h Va n) (hW : SW N vF uF g md sz fk gk rk bx cx b c b' c' h n) (hab : a ≤ b) (hbc : b ≤ c) : SS N vF uF g md sz fk gk rk bx cx a c a' c' h n := by
  intro m t f d k M I b1 b2 b3 p f' g' M' I' S c1 c2 c3 c4 Q bud hR hn ht hm hb kk kb kc kr kz
  refine hE m t f d k M I b1 b2 b3 p f' g' M' I' S c1 c2 c3 c4 Q hR hn ht (by omega) (fun m2 k2 z M2 I2 e1 e2 e3 M3 I3 S3 i1 i2 i3 i4 qR qc qr qz qs qi qk qm => ?_) kz
  exact hW m2 t f d k2 M2 I2 e1 e2 e3 p f' g' M3 I3 S3 i1 i2 i3 i4 Q bud (RLt_dn hR qR) (qz.trans qs.symm) hn ht (by omega) hb (KXg_tr kk qc qr qk (Nat.le_refl _)) (fun x x' hx => KXg_tr (kb x x' hx) qc qr qk (Nat.le_refl _)) (fun x x' hx => KXg_tr (kc x x' hx) qc qr qk (Nat.le_refl _)) (KRt_tr kr (Nat.le_refl _) (Nat.le_refl _) qc qr qk (Nat.le_refl _)) kz
/-- case Labels Body, and what follows -/
theorem sw_case (hB : SS N vF uF g md sz fk gk rk bx cx (a + 3) c (a' + cnt + 1) c' h n) (hW : SW N vF uF g md sz fk gk rk bx cx (c + 1) e (c' + 1) e' h n) (i1 : cdc vF a 36 pa pb pl) (ha : pa.toInt = (l0 : Int)) (hb2 : pb.toInt = (cnt : Int)) (hl : ((l0 + cnt : Nat) : Int) ≤ (pI vF (cR vF 4) 14).toInt) (hl2 : l0 + cnt < 100000) (hs : a < 99999) (i2 : cdc vF (a + 1) 30 qa qb ql) (hq : qa.toInt = ((c + 1 : Nat) : Int)) (i3 : cdc vF (a + 2) 16 sa sb' sl) (i4 : cdc vF c 30 ua ub ul) (hu : ua.toInt = (e : Int))
    (r1 : ∀ i, i < cnt → ∃ ta tb, rdc uF (a' + i) 36 ta tb ∧ ta.toInt = ((a' + cnt + 1 : Nat) : Int) ∧ uF.2.2.2 52 (a' + i) = pB vF (cR vF 4) 15 (l0 + i) ∧ uF.2.2.2 53 (a' + i) = pB vF (cR vF 4) 16 (l0 + i)) (r2 : rdc uF (a' + cnt) 28 ra rb) (hr : ra.toInt = ((c' + 1 : Nat) : Int)) (r3 : rdc uF c' 28 va vb) (hv : va.toInt = (e' : Int)) (hac : a + 3 ≤ c) (hce : c + 1 ≤ e) (hh : 1 ≤ h) : SW N vF uF g md sz fk gk rk bx cx a e a' e' h n := by
  intro m t f d k M I b1 b2 b3 p f' g' M' I' S c1 c2 c3 c4 Q bud hR hz hn ht hm hb kk kb kc kr kz
  refine x_c (by omega) i1 (by decide) (g_labels ha hb2 hl hl2 (by omega) (by omega) (fun y => ?_) (fun y => ?_))
  · refine rj_r (x_c (by omega) i3 (by decide) (g_drop (by omega) ?_)) (fun P hP => q_labels (vF := vF) (c := a' + cnt + 1) cnt a' l0 r1 (fun _ => hP) (fun q => absurd (by rw [← hz]; exact y) q))
    refine hB (m + 2) t f d k M I b1 b2 b3 p f' g' M' I' S c1 c2 c3 c4 Q (bud - 1) hR hn ht (by omega) (by omega) (fun m4 k4 M4 I4 h1 h2 h3 M5 I5 S5 j1 j2 j3 j4 wR wc wr wk wm => ?_) (fun x x' hx => KXg_tr (kb x x' hx) KPc_rf KPr_rf (Nat.le_refl _) (by omega)) (fun x x' hx => KXg_tr (kc x x' hx) KPc_rf KPr_rf (Nat.le_refl _) (by omega)) (KRt_tr kr (Nat.le_refl _) (Nat.le_refl _) KPc_rf KPr_rf (Nat.le_refl _) (by omega)) kz
    refine rj_r (x_c (by omega) i4 (by decide) (g_jump hu ?_)) (fun P hP => q_jump r3 hv hP)
    exact kk (m4 + 1) k4 M4 I4 h1 h2 h3 M5 I5 S5 j1 j2 j3 j4 wR wc wr wk (by omega)
  · refine rj_r (x_c (by omega) i2 (by decide) (g_jump hq ?_)) (fun P hP => q_labels (vF := vF) (c := a' + cnt + 1) cnt a' l0 r1 (fun q => absurd (by rw [← hz] at q; exact q) y) (fun _ => q_jump r2 hr hP))
    exact hW (m + 2) t f d k M I b1 b2 b3 p f' g' M' I' S c1 c2 c3 c4 Q bud hR hz hn ht (by omega) hb kk kb kc kr kz
end R20
/-! Runs: calls of functions and instances. -/
/-- the function that the class's step 37 fa and the reference's instruction 31 qa call; Pn parameters of the KINDS pk, an answer of the KIND rk -/
def FNC (N : Nat) (vF : CSt) (uF : RSt) (g : Nat) (gk : Nat → Int32) (fa qa : Int32) (Pn : Nat) (pk : Nat → Int32) (rk : Int32) (n : Nat) : Prop :=
  ∀ md sz fk m t f d k M I b1 b2 b3 p f' g' M' I' S c1 c2 c3 c4 (Q : CSt → RSt → Prop) s s' pb pl qb, cdc vF s 37 fa pb pl → rdc uF s' 31 qa qb → RLt vF uF g md sz fk gk t f d k M I f' g' M' I' → 8 ≤ n + d → t + 1 + (8 - d) * 440 ≤ 6096 → m + 3200 * (g - k) + 3200 ≤ 40000000 → (∀ i, i < Pn → M (t + i) = S (p + i) ∧ (¬ pk i = 4 → i32 (M (t + i)))) →
    (∀ m2 k2 z M2 I2 e1 e2 e3 M3 I3 S3 i1 i2 i3 i4, RLt vF uF g md sz fk gk (t + 1) f d k2 M2 I2 f' g' M3 I3 → KPc md sz t f d M M2 b1 b2 b3 e1 e2 e3 → KPr md d p M' M3 S S3 c1 c2 c3 c4 i1 i2 i3 i4 → M2 t = z → S3 p = z → (¬ rk = 4 → i32 z) → k ≤ k2 → m2 + 3200 * (g - k2) ≤ m + 3200 * (g - k) + 3200 →
      RJ N vF uF m2 (t + 1, f, s + 1, d, k2, M2, I2, e1, e2, e3) (p + 1, s' + 1, d, f', g', k2, M3, I3, S3, i1, i2, i3, i4) Q) →
    KZt vF uF gk Q → RJ N vF uF m (t + Pn, f, s, d, k, M, I, b1, b2, b3) (p + Pn, s', d, f', g', k, M', I', S, c1, c2, c3, c4) Q
/-- the instance that the class's step 38 fa and the reference's instruction 32 qa run -/
def INC (N : Nat) (vF : CSt) (uF : RSt) (g : Nat) (gk : Nat → Int32) (fa qa : Int32) (n : Nat) : Prop :=
  ∀ md sz fk m t f d k M I b1 b2 b3 p f' g' M' I' S c1 c2 c3 c4 (Q : CSt → RSt → Prop) s s' pb pl qb, cdc vF s 38 fa pb pl → rdc uF s' 32 qa qb → RLt vF uF g md sz fk gk t f d k M I f' g' M' I' → 8 ≤ n + d → t + 1 + (8 - d) * 440 ≤ 6096 → m + 3200 * (g - k) + 3200 ≤ 40000000 →
    KXg N vF uF g md sz fk gk t f d k M b1 b2 b3 p f' g' M' S c1 c2 c3 c4 Q (s + 1) (s' + 1) (m + 3200 * (g - k) + 3200) →
    KZt vF uF gk Q → RJ N vF uF m (t, f, s, d, k, M, I, b1, b2, b3) (p, s', d, f', g', k, M', I', S, c1, c2, c3, c4) Q
section R21
variable {vF v0 v w : CSt} {uF u0 u x : RSt} {t f s d k k2 n m N c c0 c' e e' g md sz sz2 h h' bud Pn K F0 s0 mf xr eb e2' hb2 : Nat} {fk fk2 gk pk : Nat → Int32} {M X : Nat → Int64} {I b1 b2 b3 : Nat → Int32} {p s' f' g' a b a' b' : Nat} {M' S Y : Nat → Int64} {I' c1 c2 c3 c4 : Nat → Int32} {z : Int64} {V Va Vb : Int64 → Prop} {Vs : Nat → Int64 → Prop} {rk rk' pa pb pl qa qb ql ra rb fa : Int32} {bx cx : Option (Nat × Nat)} {off zs : Nat → Nat} {val : Nat → Int64}
/-- f(E, ..) -/
theorem se_call (hF : FNC N vF uF g gk fa qa Pn pk rk n) (hc : cdc vF a 64 pa pb pl) (r1 : rdc uF a' 1 ra rb) (hA : SA N vF uF g md sz fk gk (a + 1) b (a' + 1) b' h' Vs Pn n) (hVs : ∀ i z, i < Pn → Vs i z → ¬ pk i = 4 → i32 z) {fb fl qb2 : Int32} (hf : cdc vF b 37 fa fb fl) (hr : rdc uF b' 31 qa qb2) (hg : (cI vF 23).toInt = (g : Int)) (hg' : (uF.1 105).toInt = (g : Int)) (hV : ∀ z, (¬ rk = 4 → i32 z) → V z) (hab : a + 1 ≤ b) (hba : b - a ≤ 3200) (hh : h' ≤ h) (hh1 : 1 ≤ h) : SE N vF uF g md sz fk gk a (b + 1) a' (b' + 1) h V n := by
  intro m t f d k M I b1 b2 b3 p f' g' M' I' S c1 c2 c3 c4 Q hR hn ht hm kk kz
  refine x_cost (o := 0) (g := g) (by omega) hc (by decide) (by decide) hg r1 hg' hR.1 (fun hk9 => ?_) (fun w x hw hx => kz w x 3 0 k M I M' I' hw hx hR.2.2.2.1 hR.2.2.2.2.1 hR.2.2.2.2.2.1 (by decide) (fun e => absurd e (by decide)))
  refine g_none ?_
  refine hA (m + 1) t f d (k + 1) M I b1 b2 b3 p f' g' M' I' S c1 c2 c3 c4 Q (RLt_k hR hk9) hn (by omega) (by omega) (fun m2 k2 M2 I2 e1 e2 e3 M3 I3 S3 i1 i2 i3 i4 qR qc qr qv qk qm => ?_) kz
  have g2 := qR.1
  refine hF md sz fk m2 t f d k2 M2 I2 e1 e2 e3 p f' g' M3 I3 S3 i1 i2 i3 i4 Q b b' fb fl qb2 hf hr (RLt_dn (RLt_k hR hk9) qR) hn (by omega) (by omega) (fun i hi => ⟨(qv i hi).1, hVs i _ hi (qv i hi).2⟩) (fun m4 k4 z M4 I4 h1 h2 h3 M5 I5 S5 j1 j2 j3 j4 wR wc wr wz ws wi wk wm => ?_) kz
  exact kk m4 k4 z M4 I4 h1 h2 h3 M5 I5 S5 j1 j2 j3 j4 wR (KPc_tr (Nat.le_refl _) qc wc) (KPr_tr (Nat.le_refl _) qr wr) wz ws (hV z wi) (by omega) (by omega)
/-- x(..); -/
theorem ss_run (hF : INC N vF uF g gk fa qa n) (hc : cdc vF a 64 pa pb pl) (r1 : rdc uF a' 1 ra rb) (hA : SS N vF uF g md sz fk gk rk none none (a + 1) b (a' + 1) b' h n) {fb fl qb2 : Int32} (hf : cdc vF b 38 fa fb fl) (hr : rdc uF b' 32 qa qb2) (hg : (cI vF 23).toInt = (g : Int)) (hg' : (uF.1 105).toInt = (g : Int)) (hab : a + 1 ≤ b) (hba : b - a ≤ 3200) (hh1 : 1 ≤ h) : SS N vF uF g md sz fk gk rk bx cx a (b + 1) a' (b' + 1) h n := by
  intro m t f d k M I b1 b2 b3 p f' g' M' I' S c1 c2 c3 c4 Q bud hR hn ht hm hb kk kb kc kr kz
  refine x_cost (o := 0) (g := g) (by omega) hc (by decide) (by decide) hg r1 hg' hR.1 (fun hk9 => ?_) (fun w x hw hx => kz w x 3 0 k M I M' I' hw hx hR.2.2.2.1 hR.2.2.2.2.1 hR.2.2.2.2.2.1 (by decide) (fun e => absurd e (by decide)))
  refine g_none ?_
  refine hA (m + 1) t f d (k + 1) M I b1 b2 b3 p f' g' M' I' S c1 c2 c3 c4 Q (m + 1 + 3200 * (g - (k + 1)) + (b - (a + 1))) (RLt_k hR hk9) hn ht (by omega) (by omega) (fun m2 k2 M2 I2 e1 e2 e3 M3 I3 S3 i1 i2 i3 i4 qR qc qr qk qm => ?_) (fun x x' hx => nomatch hx) (fun x x' hx => nomatch hx) (KRt_tr kr (Nat.le_refl _) (Nat.le_refl _) KPc_rf KPr_rf (by omega) (by omega)) kz
  have g2 := qR.1
  exact hF md sz fk m2 t f d k2 M2 I2 e1 e2 e3 p f' g' M3 I3 S3 i1 i2 i3 i4 Q b b' fb fl qb2 hf hr qR hn (by omega) (by omega) (KXg_tr kk qc qr (by omega) (by omega)) kz
/-- an instance's body was shown to run alike -/
theorem inc_of {mi mb : Nat} (hN : ∀ n', n = n' + 1 → SN N vF uF g 1 sz2 fk2 gk rk e eb e2' 340 n') (hm : ∀ v, crf vF v → pq (F_X6_name N (cR vF 4) fa v) (fun r w => r = mi ∧ w = v)) (hmb : ∀ v, crf vF v → pq (F_X6_name N (cR vF 4) (mI vF mi 14) v) (fun r w => r = mb ∧ w = v)) (h9 : (mI vF mi 9).toInt = (c : Int)) (h13 : (mI vF mb 13).toInt = (e : Int)) (hx : qa.toNatClampNeg = xr) (h39 : (uF.2.2.1 39 xr).toInt = (c : Int)) (h38 : (uF.2.2.1 38 xr).toNatClampNeg = F0) (h32 : (uF.2.2.1 32 F0).toInt = (e2' : Int)) (hcs : c + sz2 ≤ 2000) (hgk : ∀ j, j < sz2 → gk (c + j) = fk2 j) (heb : eb - e ≤ 3198) : INC N vF uF g gk fa qa n := by
  intro md sz fk m t f d k M I b1 b2 b3 p f' g' M' I' S c1 c2 c3 c4 Q s s' pb pl qb hf hr hR hn ht hm2 kk kz
  have d8 := hR.2.1
  by_cases hd : d = 8
  · subst hd
    refine x_c (by omega) hf (by decide) (g_deep (x := mi) (fun v hv => hm v hv.1) (fun w hw => ?_) (Or.inr rfl))
    exact q_deep hr (Or.inr rfl) (fun x hx => kz w x 4 0 k M I M' I' hw hx hR.2.2.2.1 hR.2.2.2.2.1 hR.2.2.2.2.2.1 (by decide) (fun e => absurd e (by decide)))
  have hd : d < 8 := by omega
  obtain ⟨n', rfl⟩ : ∃ n', n = n' + 1 := ⟨n - 1, by omega⟩
  have hB := hN n' rfl
  refine x_c (by omega) hf (by decide) (g_inst hd hm hmb h9 h13 (fun x1 x2 x3 q1 q2 q3 => CJ_m (P := fun w => ∀ y1 y2 y3 y4 : Int32, y1.toInt = ((s' + 1 : Nat) : Int) → y2.toInt = (f' : Int) → y3.toInt = (g' : Int) → y4.toInt = (p : Int) → Sr N uF (p, e2', d + 1, f', c, k, M', I', S, upd c1 d y1, upd c2 d y2, upd c3 d y3, upd c4 d y4) (fun x => Q w x)) ?_ (fun w hw => q_run hr hd hx h39 h38 h32 (hw))))
  intro v hv F r w ew y1 y2 y3 y4 z1 z2 z3 z4
  have RC : RLt vF uF g 1 sz2 fk2 gk t c (d + 1) k M I f' c M' I' := ⟨hR.1, by omega, hR.2.2.1, hR.2.2.2.1, hR.2.2.2.2.1, hR.2.2.2.2.2.1, fun _ => ⟨rfl, hcs, hgk⟩, fun q => absurd q (by decide)⟩
  have main := hB (m + 1) t c (d + 1) k M I (upd b1 d x1) (upd b2 d x2) (upd b3 d x3) p f' c M' I' S (upd c1 d y1) (upd c2 d y2) (upd c3 d y3) (upd c4 d y4) Q (m + 3200 * (g - k) + 3199) RC (by omega) (by omega) (by omega) (by omega) ?_ kz
  · exact main v hv F r w ew
  · intro m2 k2 t2 p2 s2 s3 T P M2 I2 e1 e2 e3 M3 I3 S3 i1 i2 i3 i4 wR wt w6 wc wr wk wm wn
    have g2 := wR.1
    rcases wn with ⟨q, -⟩ | ⟨-, hT, hP, pa, pb, pl, ra, rb, u1, u2⟩
    · exact absurd q (by decide)
    obtain ⟨k1, k2', k3⟩ := wc.2 d (by omega)
    obtain ⟨o1, o2, o3, o4⟩ := wr.2.2 d (by omega)
    have ud : ∀ (f : Nat → Int32) (y : Int32), upd f d y d = y := fun f y => if_pos rfl
    have un : ∀ (f : Nat → Int32) (y : Int32) (i : Nat), i < d → upd f d y i = f i := fun f y i hi => if_neg (by omega)
    rw [ud] at k1 k2' k3 o1 o2 o3 o4
    refine rj_r (x_c (by omega) u1 (by decide) (g_ret (s' := s + 1) (f' := f) (t' := t) (by rw [k1]; exact q1) (by rw [k2']; exact q2) (by rw [k3]; exact q3) ?_)) (fun P hP => q_back (s' := s' + 1) (f' := f') (g' := g') (p' := p) u2 (by rw [o1]; exact z1) (by rw [o2]; exact z2) (by rw [o3]; exact z3) (by rw [o4]; exact z4) hP)
    refine kk (m2 + 1) k2 M2 I2 e1 e2 e3 M3 I3 S3 i1 i2 i3 i4 (RLt_back hR wR (fun j j1 j2 => wc.1 j j1 j2 (fun q => absurd q.1 (by decide))) (fun j j1 j2 => wr.2.1 j j1 (by rw [if_neg (by decide)]; omega))) ⟨fun j j1 j2 _ => wc.1 j j1 j2 (fun q => absurd q.1 (by decide)), fun i hi => ?_⟩ ⟨wr.1, fun j j1 j2 => wr.2.1 j j1 ?_, fun i hi => ?_⟩ wk (by omega)
    · obtain ⟨a1, a2, a3⟩ := wc.2 i (by omega)
      rw [un _ _ _ hi] at a1 a2 a3
      exact ⟨a1, a2, a3⟩
    · rw [if_neg (by decide)]
      split at j2 <;> omega
    · obtain ⟨a1, a2, a3, a4⟩ := wr.2.2 i (by omega)
      rw [un _ _ _ hi] at a1 a2 a3 a4
      exact ⟨a1, a2, a3, a4⟩
/-- a function's body was shown to run alike -/
theorem fnc_of (hN : ∀ n', n = n' + 1 → SN N vF uF g 2 sz2 fk2 gk rk e eb e2' 340 n') (hrk : KD rk) (hm : ∀ v, crf vF v → pq (F_X6_name N (cR vF 4) fa v) (fun r w => r = mf ∧ w = v)) (hP : (mI vF mf 11).toInt = (Pn : Int)) (hK : (mI vF mf 12).toInt = (K : Int)) (hPK : Pn ≤ K) (hK2 : F0 + K ≤ 160) (hsz : (mI vF mf 7).toInt = (sz2 : Int)) (he : (mI vF mf 13).toInt = (e : Int)) (hs100 : sz2 ≤ 100)
    (hl : ∀ j, Pn ≤ j → j < K → LOC N vF mf j (off j) (zs j) (val j)) (hx : qa.toNatClampNeg = xr) (h30 : (uF.2.2.1 30 xr).toInt = (Pn : Int)) (h29 : (uF.2.2.1 29 xr).toInt = (K : Int)) (h28 : (uF.2.2.1 28 xr).toInt = (F0 : Int)) (h32 : (uF.2.2.1 32 xr).toInt = (e2' : Int)) (h55 : (uF.1 55).toInt = (s0 : Int)) (hs0 : s0 < 2)
    (hl' : ∀ j, j < K → (uF.2.2.1 21 (160 * s0 + F0 + j)).toInt = (zs j : Int) ∧ (uF.2.2.1 23 (160 * s0 + F0 + j)).toInt = (off j : Int) ∧ (Pn ≤ j → uF.2.2.2 24 (160 * s0 + F0 + j) = val j)) (hoz : ∀ j, j < K → off j + zs j ≤ sz2) (hPa : ∀ j, j < Pn → off j = j ∧ zs j = 1) (hLo : ∀ j, Pn ≤ j → j < K → Pn ≤ off j)
    (hcov : ∀ c, c < sz2 → ∃ i, i < K ∧ off i ≤ c ∧ c < off i + zs i ∧ (∀ i', i < i' → i' < K → ¬ (off i' ≤ c ∧ c < off i' + zs i')) ∧ (i < Pn → fk2 c = pk i) ∧ (Pn ≤ i → ¬ fk2 c = 4 → i32 (val i))) (heb : eb - e ≤ 3198) : FNC N vF uF g gk fa qa Pn pk rk n := by
  intro md sz fk m t f d k M I b1 b2 b3 p f' g' M' I' S c1 c2 c3 c4 Q s s' pb pl qb hf hr hR hn ht hm2 hv kk kz
  have d8 := hR.2.1
  have t2 := hR.2.2.1
  have hPn : Pn ≤ 100 := by
    rcases Nat.eq_zero_or_pos Pn with y | y
    · omega
    · have := hoz (Pn - 1) (by omega)
      have := hPa (Pn - 1) (by omega)
      omega
  by_cases hd : d = 8
  · subst hd
    refine x_c (by omega) hf (by decide) (g_deep (x := mf) (fun v hv => hm v hv.1) (fun w hw => ?_) (Or.inl rfl))
    exact q_deep hr (Or.inl rfl) (fun x hx => kz w x 4 0 k M I M' I' hw hx hR.2.2.2.1 hR.2.2.2.2.1 hR.2.2.2.2.2.1 (by decide) (fun e => absurd e (by decide)))
  have hd : d < 8 := by omega
  obtain ⟨n', rfl⟩ : ∃ n', n = n' + 1 := ⟨n - 1, by omega⟩
  have hB := hN n' rfl
  obtain ⟨X, hXd⟩ : ∃ X, X = em t off zs val M Pn (K - Pn) := ⟨_, rfl⟩
  obtain ⟨Y, hYd⟩ : ∃ Y, Y = em (2100 + 100 * d) off zs (fun j => if j < Pn then S (p + j) else val j) M' 0 K := ⟨_, rfl⟩
  refine x_c (by omega) hf (by decide) (g_func (t0 := t) (off := off) (zs := zs) (val := val) hd hm hP hK hPK (by omega) hsz he rfl (by omega) (fun j j1 j2 => ⟨hl j j1 j2, hoz j j2⟩) (fun x1 x2 x3 q1 q2 q3 => CJ_m (P := fun w => ∀ y1 y2 y3 y4 : Int32, y1.toInt = ((s' + 1 : Nat) : Int) → y2.toInt = (f' : Int) → y3.toInt = (g' : Int) → y4.toInt = (p : Int) → Sr N uF (p, e2', d + 1, 2100 + 100 * d, g', k, Y, I', S, upd c1 d y1, upd c2 d y2, upd c3 d y3, upd c4 d y4) (fun x => Q w x)) ?_ (fun w hw => q_call (p0 := p) (off := off) (zs := zs) (val := val) hr hx hd rfl h30 h29 h28 h32 h55 hs0 hPK hK2 (fun j j1 => ⟨(hl' j j1).1, (hl' j j1).2.1, (hl' j j1).2.2, by have := hoz j j1; omega⟩) (fun y1 y2 y3 y4 z1 z2 z3 z4 => by rw [← hYd]; exact hw y1 y2 y3 y4 z1 z2 z3 z4))))
  rw [← hXd]
  intro v hv' F r w ew y1 y2 y3 y4 z1 z2 z3 z4
  have Xlo : ∀ c, (c < t ∨ t + sz2 ≤ c) → X c = M c := fun c hc => by
    rw [hXd]
    exact em_out _ _ _ _ (fun i i1 i2 y => by have := hoz i (by omega); omega)
  have Ylo : ∀ c, (c < 2100 + 100 * d ∨ 2100 + 100 * d + sz2 ≤ c) → Y c = M' c := fun c hc => by
    rw [hYd]
    exact em_out _ _ _ _ (fun i i1 i2 y => by have := hoz i (by omega); omega)
  have both : ∀ c, c < sz2 → X (t + c) = Y (2100 + 100 * d + c) ∧ (¬ fk2 c = 4 → i32 (X (t + c))) := by
    intro c hc
    obtain ⟨i, i1, i2, i3, i4, i5, i6⟩ := hcov c hc
    have eY : Y (2100 + 100 * d + c) = (if i < Pn then S (p + i) else val i) := by
      rw [hYd]
      exact em_in K 0 _ i _ (by omega) (by omega) (by omega) (by omega) (fun i' y1 y2 y => i4 i' y1 (by omega) ⟨by omega, by omega⟩)
    by_cases y : i < Pn
    · obtain ⟨o1, o2⟩ := hPa i y
      have ec : c = i := by omega
      have eX : X (t + c) = M (t + c) := by
        rw [hXd]
        exact em_out _ _ _ _ (fun i' i1 i2 y => by have := hLo i' (by omega) (by omega); omega)
      rw [eY, if_pos y, eX, ec]
      exact ⟨(hv i y).1, fun q => (hv i y).2 (by rw [← i5 y, ec]; exact q)⟩
    · have eX : X (t + c) = val i := by
        rw [hXd]
        exact em_in (K - Pn) Pn _ i _ (by omega) (by omega) (by omega) (by omega) (fun i' y1 y2 y => i4 i' y1 (by omega) ⟨by omega, by omega⟩)
      rw [eY, if_neg y, eX]
      exact ⟨rfl, i6 (by omega)⟩
  have RC : RLt vF uF g 2 sz2 fk2 gk (t + sz2) t (d + 1) k X I (2100 + 100 * d) g' Y I' := RLt_in hR hd hs100 t2 (fun c hc => Xlo c (by omega)) (fun c hc => Ylo c (by omega)) (fun c hc => (both c hc).1) (fun c hc => (both c hc).2)
  have main := hB (m + 1) (t + sz2) t (d + 1) k X I (upd b1 d x1) (upd b2 d x2) (upd b3 d x3) p (2100 + 100 * d) g' Y I' S (upd c1 d y1) (upd c2 d y2) (upd c3 d y3) (upd c4 d y4) Q (m + 3200 * (g - k) + 3199) RC (by omega) (by omega) (by omega) (by omega) ?_ kz
  · exact main v hv' F r w ew
  · intro m2 k2 t3 p2 s2 s3 T P M2 I2 e1 e2 e3 M3 I3 S3 i1 i2 i3 i4 wR wt w6 wc wr wk wm wn
    have g2 := wR.1
    rcases wn with ⟨-, hT, hPp, hTS, pb2, pl2, qb2, u1, u2⟩ | ⟨q, -⟩
    case inr => exact absurd rfl q
    obtain ⟨k1, k2', k3⟩ := wc.2 d (by omega)
    obtain ⟨o1, o2, o3, o4⟩ := wr.2.2 d (by omega)
    have ud : ∀ (f : Nat → Int32) (y : Int32), upd f d y d = y := fun f y => if_pos rfl
    have un : ∀ (f : Nat → Int32) (y : Int32) (i : Nat), i < d → upd f d y i = f i := fun f y i hi => if_neg (by omega)
    rw [ud] at k1 k2' k3 o1 o2 o3 o4
    rw [hT, hPp]
    have cM : ∀ j, 2000 ≤ j → j < t → M2 j = M j := fun j j1 j2 => (wc.1 j j1 (by omega) (fun q => by omega)).trans (Xlo j (by omega))
    have cM' : ∀ j, 2100 ≤ j → j < 2100 + 100 * d → M3 j = M' j := fun j j1 j2 => (wr.2.1 j j1 (by rw [if_pos rfl]; omega)).trans (Ylo j (by omega))
    refine rj_r (x_c (by omega) u1 (by decide) (g_give (s' := s + 1) (f' := f) (t' := t) (by omega) (by omega) (by rw [k1]; exact q1) (by rw [k2']; exact q2) (by rw [k3]; exact q3) ?_)) (fun P hP => q_give (s' := s' + 1) (f' := f') (g' := g') (p' := p) u2 (by rw [o1]; exact z1) (by rw [o2]; exact z2) (by rw [o3]; exact z3) (by rw [o4]; exact z4) hP)
    have R2 : RLt vF uF g md sz fk gk t f d k2 M2 I2 f' g' M3 I3 := RLt_back hR wR cM cM'
    refine kk (m2 + 1) k2 (n_cut rk (M2 t3)) (vp_updL M2 t (n_cut rk (M2 t3))) I2 e1 e2 e3 M3 I3 (vp_updL S3 p (r_cut rk (S3 p2))) i1 i2 i3 i4 (RLt_push R2) ⟨fun j j1 j2 _ => (uL_ne (by omega)).trans (cM j j1 j2), fun i hi => ?_⟩ ⟨fun j hj => (uL_ne (by omega)).trans (wr.1 j hj), fun j j1 j2 => cM' j j1 (by split at j2 <;> omega), fun i hi => ?_⟩ uL_eq (by rw [uL_eq, hTS, q_cut]) (fun q => i32_cut hrk q) wk (by omega)
    · obtain ⟨a1, a2, a3⟩ := wc.2 i (by omega)
      rw [un _ _ _ hi] at a1 a2 a3
      exact ⟨a1, a2, a3⟩
    · obtain ⟨a1, a2, a3, a4⟩ := wr.2.2 i (by omega)
      rw [un _ _ _ hi] at a1 a2 a3 a4
      exact ⟨a1, a2, a3, a4⟩
end R21
