/-! use: instances of a block. -/
section RUse2
variable {u v w : RSt} {T N k j : Nat} {o o' : Int} {x b l1 l2 l3 l4 l5 l6 : Int32} {l7 : Int64}
theorem x_use (hN : 5000000000 ≤ N) (hi : IVQ u T o) (ht : ¬ isT (tyR u)) : wp (F_use N u) (fun _ w => IVQ w T o ∧ FRI u w ∧ (w.1 67 = 0 → kP u < kP w)) := by
  unfold F_use B_use_0
  obtain ⟨on1, on2, on3⟩ := hi.on ht
  refine wp_pu.mpr ?_
  generalize sI u 65 (u.1 65 + 1) = v at on1 on2 on3 ⊢
  have fv : FRI u v := FRI.lf on1.1
  rw [wp_bn]
  refine wp_mono (x_is on3.1) (fun r v' hv => ?_)
  obtain ⟨rfl, hr⟩ := hv
  refine wp_if.mpr ⟨fun c => ?_, fun c => ?_⟩
  · rw [wp_bn]
    refine wp_mono (x_stuck on3.1) (fun _ w hw => wp_some.mpr ⟨on3.flt hw, fv.tr (FRI.lf hw.2.1), fun z => absurd z hw.1⟩)
  obtain ⟨-, hz, hty⟩ : r = 1 ∧ v'.1 67 = 0 ∧ tyR v' = 1 := by
    rcases hr with q | ⟨q, -⟩
    · exact q
    · exact absurd q c
  rw [wp_bn]
  refine wp_mono (x_own3 hN (on3.ta hz) on3.1 (fun q => (on3.2.2.2 ⟨q, hz⟩).1)) (fun b v2 hv2 => ?_)
  obtain ⟨rfl, hb⟩ := hv2
  have e40 : ∀ s1 : Int32, (s1 = 0 → ¬ b = -1) → wp (B_use_40 N b s1 v2) (fun _ w => IVQ w T o ∧ FRI u w ∧ (w.1 67 = 0 → kP u < kP w)) := by
    intro s1 hs
    unfold B_use_40
    refine wp_rd.mpr ⟨on3.1.vin, ?_⟩
    rw [wp_bn]
    refine wp_mono (x_wrong (by decide)) (fun _ y hy => ?_)
    have hy2 : IVQ y T o ∧ FRI v2 y ∧ y.1 65 = v2.1 65 ∧ y.2.2.1 2 = v2.2.2.1 2 ∧ (act y → 0 ≤ b.toInt ∧ b.toInt < 8 ∧ b.toInt < (y.2.2.1 36 (toN y)).toInt) := by
      rcases hy with ⟨rfl, hy⟩ | hy
      · refine ⟨on3, FRI.rf, rfl, rfl, fun ha => ?_⟩
        have q := hs (hy.elim id (fun q => absurd q ha.1))
        rcases hb with hb | hb
        · exact absurd hb q
        · exact hb.2
      · exact ⟨on3.flt hy, FRI.lf hy.2.1, hy.2.2, by rw [hy.2.1.1], fun ha => absurd ha.2 hy.1⟩
    obtain ⟨y1, y2, y3, y4, y5⟩ := hy2
    have ty : tyR y = 1 := by unfold tyR; rw [y3, y4]; exact hty
    obtain ⟨n1, n2, n3⟩ := y1.on (by rw [ty]; unfold isT; decide)
    refine wp_pu.mpr ?_
    have hb1 : act (sI y 65 (y.1 65 + 1)) → 0 ≤ b.toInt ∧ b.toInt < 8 ∧ b.toInt < ((sI y 65 (y.1 65 + 1)).2.2.1 36 (toN (sI y 65 (y.1 65 + 1)))).toInt := fun ha => y5 ((FRI.lf n1.1).ac ha)
    have kk : kP u < kP (sI y 65 (y.1 65 + 1)) := by
      have : kP y = kP v2 := by unfold kP; rw [y3]
      have := on1.2.1
      omega
    have fy : FRI u (sI y 65 (y.1 65 + 1)) := (fv.tr y2).tr (FRI.lf n1.1)
    generalize sI y 65 (y.1 65 + 1) = z at n1 n2 n3 hb1 kk fy ⊢
    rw [wp_bn]
    refine wp_mono (x_instance hN n3 hb1) (fun _ a ha => ?_)
    obtain ⟨a1, a2, a3, a4, a5⟩ := ha
    have ba : act a → 0 ≤ b.toInt ∧ b.toInt < 8 ∧ b.toInt < (a.2.2.1 36 (toN a)).toInt := fun q => by
      obtain ⟨q1, q2⟩ := a5 q
      have := hb1 q1
      omega
    unfold LP_use_68
    refine wp_lp (fun (d : Nat) (x : Int32 × RSt) => x.1 = b ∧ IVQ x.2 T o ∧ FRI u x.2 ∧ kP u < kP x.2 ∧ (act x.2 → 0 ≤ b.toInt ∧ b.toInt < 8 ∧ b.toInt < (x.2.2.2.1 36 (toN x.2)).toInt) ∧ d = (T - kP x.2).toNat + (if x.2.1 67 = 0 then 1 else 0)) ?_ _ ((T - kP a).toNat + (if a.1 67 = 0 then 1 else 0)) _ (by have := a1.1.1; have := a1.1.2.2.1; split <;> omega) ⟨rfl, a1, fy.tr a2, by show kP u < kP a; omega, ba, rfl⟩
    rintro d R ⟨m1, m⟩ ⟨hm1, m2, m3, m4, m5, m6⟩ ih
    have hm1 : m1 = b := hm1
    subst hm1
    dsimp only at m2 m3 m4 m5 m6 ih ⊢
    unfold B_use_68
    rw [wp_bn]
    refine wp_mono (x_has m2.1 (by unfold isT; decide)) (fun r2 p hp => ?_)
    rcases hp with ⟨r1, z1, z2, z3, z4, z5⟩ | ⟨r1, rfl, -⟩
    · refine wp_if.mpr ⟨fun q => absurd q (by rw [r1]; decide), fun _ => ?_⟩
      have ip := m2.lf (o' := o) z3 (fun q => by rw [z5]; exact m2.2.2.1 z1)
      have bp : act p → 0 ≤ m1.toInt ∧ m1.toInt < 8 ∧ m1.toInt < (p.2.2.1 36 (toN p)).toInt := fun ha => by
        rw [z3.1.to, z3.1.1]
        exact m5 ((FRI.lf z3.1).ac ha)
      rw [wp_bn]
      refine wp_mono (x_instance hN ip bp) (fun _ q hq => ?_)
      obtain ⟨q1, q2, q3, q4, q5⟩ := hq
      refine ih ((T - kP q).toNat + (if q.1 67 = 0 then 1 else 0)) (m1, q) ?_ ⟨rfl, q1, (m3.tr (FRI.lf z3.1)).tr q2, by show kP u < kP q; omega, fun ha => ?_, rfl⟩
      · rw [m6, if_pos z1]
        have := m2.1.2.2.2
        have := q1.1.2.2.2
        split <;> omega
      · obtain ⟨g1, g2⟩ := q5 ha
        have := bp g1
        dsimp only
        omega
    · refine wp_if.mpr ⟨fun _ => ?_, fun q => absurd r1 q⟩
      rw [wp_bn]
      refine wp_mono (x_take m2.1 (by unfold isT; decide)) (fun _ q hq => wp_some.mpr ?_)
      refine ⟨m2.lf hq.1 (fun z => ?_), m3.tr (FRI.lf hq.1.1), fun z => by have := hq.1.2.1; omega⟩
      obtain ⟨d1, d2, d3, d4⟩ := hq.2 z
      rw [opn_e d4]
      exact m2.2.2.1 d1
  exact wp_if.mpr ⟨fun _ => e40 1 (fun z => absurd z (by decide)), fun q => e40 0 (fun _ => q)⟩
end RUse2
