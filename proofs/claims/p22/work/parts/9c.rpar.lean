/-! Parameters. -/
/-- the code's tables, but for the parameters of the part that is made -/
def CSP (u w : RSt) : Prop := toN w = toN u ∧ w.1 71 = u.1 71 ∧ (∀ k, k ∈ [32, 36, 37, 38, 42, 43, 45, 48, 49, 50, 51, 54] → w.2.2.1 k = u.2.2.1 k) ∧ (∀ j, j ≠ (u.1 71).toNatClampNeg → w.2.2.1 30 j = u.2.2.1 30 j)
/-- from u to v, inside the part that is made -/
def PRQ (u v : RSt) (T : Nat) (o : Int) : Prop := IVP v T o ∧ FRI u v ∧ (act v → CSP u v ∧ PQ v) ∧ kP u ≤ kP v ∧ (∀ k, k ∈ [70, 71, 72, 74] → v.1 k = u.1 k)
section RPar
variable {u v w : RSt} {T N k j : Nat} {o o' : Int} {x b l1 l2 l3 l4 l5 l6 : Int32} {l7 : Int64}
theorem CSP.rf : CSP u u := ⟨rfl, rfl, fun _ _ => rfl, fun _ _ => rfl⟩
theorem CSP.tr (h : CSP u v) (h2 : CSP v w) : CSP u w :=
  ⟨h2.1.trans h.1, h2.2.1.trans h.2.1, fun k hk => (h2.2.2.1 k hk).trans (h.2.2.1 k hk), fun j hj => (h2.2.2.2 j (by rw [h.2.1]; exact hj)).trans (h.2.2.2 j hj)⟩
theorem CSM.p (h : CSM u w) (h71 : w.1 71 = u.1 71) : CSP u w := ⟨h.1, h71, fun k hk => h.2 k (by
    simp only [List.mem_cons, List.not_mem_nil, or_false] at hk ⊢
    omega), fun j _ => by rw [h.2 30 (by decide)]⟩
theorem PRQ.rf (h : IVP u T o) (hp : act u → PQ u) : PRQ u u T o := ⟨h, FRI.rf, fun ha => ⟨CSP.rf, hp ha⟩, Int.le_refl _, fun _ _ => rfl⟩
theorem PRQ.tr (h : PRQ u v T o) (h2 : PRQ v w T o') : PRQ u w T o' :=
  ⟨h2.1, h.2.1.tr h2.2.1, fun ha => ⟨(h.2.2.1 (h2.2.1.ac ha)).1.tr (h2.2.2.1 ha).1, (h2.2.2.1 ha).2⟩, Int.le_trans h.2.2.2.1 h2.2.2.2.1, fun k hk => (h2.2.2.2.2 k hk).trans (h.2.2.2.2 k hk)⟩
theorem ORQ.p (h : ORQ u v T o) (hp : act v → PQ v) : PRQ u v T o := ⟨h.1, h.2.1, fun ha => ⟨(h.2.2.1 ha).p (h.2.2.2.2 71 (by decide)), hp ha⟩, h.2.2.2.1, h.2.2.2.2⟩
theorem PRQ.lf (h : PRQ u v T o) (hl : LFT v w T) (ho : w.1 67 = 0 → opn w = o') : PRQ u w T o' :=
  h.tr (((ORQ.rf h.1).lf hl ho).p (fun ha => ((h.2.2.1 ((FRI.lf hl.1).ac ha)).2).ef hl.1))
theorem PRQ.on (h : PRQ u v T o) (ht : ¬ isT (tyR v)) : LFT v (sI v 65 (v.1 65 + 1)) T ∧ kP (sI v 65 (v.1 65 + 1)) = kP v + 1 ∧ PRQ u (sI v 65 (v.1 65 + 1)) T o := by
  obtain ⟨a, b⟩ := h.1.1.on ht
  exact ⟨a, b, h.lf a (fun z => h.1.2.2.1 z)⟩
/-- one more parameter -/
theorem PRQ.p30 (h : PRQ u v T o) (ha : act v) (h6 : (v.2.2.1 30 (v.1 71).toNatClampNeg).toInt < 6) (h29 : (v.2.2.1 30 (v.1 71).toNatClampNeg).toInt < (v.2.2.1 29 (v.1 71).toNatClampNeg).toInt) : PRQ u (sA v 30 (v.1 71).toNatClampNeg (v.2.2.1 30 (v.1 71).toNatClampNeg + 1)) T o := by
  obtain ⟨⟨i1, i2, i3, i4⟩, h2, h3, h4, h5⟩ := h
  obtain ⟨c1, c2⟩ := h3 ha
  obtain ⟨t1, t2, t3, t4, t5, t6, t7, t8, t9, t10⟩ := i2
  have e1 : (1 : Int32).toInt = 1 := by decide
  obtain ⟨r1, r2, r3, r4, r5, r6, r7, r8⟩ := t3 (v.1 71).toNatClampNeg
  have e30 : (v.2.2.1 30 (v.1 71).toNatClampNeg + 1).toInt = (v.2.2.1 30 (v.1 71).toNatClampNeg).toInt + 1 := by rw [tI_add (by rw [e1]; omega) (by rw [e1]; omega), e1]
  have et : toN (sA v 30 (v.1 71).toNatClampNeg (v.2.2.1 30 (v.1 71).toNatClampNeg + 1)) = toN v := rfl
  refine ⟨⟨i1, ⟨t1, t2, fun p => ?_, t4, t5, t6, t7, t8, t9, t10⟩, i3, fun q => ?_⟩, h2.tr (FRI.rf.sA (Or.inr ⟨by decide, c2.1.2.2⟩) (by decide)), fun _ => ⟨c1.tr ⟨rfl, rfl, fun k hk => ?_, fun j hj => ?_⟩, c2⟩, h4, h5⟩
  · show 0 ≤ (v.2.2.1 28 p).toInt ∧ 0 ≤ (v.2.2.1 29 p).toInt ∧ (v.2.2.1 28 p).toInt + (v.2.2.1 29 p).toInt ≤ 160 ∧ 0 ≤ (upd (v.2.2.1 30) (v.1 71).toNatClampNeg _ p).toInt ∧ (upd (v.2.2.1 30) (v.1 71).toNatClampNeg _ p).toInt ≤ 6 ∧ (upd (v.2.2.1 30) (v.1 71).toNatClampNeg _ p).toInt ≤ (v.2.2.1 29 p).toInt ∧ 0 ≤ (v.2.2.1 33 p).toInt ∧ (v.2.2.1 33 p).toInt ≤ 4
    unfold upd
    by_cases c : p = (v.1 71).toNatClampNeg
    · rw [if_pos c, c]
      exact ⟨r1, r2, r3, by omega, by omega, by omega, r7, r8⟩
    · rw [if_neg c]
      exact t3 p
  · obtain ⟨n1, n2, n3, n4, n5, n6, n7, n8⟩ := i4 ha
    exact ⟨n1, n2, n3, n4, n5, n6, n7, fun b hb => by
      obtain ⟨g1, g2⟩ := n8 b hb
      exact ⟨g1, g2.trans (ssz_eq (u := v) (w := sA v 30 (v.1 71).toNatClampNeg (v.2.2.1 30 (v.1 71).toNatClampNeg + 1)) (fun _ _ => rfl)).symm⟩⟩
  · rw [sA_3, if_neg (fun z => by subst z; exact absurd hk (by decide))]
  · rw [sA_3, if_pos rfl]
    exact if_neg hj
theorem x_parameter (hN : 5000000000 ≤ N) (hi : PRQ u v T o) (h0 : 0 ≤ o) (h24 : o ≤ 24) : wp (F_parameter N v) (fun _ w => PRQ u w T o ∧ kP v ≤ kP w ∧ (w.1 67 = 0 → kP v < kP w)) := by
  unfold F_parameter B_parameter_0
  rw [wp_bn]
  refine wp_mono (x_kind hi.1.1) (fun r y hy => ?_)
  obtain ⟨a1, a2, a3, a4⟩ := hy
  have py := hi.lf (o' := o) a1 (fun z => by rw [opn_e (a4 z).2.2]; exact hi.1.2.2.1 (a4 z).1)
  rw [wp_bn]
  refine wp_mono (x_is py.1.1) (fun r2 y' hy' => ?_)
  obtain ⟨rfl, hr⟩ := hy'
  refine wp_if.mpr ⟨fun c => ?_, fun c => ?_⟩
  · rw [wp_bn]
    refine wp_mono (x_stuck py.1.1) (fun _ w hw => wp_some.mpr ⟨py.lf (hw.t py.1.1) (fun z => absurd z hw.1), Int.le_trans a1.2.1 (hw.t py.1.1).2.1, fun z => absurd z hw.1⟩)
  obtain ⟨-, hz, hty⟩ : r2 = 1 ∧ y'.1 67 = 0 ∧ tyR y' = 1 := by
    rcases hr with q | ⟨q, -⟩
    · exact q
    · exact absurd q c
  obtain ⟨i1, i2, i3, i4⟩ := id py.1
  have cn := i2.2.2.2.2.1 (toN y')
  have hto : 0 ≤ (y'.1 56).toInt ∧ (y'.1 56).toInt ≤ 1 := ⟨i2.2.2.2.2.2.2.2.2.1, i2.2.2.2.2.2.2.2.2.2⟩
  rw [wp_bn]
  refine wp_mono (x_local hN i1 (py.1.ta hz) (fun q _ => ⟨(py.2.2.1 ⟨q, hz⟩).2.1.1, (py.2.2.1 ⟨q, hz⟩).2.1.2.1⟩) (fun ha => (i4 ha).2.2.2.1)) (fun _ v1 hv1 => ?_)
  have e62 : ∀ z : RSt, PRQ u z T o → z.1 65 = y'.1 65 → z.2.2.1 2 = y'.2.2.1 2 → wp (B_parameter_62 N z) (fun _ w => PRQ u w T o ∧ kP v ≤ kP w ∧ (w.1 67 = 0 → kP v < kP w)) := by
    intro z hz h65 h2
    have ty : tyR z = 1 := by unfold tyR; rw [h65, h2]; exact hty
    obtain ⟨n1, n2, n3⟩ := hz.on (by rw [ty]; unfold isT; decide)
    have hk : kP z = kP y' := by unfold kP; rw [h65]
    have := a1.2.1
    unfold B_parameter_62
    exact wp_pu.mpr (wp_some.mpr ⟨n3, by omega, fun _ => by omega⟩)
  have dead : ∀ z : RSt, PRQ u z T o → z.1 65 = y'.1 65 → z.2.2.1 2 = y'.2.2.1 2 → ¬ act z → wp (bn (F_addSlot N (z.1 65) r 1 0 0 z) fun _ u_8 => if (u_8.1 69) = (0 : Int32) then (B_parameter_62 N u_8) else (if (u_8.1 67) = (0 : Int32) then (rd (u_8.2.2.1 30) 48 (u_8.1 71) fun v_11 => wr 48 (u_8.1 71) (sA u_8 30 (u_8.1 71).toNatClampNeg (v_11 + 1)) fun u_13 => B_parameter_62 N u_13) else (B_parameter_62 N u_8))) (fun _ w => PRQ u w T o ∧ kP v ≤ kP w ∧ (w.1 67 = 0 → kP v < kP w)) := by
    intro z hz h65 h2 hna
    obtain ⟨j1, j2, j3, j4⟩ := id hz.1
    have v4 : 0 ≤ (z.1 65).toInt ∧ (z.1 65).toInt < 1502 := by
      have b1 := j1.1
      have b2 := j1.2.2.1
      have b3 := j1.2.2.2
      unfold kP at b2 b3
      omega
    rw [wp_bn]
    refine wp_mono (x_addSlot v4 ⟨j2.2.2.2.2.2.2.2.2.1, j2.2.2.2.2.2.2.2.2.2⟩ (fun ha => absurd ha hna)) (fun _ y hy => ?_)
    have hy2 : PRQ u y T o ∧ y.1 65 = y'.1 65 ∧ y.2.2.1 2 = y'.2.2.1 2 ∧ ¬ act y := by
      rcases hy with q | ⟨rfl, q⟩ | ⟨q, -⟩
      · exact ⟨hz.lf (q.t j1) (fun z => absurd z q.1), q.2.2.trans h65, by rw [q.2.1.1]; exact h2, fun ha => q.1 ha.2⟩
      · exact ⟨hz, h65, h2, q⟩
      · exact absurd q hna
    obtain ⟨y1, y2, y3, y4⟩ := hy2
    exact wp_if.mpr ⟨fun _ => e62 y y1 y2 y3, fun q1 => wp_if.mpr ⟨fun q2 => absurd ⟨q1, q2⟩ y4, fun _ => e62 y y1 y2 y3⟩⟩
  rcases hv1 with hw | ⟨rfl, hna⟩ | ⟨ha, rfl, h6, h30⟩
  · exact dead v1 (py.lf (hw.t i1) (fun z => absurd z hw.1)) hw.2.2 (by rw [hw.2.1.1]) (fun ha => hw.1 ha.2)
  · exact dead v1 py rfl rfl hna
  obtain ⟨p1, p2⟩ := i4 ha
  obtain ⟨r1, r2⟩ := p2.loc h6
  obtain ⟨cs, pq⟩ := py.2.2.1 ha
  have e65 : (sI y' 62 (y'.1 62 + 1)).1 65 = y'.1 65 := rfl
  have v4 : 0 ≤ (y'.1 65).toInt ∧ (y'.1 65).toInt < 1502 := by
    have b1 := i1.1
    have b2 := i1.2.2.1
    have b3 := i1.2.2.2
    unfold kP at b2 b3
    omega
  have o1 : ORQ y' (sI y' 62 (y'.1 62 + 1)) T o := by
    refine ⟨⟨i1, i2.loc, i3, fun _ => ⟨p1.loc, r1⟩⟩, FRI.rf.sI (by unfold zi; decide) (by decide), fun _ => CSM.loc, Int.le_refl _, fun k hk => ?_⟩
    rw [sI_1, if_neg (fun z => by subst z; exact absurd hk (by decide))]
  rw [wp_bn]
  refine wp_mono (x_addSlot (u := sI y' 62 (y'.1 62 + 1)) v4 hto (fun _ => ⟨cn.2.1.1, ?_, pq.1.1, pq.1.2.1⟩)) (fun _ y hy => ?_)
  · have b1 := r2
    have b2 := r1.2.2.1
    omega
  have p0 : PRQ u (sI y' 62 (y'.1 62 + 1)) T o := py.tr (o1.p (fun _ => pq.loc))
  have e71 : (sI y' 62 (y'.1 62 + 1)).1 71 = y'.1 71 := rfl
  rcases hy with q | ⟨rfl, q⟩ | ⟨hb, q1, q2⟩
  · have py2 := p0.lf (o' := o) (q.t i1) (fun z => absurd z q.1)
    have q2 : y.2.2.1 2 = y'.2.2.1 2 := by rw [q.2.1.1]; rfl
    exact wp_if.mpr ⟨fun _ => e62 y py2 q.2.2 q2, fun _ => wp_if.mpr ⟨fun z => absurd z q.1, fun _ => e62 y py2 q.2.2 q2⟩⟩
  · exact absurd ha q
  · have e1 : (1 : Int32).toInt = 1 := by decide
    obtain ⟨s1, s2, s3⟩ := q1.all i2.loc r1 pq.loc ⟨a2, a3⟩ (by rw [e1]; omega) q2 r2
    have ek : y.1 65 = y'.1 65 := q1.2.1 65 (by decide)
    have ekk : kP y = kP y' := by unfold kP; rw [ek]
    have e2 : y.2.2.1 2 = y'.2.2.1 2 := q1.2.2.2.1 2 (by decide)
    have y71 : y.1 71 = y'.1 71 := q1.2.1 71 (by decide)
    have y69 : ¬ y.1 69 = 0 := by rw [q1.2.1 69 (by decide)]; exact ha.1
    have y67 : y.1 67 = 0 := by rw [q1.2.1 67 (by decide)]; exact ha.2
    have oy : ORQ (sI y' 62 (y'.1 62 + 1)) y T o := by
      refine ⟨⟨?_, s1, fun _ => ?_, fun _ => ⟨q1.gks p1.loc, s2⟩⟩, q1.fri pq.1.2.2, fun _ => q1.csm, by rw [ekk]; exact Int.le_refl _, fun k hk => q1.2.1 k (fun z => by subst z; exact absurd hk (by decide))⟩
      · obtain ⟨b1, b2, b3, b4⟩ := i1
        exact ⟨b1, by rw [e2]; exact b2, by omega, by omega⟩
      · rw [opn_e (q1.2.1 66 (by decide))]
        exact i3 ha.2
    have py2 : PRQ u y T o := p0.tr (oy.p (fun _ => s3))
    have v71 : vp_in (y.1 71) 48 := by rw [y71]; exact vin_iff.mpr ⟨pq.1.1, by have := pq.1.2.1; omega⟩
    refine wp_if.mpr ⟨fun z => absurd z y69, fun _ => wp_if.mpr ⟨fun _ => wp_rd.mpr ⟨v71, wp_wr.mpr ⟨v71, ?_⟩⟩, fun z => absurd y67 z⟩⟩
    have t3 := i2.2.2.1 (y'.1 71).toNatClampNeg
    have g30 : y.2.2.1 30 (y.1 71).toNatClampNeg = y'.2.2.1 30 (y'.1 71).toNatClampNeg := by rw [y71, q1.2.2.2.1 30 (by decide)]; rfl
    have g29 : y.2.2.1 29 (y.1 71).toNatClampNeg = y'.2.2.1 29 (y'.1 71).toNatClampNeg + 1 := by rw [y71, q1.2.2.2.2.2.2.2.2.1]; exact if_pos rfl
    have n6 : ¬ (y'.2.2.1 30 (y'.1 71).toNatClampNeg).toInt = 6 := fun z => h30 (by decide) (Int32.toInt_inj.mp (by rw [z]; decide))
    have e29 : (y'.2.2.1 29 (y'.1 71).toNatClampNeg + 1).toInt = (y'.2.2.1 29 (y'.1 71).toNatClampNeg).toInt + 1 := by rw [tI_add (by rw [e1]; omega) (by rw [e1]; omega), e1]
    exact e62 _ (py2.p30 ⟨y69, y67⟩ (by rw [g30]; omega) (by rw [g30, g29, e29]; omega)) ek e2
end RPar
