/-! Parts, read. -/
section RPart3
variable {u0 u v w y z zb : RSt} {T N k j r wi : Nat} {o o' e : Int} {x b s l1 l2 l3 l4 l5 l6 op sort many : Int32} {H : Nat → Sh} {α : List (Int × Int)}
theorem e_part138 {kd : Int32} {y' : RSt} (hN : 5000000000 ≤ N) (hkd : 0 ≤ kd.toInt ∧ kd.toInt ≤ 4) (hy : IVQ y' T 0) (hty : tyR y' = 1) : ∀ (v : RSt) (W s1 : Int32), (act v → act y' ∧ ∃ sort many, TLD y' v sort many ∧ (y'.1 62).toInt < 160 ∧ ((l1 = 0 ∧ s1 = 2 ∧ sort = 3 ∧ many = y'.2.2.1 36 (toN y') ∧ (y'.2.2.1 36 (toN y')).toInt < 8 ∧ W.toInt = 24 * toN y' + (y'.2.2.1 36 (toN y')).toInt) ∨ (¬ l1 = 0 ∧ s1 = 3 ∧ sort = 4 ∧ many = y'.2.2.1 37 (toN y') ∧ (y'.2.2.1 37 (toN y')).toInt < 16 ∧ W.toInt = 24 * toN y' + 8 + (y'.2.2.1 37 (toN y')).toInt))) → (¬ act v → IVQ v T 0 ∧ FRI y' v) → v.1 65 = y'.1 65 → v.2.2.1 2 = y'.2.2.1 2 → v.1 56 = y'.1 56 → v.2.2.1 27 = y'.2.2.1 27 → (l1 = 0 → s1 = 2) ∧ (¬ l1 = 0 → s1 = 3) → wp (B_part_138 N l1 kd s1 (sI v 71 W)) (fun _ w => IVQ w T 0 ∧ FRI y' w ∧ kP y' < kP w) := by
  have e8 : (8 : Int32).toInt = 8 := by decide
  have e24 : (24 : Int32).toInt = 24 := by decide
  obtain ⟨i1, i2, i3, i4⟩ := id hy
  obtain ⟨t1, t2, t3, t4, t5, t6, t7, t8, t9, t10⟩ := id i2
  have v2 : vp_in (y'.1 56) 2 := vin_iff.mpr ⟨t9, by omega⟩
  have tn : (toN y' : Int) = (y'.1 56).toInt := by show ((y'.1 56).toInt.toNat : Int) = _; omega
  have em : (24 * y'.1 56).toInt = 24 * (y'.1 56).toInt := by rw [tI_mul (by rw [e24]; omega) (by rw [e24]; omega), e24]
  have cn := t5 (toN y')
  intro v W s1 hv hd h65 h2 h56 h27 hs
  have vv2 : vp_in (v.1 56) 2 := by rw [h56]; exact v2
  unfold B_part_138
  refine wp_pu.mpr (wp_rd.mpr ⟨vv2, wp_pu.mpr (wp_pu.mpr (wp_pu.mpr ?_))⟩)
  have e27 : (sI (sI v 71 W) 70 s1).2.2.1 27 ((sI (sI v 71 W) 70 s1).1 56).toNatClampNeg = y'.2.2.1 27 (toN y') := by
    show v.2.2.1 27 (v.1 56).toNatClampNeg = _
    rw [h27, h56]
    rfl
  rw [e27]
  generalize ez : sI (sI (sI (sI (sI v 71 W) 70 s1) 72 (y'.2.2.1 27 (toN y'))) 73 0) 74 0 = z
  have z1 : ∀ k, k ∉ [70, 71, 72, 73, 74] → z.1 k = v.1 k := by
    intro k hk
    simp only [List.mem_cons, List.not_mem_nil, or_false, not_or] at hk
    rw [← ez, sI_1, if_neg hk.2.2.2.2, sI_1, if_neg hk.2.2.2.1, sI_1, if_neg hk.2.2.1, sI_1, if_neg hk.1, sI_1, if_neg hk.2.1]
  have z2 : z.2 = v.2 := by rw [← ez]; rfl
  have z70 : z.1 70 = s1 := by rw [← ez]; rfl
  have z71 : z.1 71 = W := by rw [← ez]; rfl
  have z72 : z.1 72 = y'.2.2.1 27 (toN y') := by rw [← ez]; rfl
  have z73 : z.1 73 = 0 := by rw [← ez]; rfl
  have z74 : z.1 74 = 0 := by rw [← ez]; rfl
  have zk : kP z = kP y' := by unfold kP; rw [z1 65 (by decide), h65]
  have zty : tyR z = 1 := by unfold tyR; rw [z1 65 (by decide), h65, z2, h2]; exact hty
  have dead : ¬ act z → wp (B_part_300 N l1 kd z) (fun _ w => IVQ w T 0 ∧ FRI y' w ∧ kP y' < kP w) := by
    intro hna
    have nv : ¬ act v := fun q => hna ⟨by rw [z1 69 (by decide)]; exact q.1, by rw [z1 67 (by decide)]; exact q.2⟩
    obtain ⟨dv, fv⟩ := hd nv
    have fz : FRI y' z := by
      refine fv.tr ⟨fun k hk => z1 k (fun q => hk ?_), fun q => by rw [z1 67 (by decide)]; exact q, fun k j _ _ => by rw [z2], fun k _ => by rw [z2], fun q => q.of (by rw [z2]) (by rw [z2]), fun q => by rw [z2]; exact q⟩
      unfold zi
      simp only [List.mem_cons, List.not_mem_nil, or_false] at q ⊢
      omega
    have iz : IVP z T 0 := by
      refine ⟨?_, ?_, fun q => ?_, fun q => absurd q hna⟩
      · obtain ⟨b1, b2, b3, b4⟩ := i1
        exact ⟨b1, by rw [z2, h2]; exact b2, by omega, by omega⟩
      · obtain ⟨d1, d2, d3, d4, d5, d6, d7, d8, d9, d10⟩ := dv.2.1
        unfold TB0 VOK SLT PRT INT CNT
        rw [z2, z72, z1 61 (by decide), z1 56 (by decide)]
        exact ⟨d1, d2, d3, d4, d5, d6, d7, cn.2.1.1, d9, d10⟩
      · rw [opn_e (z1 66 (by decide))]
        exact dv.2.2.1 (by rw [← z1 67 (by decide)]; exact q)
    exact e_part300 (s := s1) hN (fun q => absurd q hna) fz (fun q => absurd q hna) z74 z70 (by omega) iz (by rw [zty]; unfold isT; decide) hs
  refine wp_if.mpr ⟨fun q1 => dead (fun q => q.1 q1), fun q1 => wp_if.mpr ⟨fun q2 => ?_, fun q2 => dead (fun q => q2 q.2)⟩⟩
  have av : act v := ⟨by rw [← z1 69 (by decide)]; exact q1, by rw [← z1 67 (by decide)]; exact q2⟩
  obtain ⟨ay, sort, many, hT, h6, hcase⟩ := hv av
  have w0 : 0 ≤ W.toInt ∧ W.toInt < 48 := by rcases hcase with ⟨-, -, -, -, q, q'⟩ | ⟨-, -, -, -, q, q'⟩ <;> omega
  have v71 : vp_in (z.1 71) 48 := by rw [z71]; exact vin_iff.mpr ⟨w0.1, by omega⟩
  have v65 : vp_in (z.1 65) 1502 := by rw [z1 65 (by decide), h65]; exact i1.vin
  have vz2 : vp_in (z.1 56) 2 := by rw [z1 56 (by decide)]; exact vv2
  refine wp_rd.mpr ⟨v65, wp_wr.mpr ⟨v71, wp_rd.mpr ⟨v65, wp_wr.mpr ⟨v71, wp_wr.mpr ⟨v71, wp_wr.mpr ⟨v71, wp_wr.mpr ⟨v71, wp_wr.mpr ⟨v71, wp_wr.mpr ⟨v71, ?_⟩⟩⟩⟩⟩⟩⟩⟩⟩
  generalize ep : sA (sA (sA (sA (sA (sB (sB z 34 _ _) 35 _ _) 33 _ _) 28 _ _) 29 _ _) 30 _ _) 31 _ _ = p
  have p1 : p.1 = z.1 := by rw [← ep]; rfl
  have p3 : ∀ k, k ∉ [28, 29, 30, 31, 33] → p.2.2.1 k = v.2.2.1 k := by
    intro k hk
    simp only [List.mem_cons, List.not_mem_nil, or_false, not_or] at hk
    rw [← ep, sA_3, if_neg hk.2.2.2.1, sA_3, if_neg hk.2.2.1, sA_3, if_neg hk.2.1, sA_3, if_neg hk.1, sA_3, if_neg hk.2.2.2.2]
    show z.2.2.1 k = _
    rw [z2]
  have p4 : ∀ k, k ∉ [34, 35] → p.2.2.2 k = v.2.2.2 k := by
    intro k hk
    simp only [List.mem_cons, List.not_mem_nil, or_false, not_or] at hk
    rw [← ep]
    show (sB (sB z 34 _ _) 35 _ _).2.2.2 k = _
    rw [sB_4, if_neg hk.2, sB_4, if_neg hk.1, z2]
  have wn : (z.1 71).toNatClampNeg = W.toInt.toNat := by rw [z71]; rfl
  have p28 : p.2.2.1 28 = upd (v.2.2.1 28) W.toInt.toNat (y'.2.2.1 27 (toN y')) := by
    rw [← ep]
    show upd (z.2.2.1 28) (z.1 71).toNatClampNeg (z.1 72) = _
    rw [wn, z72, z2]
  have p29 : p.2.2.1 29 = upd (v.2.2.1 29) W.toInt.toNat 0 := by
    rw [← ep]
    show upd (z.2.2.1 29) (z.1 71).toNatClampNeg 0 = _
    rw [wn, z2]
  have p30 : p.2.2.1 30 = upd (v.2.2.1 30) W.toInt.toNat 0 := by
    rw [← ep]
    show upd (z.2.2.1 30) (z.1 71).toNatClampNeg 0 = _
    rw [wn, z2]
  have p31 : p.2.2.1 31 = upd (v.2.2.1 31) W.toInt.toNat 0 := by
    rw [← ep]
    show upd (z.2.2.1 31) (z.1 71).toNatClampNeg 0 = _
    rw [wn, z2]
  have p33 : p.2.2.1 33 = upd (v.2.2.1 33) W.toInt.toNat kd := by
    rw [← ep]
    show upd (z.2.2.1 33) (z.1 71).toNatClampNeg kd = _
    rw [wn, z2]
  have vp2 : vp_in (p.1 56) 2 := by rw [p1]; exact vz2
  have ptn : (p.1 56).toNatClampNeg = toN y' := by rw [p1, z1 56 (by decide), h56]; rfl
  have wz : (z.1 71).toInt = (W.toInt.toNat : Nat) := by rw [z71]; omega
  have go : ∀ q : RSt, q.1 = p.1 → (∀ k, k ∉ [36, 37] → q.2.2.1 k = p.2.2.1 k) → q.2.2.2 = p.2.2.2 → ((z.1 70 = 2 ∧ sort = 3 ∧ many = y'.2.2.1 36 (toN y') ∧ (W.toInt.toNat : Int) = 24 * toN y' + (y'.2.2.1 36 (toN y')).toInt ∧ (y'.2.2.1 36 (toN y')).toInt < 8 ∧ q.2.2.1 36 = upd (v.2.2.1 36) (toN y') (y'.2.2.1 36 (toN y') + 1) ∧ q.2.2.1 37 = v.2.2.1 37) ∨ (z.1 70 = 3 ∧ sort = 4 ∧ many = y'.2.2.1 37 (toN y') ∧ (W.toInt.toNat : Int) = 24 * toN y' + 8 + (y'.2.2.1 37 (toN y')).toInt ∧ (y'.2.2.1 37 (toN y')).toInt < 16 ∧ q.2.2.1 37 = upd (v.2.2.1 37) (toN y') (y'.2.2.1 37 (toN y') + 1) ∧ q.2.2.1 36 = v.2.2.1 36)) → wp (B_part_300 N l1 kd q) (fun _ w => IVQ w T 0 ∧ FRI y' w ∧ kP y' < kP w) := by
    intro q q1 q3 q4 qc
    obtain ⟨b1, b2, b3, b4⟩ := e_begin (zb := q) (wi := W.toInt.toNat) hy ay hT h6 hkd (fun k hk => by rw [q1, p1]; exact z1 k hk) (by rw [q1, p1]; exact z72) (by rw [q1, p1]; exact z73) (fun k hk => by
        simp only [List.mem_cons, List.not_mem_nil, or_false, not_or] at hk
        rw [q3 k (by simp only [List.mem_cons, List.not_mem_nil, or_false, not_or]; exact hk.2.2.2.2.2)]
        exact p3 k (by simp only [List.mem_cons, List.not_mem_nil, or_false, not_or]; exact ⟨hk.1, hk.2.1, hk.2.2.1, hk.2.2.2.1, hk.2.2.2.2.1⟩)) (by rw [q3 28 (by decide)]; exact p28) (by rw [q3 29 (by decide)]; exact p29) (by rw [q3 30 (by decide)]; exact p30) (by rw [q3 31 (by decide)]; exact p31) (by rw [q3 33 (by decide)]; exact p33) (fun k hk => by rw [q4]; exact p4 k hk) (by rw [q1, p1]; exact wz) (by rw [q1, p1]; exact qc)
    have qk : kP q = kP y' := by unfold kP; rw [q1, p1]; exact zk
    have qty : tyR q = 1 := by unfold tyR; rw [q1, p1, q3 2 (by decide), p3 2 (by decide), ← z2]; exact zty
    exact e_part300 (s := s1) hN (fun _ => ⟨i2, (i4 ay).2.2⟩) b2 (fun _ => ⟨b4, b3⟩) (by rw [q1, p1]; exact z74) (by rw [q1, p1]; exact z70) (by omega) b1 (by rw [qty]; unfold isT; decide) hs
  have v36 : p.2.2.1 36 = v.2.2.1 36 := p3 36 (by decide)
  have v37 : p.2.2.1 37 = v.2.2.1 37 := p3 37 (by decide)
  have vy : ∀ k, k ∉ [59, 60] → v.2.2.1 k = y'.2.2.1 k := hT.2.2.2.2.1
  refine wp_if.mpr ⟨fun c0 => ?_, fun c0 => ?_⟩
  · rcases hcase with ⟨-, c2, c3, c4, c5, c6⟩ | ⟨c1, -⟩
    · refine wp_rd.mpr ⟨vp2, wp_wr.mpr ⟨vp2, go (sA p 36 (p.1 56).toNatClampNeg (p.2.2.1 36 (p.1 56).toNatClampNeg + 1)) rfl (fun k hk => ?_) rfl (Or.inl ⟨z70.trans c2, c3, c4, by omega, c5, ?_, ?_⟩)⟩⟩
      · rw [sA_3, if_neg (fun z => by subst z; exact absurd hk (by decide))]
      · rw [sA_3, if_pos rfl, ptn, v36, vy 36 (by decide)]
      · rw [sA_3, if_neg (by decide)]; exact v37
    · exact absurd c0 c1
  · rcases hcase with ⟨c1, -⟩ | ⟨-, c2, c3, c4, c5, c6⟩
    · exact absurd c1 c0
    · refine wp_rd.mpr ⟨vp2, wp_wr.mpr ⟨vp2, go (sA p 37 (p.1 56).toNatClampNeg (p.2.2.1 37 (p.1 56).toNatClampNeg + 1)) rfl (fun k hk => ?_) rfl (Or.inr ⟨z70.trans c2, c3, c4, by omega, c5, ?_, ?_⟩)⟩⟩
      · rw [sA_3, if_neg (fun z => by subst z; exact absurd hk (by decide))]
      · rw [sA_3, if_pos rfl, ptn, v37, vy 37 (by decide)]
      · rw [sA_3, if_neg (by decide)]; exact v36
theorem e_part93 {kd : Int32} {y' : RSt} (hN : 5000000000 ≤ N) (hkd : 0 ≤ kd.toInt ∧ kd.toInt ≤ 4) (hy : IVQ y' T 0) (hty : tyR y' = 1) : ∀ (many sort s3 : Int32), ((l1 = 0 ∧ sort = 3 ∧ many = y'.2.2.1 36 (toN y') ∧ (s3 = 0 → (y'.2.2.1 36 (toN y')).toInt < 8)) ∨ (¬ l1 = 0 ∧ sort = 4 ∧ many = y'.2.2.1 37 (toN y') ∧ (s3 = 0 → (y'.2.2.1 37 (toN y')).toInt < 16))) → wp (B_part_93 N l1 kd many sort many s3 y') (fun _ w => IVQ w T 0 ∧ FRI y' w ∧ kP y' < kP w) := by
  have e8 : (8 : Int32).toInt = 8 := by decide
  have e24 : (24 : Int32).toInt = 24 := by decide
  obtain ⟨i1, i2, i3, i4⟩ := id hy
  obtain ⟨t1, t2, t3, t4, t5, t6, t7, t8, t9, t10⟩ := id i2
  have v2 : vp_in (y'.1 56) 2 := vin_iff.mpr ⟨t9, by omega⟩
  have tn : (toN y' : Int) = (y'.1 56).toInt := by show ((y'.1 56).toInt.toNat : Int) = _; omega
  have em : (24 * y'.1 56).toInt = 24 * (y'.1 56).toInt := by rw [tI_mul (by rw [e24]; omega) (by rw [e24]; omega), e24]
  have cn := t5 (toN y')
  have e138 := e_part138 (l1 := l1) hN hkd hy hty
  intro many sort s3 hc
  unfold B_part_93
  rw [wp_bn]
  refine wp_mono (x_telling hN i1 t7 (fun ha => ⟨(i4 ha).2.1.1, (i4 ha).2.1.2.1, (i4 ha).2.1.2.2.1⟩)) (fun _ v hv => ?_)
  have fr : v.1 65 = y'.1 65 ∧ v.2.2.1 2 = y'.2.2.1 2 ∧ v.1 56 = y'.1 56 ∧ v.2.2.1 27 = y'.2.2.1 27 ∧ (¬ act v → IVQ v T 0 ∧ FRI y' v) := by
    rcases hv with q | ⟨rfl, q⟩ | ⟨qa, q, -⟩
    · exact ⟨q.2.2, by rw [q.2.1.1], q.2.1.2.1 56 (by decide), by rw [q.2.1.1], fun _ => ⟨hy.flt q, FRI.lf q.2.1⟩⟩
    · exact ⟨rfl, rfl, rfl, rfl, fun _ => ⟨hy, FRI.rf⟩⟩
    · refine ⟨q.2.1 65 (by decide), q.2.2.2.2.1 2 (by decide), q.2.1 56 (by decide), q.2.2.2.2.1 27 (by decide), fun z => absurd ⟨?_, ?_⟩ z⟩
      · rw [q.2.1 69 (by decide)]; exact qa.1
      · rw [q.2.1 67 (by decide)]; exact qa.2
  obtain ⟨f1, f2, f3, f4, f5⟩ := fr
  have at_ : act v → act y' ∧ TLD y' v sort many ∧ (y'.1 62).toInt < 160 ∧ s3 = 0 := by
    intro av
    rcases hv with q | ⟨rfl, q⟩ | ⟨qa, q, q2, q3⟩
    · exact absurd av.2 q.1
    · exact absurd av q
    · exact ⟨qa, q, q2, q3⟩
  unfold B_part_125
  refine wp_if.mpr ⟨fun c0 => ?_, fun c0 => ?_⟩
  · refine wp_pu.mpr (wp_if.mpr ⟨fun _ => ?_, fun q => absurd c0 q⟩)
    rcases hc with ⟨-, c2, c3, c4⟩ | ⟨c1, -⟩
    · refine e138 v _ 2 (fun av => ?_) f5 f1 f2 f3 f4 ⟨fun _ => rfl, fun q => absurd c0 q⟩
      obtain ⟨a1, a2, a3, a4⟩ := at_ av
      refine ⟨a1, sort, many, a2, a3, Or.inl ⟨c0, rfl, c2, c3, c4 a4, ?_⟩⟩
      have := c4 a4
      have := cn.2.2.1.1
      rw [f3, c3, tI_add (by omega) (by omega), em, tn]
    · exact absurd c0 c1
  · refine wp_pu.mpr (wp_if.mpr ⟨fun q => absurd q c0, fun _ => ?_⟩)
    rcases hc with ⟨c1, -⟩ | ⟨-, c2, c3, c4⟩
    · exact absurd c1 c0
    · refine e138 v _ 3 (fun av => ?_) f5 f1 f2 f3 f4 ⟨fun q => absurd q c0, fun _ => rfl⟩
      obtain ⟨a1, a2, a3, a4⟩ := at_ av
      refine ⟨a1, sort, many, a2, a3, Or.inr ⟨c0, rfl, c2, c3, c4 a4, ?_⟩⟩
      have := c4 a4
      have := cn.2.2.2.1.1
      have e1 : (24 * v.1 56 + 8).toInt = 24 * toN y' + 8 := by rw [f3, tI_add (by rw [e8]; omega) (by rw [e8]; omega), em, tn, e8]
      rw [c3, tI_add (by omega) (by omega), e1]
theorem x_part (hN : 5000000000 ≤ N) (hi : IVQ u T 0) (ht : ¬ isT (tyR u)) : wp (F_part N l1 u) (fun _ w => IVQ w T 0 ∧ FRI u w ∧ (w.1 67 = 0 → kP u < kP w)) := by
  unfold F_part B_part_0
  obtain ⟨on1, on2, on3⟩ := hi.on ht
  refine wp_pu.mpr ?_
  generalize sI u 65 (u.1 65 + 1) = u1 at on1 on2 on3 ⊢
  have e8 : (8 : Int32).toInt = 8 := by decide
  have e24 : (24 : Int32).toInt = 24 := by decide
  have e22 : ∀ (kd : Int32) (y : RSt), 0 ≤ kd.toInt ∧ kd.toInt ≤ 4 → IVQ y T 0 → FRI u y → kP u < kP y → wp (B_part_22 N l1 kd y) (fun _ w => IVQ w T 0 ∧ FRI u w ∧ (w.1 67 = 0 → kP u < kP w)) := by
    intro kd y hkd hy hf hk
    obtain ⟨i1, i2, i3, i4⟩ := id hy
    obtain ⟨t1, t2, t3, t4, t5, t6, t7, t8, t9, t10⟩ := id i2
    have v2 : vp_in (y.1 56) 2 := vin_iff.mpr ⟨t9, by omega⟩
    have tn : (toN y : Int) = (y.1 56).toInt := by show ((y.1 56).toInt.toNat : Int) = _; omega
    have em : (24 * y.1 56).toInt = 24 * (y.1 56).toInt := by rw [tI_mul (by rw [e24]; omega) (by rw [e24]; omega), e24]
    unfold B_part_22
    rw [wp_bn]
    refine wp_mono (x_is i1) (fun r y' hy' => ?_)
    obtain ⟨rfl, hr⟩ := hy'
    refine wp_if.mpr ⟨fun c => ?_, fun c => ?_⟩
    · rw [wp_bn]
      exact wp_mono (x_stuck i1) (fun _ w hw => wp_some.mpr ⟨hy.flt hw, hf.tr (FRI.lf hw.2.1), fun z => absurd z hw.1⟩)
    obtain ⟨-, hz, hty⟩ : r = 1 ∧ y'.1 67 = 0 ∧ tyR y' = 1 := by
      rcases hr with q | ⟨q, -⟩
      · exact q
      · exact absurd q c
    have cn := t5 (toN y')
    have e93 := e_part93 (l1 := l1) hN hkd hy hty
    have fin : ∀ {x : Option (Int32 × RSt)}, wp x (fun _ w => IVQ w T 0 ∧ FRI y' w ∧ kP y' < kP w) → wp x (fun _ w => IVQ w T 0 ∧ FRI u w ∧ (w.1 67 = 0 → kP u < kP w)) := fun hx =>
      wp_mono hx (fun _ w hw => ⟨hw.1, hf.tr hw.2.1, fun _ => by have := hw.2.2; omega⟩)
    have n8 : ∀ q : ¬ y'.2.2.1 36 (y'.1 56).toNatClampNeg = 8, (y'.2.2.1 36 (toN y')).toInt < 8 := fun q => by
      have : ¬ (y'.2.2.1 36 (toN y')).toInt = 8 := fun z => q (Int32.toInt_inj.mp (by rw [e8]; exact z))
      have := cn.2.2.1
      omega
    have n16 : ∀ q : ¬ y'.2.2.1 37 (y'.1 56).toNatClampNeg = 16, (y'.2.2.1 37 (toN y')).toInt < 16 := fun q => by
      have e16 : (16 : Int32).toInt = 16 := by decide
      have : ¬ (y'.2.2.1 37 (toN y')).toInt = 16 := fun z => q (Int32.toInt_inj.mp (by rw [e16]; exact z))
      have := cn.2.2.2.1
      omega
    refine wp_if.mpr ⟨fun c0 => ?_, fun c0 => ?_⟩
    · refine wp_rd.mpr ⟨v2, fin ?_⟩
      unfold B_part_61 B_part_72 B_part_85
      rw [if_pos c0, if_pos c0]
      exact wp_if.mpr ⟨fun _ => e93 _ _ _ (Or.inl ⟨c0, rfl, rfl, fun z => absurd z (by decide)⟩), fun q => e93 _ _ _ (Or.inl ⟨c0, rfl, rfl, fun _ => n8 q⟩)⟩
    · refine wp_rd.mpr ⟨v2, fin ?_⟩
      unfold B_part_61 B_part_72 B_part_85
      rw [if_neg c0, if_neg c0]
      exact wp_if.mpr ⟨fun _ => e93 _ _ _ (Or.inr ⟨c0, rfl, rfl, fun z => absurd z (by decide)⟩), fun q => e93 _ _ _ (Or.inr ⟨c0, rfl, rfl, fun _ => n16 q⟩)⟩
  refine wp_if.mpr ⟨fun _ => e22 0 u1 (by decide) on3 (FRI.lf on1.1) (by omega), fun _ => ?_⟩
  rw [wp_bn]
  refine wp_mono (x_kind on3.1) (fun r y hy => ?_)
  obtain ⟨a1, a2, a3, a4⟩ := hy
  refine e22 r y ⟨a2, a3⟩ (on3.lf a1 (fun z => ?_)) ((FRI.lf on1.1).tr (FRI.lf a1.1)) (by have := a1.2.1; omega)
  rw [opn_e (a4 z).2.2]
  exact on3.2.2.1 (a4 z).1
end RPart3
