/-! Parts: parameters, then the body. -/
section RPart2
variable {u0 u v w y z zb : RSt} {T N k j r wi : Nat} {o o' e : Int} {x b s l1 l2 l3 l4 l5 l6 op sort many : Int32} {H : Nat → Sh} {α : List (Int × Int)}
theorem PBG.csp (h : PBG u zb wi) (hc : CSP zb w) (hw : wi = (zb.1 71).toNatClampNeg) (h70 : w.1 70 = zb.1 70) : PBG u w wi := by
  obtain ⟨a1, a2, a3, a4⟩ := h
  obtain ⟨c1, c2, c3, c4⟩ := hc
  refine ⟨c1.trans a1, fun k hk => (c3 k ?_).trans (a2 k hk), fun j hj => ⟨(c4 j (by rw [← hw]; exact hj)).trans (a3 j hj).1, by rw [c3 32 (by decide)]; exact (a3 j hj).2⟩, ?_⟩
  · simp only [List.mem_cons, List.not_mem_nil, or_false] at hk ⊢
    omega
  · rw [c3 36 (by decide), c3 37 (by decide), h70]
    exact a4
theorem e_part355 (hN : 5000000000 ≤ N) (hu : act y → TB0 u ∧ CDQ u) (hf : FRI u zb) (hb : act zb → PBG u zb (zb.1 71).toNatClampNeg) (h74 : zb.1 74 = 0) (h70 : zb.1 70 = s) (hk : kP u < kP y) (hy : PRQ zb y T 1) (hs : (l1 = 0 → s = 2) ∧ (¬ l1 = 0 → s = 3)) : wp (B_part_355 N l1 l2 y) (fun _ w => IVQ w T 0 ∧ FRI u w ∧ kP u < kP w) := by
  unfold B_part_355
  rw [wp_bn]
  refine wp_mono (x_ends hy.1.1 (by unfold isT; decide) (fun q => by rw [hy.1.2.2.1 q]; decide)) (fun _ a ha => ?_)
  have pa := hy.lf (o' := 0) ha.1 (fun q => by have := (ha.2 q).2.2.2; have := hy.1.2.2.1 (ha.2 q).1; omega)
  rw [wp_bn]
  refine wp_mono (x_begins pa.1.1 (by unfold isT; decide) (fun q => by rw [pa.1.2.2.1 q]; decide)) (fun _ b hb2 => ?_)
  have pb := pa.lf (o' := 1) hb2.1 (fun q => by have := (hb2.2 q).2.2.2.1; have := pa.1.2.2.1 (hb2.2 q).1; omega)
  have kb : kP u < kP b := by have := ha.1.2.1; have := hb2.1.2.1; omega
  have fb : FRI u b := hf.tr pb.2.1
  have dead : ¬ act b → wp (LP_part_396 N N (l1, l2, b)) (fun _ w => IVQ w T 0 ∧ FRI u w ∧ kP u < kP w) := fun hna =>
    x_locals hN ⟨pb.1.1, pb.1.2.1, pb.1.2.2.1, fb, kb, by rw [pb.2.2.2.2 74 (by decide)]; exact h74, by rw [pb.2.2.2.2 70 (by decide)]; exact h70, fun q => absurd q hna⟩ (fun q => absurd q hna) hs
  refine wp_if.mpr ⟨fun q1 => dead (fun q => q.1 q1), fun q1 => wp_if.mpr ⟨fun q2 => ?_, fun q2 => dead (fun q => q2 q.2)⟩⟩
  have ab : act b := ⟨q1, q2⟩
  have ay : act y := (FRI.lf (ha.1.1.tr hb2.1.1)).ac ab
  obtain ⟨tu, cu⟩ := hu ay
  obtain ⟨cs, pq⟩ := pb.2.2.1 ab
  have azb := pb.2.1.ac ab
  have pbg := (hb azb).csp cs rfl (pb.2.2.2.2 70 (by decide))
  have e54 : b.2.2.1 54 (toN b) = u.2.2.1 54 (toN u) := by rw [pbg.1, pbg.2.1 54 (by decide)]
  obtain ⟨i1, i2, i3, i4⟩ := id pb.1
  have bt := i1.1
  have bt2 := i1.2.2.2
  have bnd : BND b := ⟨i2.2.2.2.2.2.2.2.2.1, i2.2.2.2.2.2.2.2.2.2, fun _ => by rw [e54]; have := cu.1; have := cu.2.1; omega⟩
  rw [wp_bn]
  refine wp_mono (x_here2 bnd) (fun r b' hr => ?_)
  obtain ⟨rfl, hr⟩ := hr
  refine wp_wr.mpr ⟨vin_iff.mpr ⟨pq.1.1, by have := pq.1.2.1; omega⟩, ?_⟩
  have e71 : (zb.1 71).toNatClampNeg = (b'.1 71).toNatClampNeg := by rw [cs.2.1]
  rw [e71] at pbg
  have pz : PBG u (sA b' 32 (b'.1 71).toNatClampNeg r) (b'.1 71).toNatClampNeg := by
    obtain ⟨a1, a2, a3, a4⟩ := pbg
    refine ⟨a1, fun k hk => ?_, fun j hj => ⟨(a3 j hj).1, ?_⟩, a4⟩
    · rw [sA_3, if_neg (fun q => by subst q; exact absurd hk (by decide))]
      exact a2 k hk
    · rw [sA_3, if_pos rfl]
      exact (if_neg hj).trans (a3 j hj).2
  have z32 : ((sA b' 32 (b'.1 71).toNatClampNeg r).2.2.1 32 (b'.1 71).toNatClampNeg).toInt = posR (sA b' 32 (b'.1 71).toNatClampNeg r) := by
    rw [sA_3, if_pos rfl]
    show (upd _ _ _ _).toInt = posR b'
    unfold upd
    rw [if_pos rfl]
    exact hr ab
  obtain ⟨inb, H, cd⟩ := cu.begin tu pz z32
  obtain ⟨n1, n2, n3, n4, n5, n6, n7, n8⟩ := i4 ab
  refine x_locals hN ⟨i1, i2, i3, fb.tr (FRI.rf.sA (Or.inr ⟨by decide, pq.1.2.2⟩) (by decide)), kb, ?_, ?_, fun _ => ⟨n1, ⟨n2, n3, n4, n5, n6, n7, fun b hb => ?_⟩, inb, Or.inl ⟨H, cd⟩, ?_, fun _ => ⟨pq.1.1, pq.1.2.1⟩⟩⟩ (fun _ => pq) hs
  · show b'.1 74 = 0
    rw [pb.2.2.2.2 74 (by decide)]; exact h74
  · show b'.1 70 = s
    rw [pb.2.2.2.2 70 (by decide)]; exact h70
  · obtain ⟨g1, g2⟩ := n8 b hb
    exact ⟨g1, g2.trans (ssz_eq (u := b') (w := sA b' 32 (b'.1 71).toNatClampNeg r) (fun _ _ => rfl)).symm⟩
  · show 0 ≤ (b'.2.2.1 54 (toN b')).toInt ∧ (b'.2.2.1 54 (toN b')).toInt + 2 ≤ 5 * kP b'
    rw [e54]
    have := cu.1
    have := cu.2.1
    omega
theorem e_part300 (hN : 5000000000 ≤ N) (hu : act zb → TB0 u ∧ CDQ u) (hf : FRI u zb) (hb : act zb → PBG u zb (zb.1 71).toNatClampNeg ∧ PQ zb) (h74 : zb.1 74 = 0) (h70 : zb.1 70 = s) (hk : kP u ≤ kP zb) (hy : IVP zb T 0) (ht : ¬ isT (tyR zb)) (hs : (l1 = 0 → s = 2) ∧ (¬ l1 = 0 → s = 3)) : wp (B_part_300 N l1 l2 zb) (fun _ w => IVQ w T 0 ∧ FRI u w ∧ kP u < kP w) := by
  unfold B_part_300
  have p0 : PRQ zb zb T 0 := PRQ.rf hy (fun ha => (hb ha).2)
  obtain ⟨n1, n2, n3⟩ := p0.on ht
  refine wp_pu.mpr ?_
  generalize sI zb 65 (zb.1 65 + 1) = y at n1 n2 n3 ⊢
  rw [wp_bn]
  refine wp_mono (x_begins n3.1.1 (by unfold isT; decide) (fun q => by rw [n3.1.2.2.1 q]; decide)) (fun _ a ha => ?_)
  have pa := n3.lf (o' := 1) ha.1 (fun q => by have := (ha.2 q).2.2.2.1; have := n3.1.2.2.1 (ha.2 q).1; omega)
  have ka : kP u < kP a := by have := ha.1.2.1; omega
  have fin : ∀ z : RSt, PRQ zb z T 1 → kP a ≤ kP z → wp (B_part_355 N l1 l2 z) (fun _ w => IVQ w T 0 ∧ FRI u w ∧ kP u < kP w) := fun z hz hk2 =>
    e_part355 hN (fun q => hu (hz.2.1.ac q)) hf (fun q => (hb q).1) h74 h70 (by omega) hz hs
  refine wp_if.mpr ⟨fun c => ?_, fun _ => fin a pa (Int.le_refl _)⟩
  rw [wp_bn]
  refine wp_mono (x_is pa.1.1) (fun r a' ha' => ?_)
  obtain ⟨rfl, -⟩ := ha'
  refine wp_if.mpr ⟨fun _ => ?_, fun _ => fin a' pa (Int.le_refl _)⟩
  rw [wp_bn]
  refine wp_mono (x_parameter hN pa (by decide) (by decide)) (fun _ b hb2 => ?_)
  obtain ⟨b1, b2, b3⟩ := hb2
  unfold LP_part_338
  refine wp_lp (fun (d : Nat) (x : Int32 × Int32 × RSt) => x.1 = l1 ∧ x.2.1 = l2 ∧ PRQ zb x.2.2 T 1 ∧ kP a' ≤ kP x.2.2 ∧ d = (T - kP x.2.2).toNat + (if x.2.2.1 67 = 0 then 1 else 0)) ?_ _ ((T - kP b).toNat + (if b.1 67 = 0 then 1 else 0)) _ (by have := b1.1.1.1; have := b1.1.1.2.2.1; split <;> omega) ⟨rfl, rfl, b1, b2, rfl⟩
  rintro d R ⟨m1, m2, z⟩ ⟨hm1, hm2, hz, hzk, hd⟩ ih
  have hm1 : m1 = l1 := hm1
  have hm2 : m2 = l2 := hm2
  subst hm1 hm2
  dsimp only at hz hzk hd ih ⊢
  unfold B_part_338
  rw [wp_bn]
  refine wp_mono (x_has hz.1.1 (by unfold isT; decide)) (fun r2 p hp => ?_)
  rcases hp with ⟨r1, z1, z2, z3, z4, z5⟩ | ⟨r1, rfl, -⟩
  · refine wp_if.mpr ⟨fun q => absurd q (by rw [r1]; decide), fun _ => ?_⟩
    have ip := hz.lf (o' := 1) z3 (fun q => by rw [z5]; exact hz.1.2.2.1 z1)
    rw [wp_bn]
    refine wp_mono (x_parameter hN ip (by decide) (by decide)) (fun _ q hq => ?_)
    obtain ⟨q1, q2, q3⟩ := hq
    refine ih _ (m1, m2, q) ?_ ⟨rfl, rfl, q1, by show kP a' ≤ kP q; omega, rfl⟩
    dsimp only
    rw [hd, if_pos z1]
    have := hz.1.1.2.2.2
    have := q1.1.1.2.2.2
    split <;> omega
  · exact wp_if.mpr ⟨fun _ => fin p hz hzk, fun q => absurd r1 q⟩
/-- the part's number is taken, its row is cleared -/
theorem e_begin (hi : IVQ u T 0) (ha : act u) (hT : TLD u v sort many) (h6 : (u.1 62).toInt < 160) (hl2 : 0 ≤ l2.toInt ∧ l2.toInt ≤ 4) (h1 : ∀ k, k ∉ [70, 71, 72, 73, 74] → zb.1 k = v.1 k) (h72 : zb.1 72 = u.2.2.1 27 (toN u)) (h73 : zb.1 73 = 0) (h3 : ∀ k, k ∉ [28, 29, 30, 31, 33, 36, 37] → zb.2.2.1 k = v.2.2.1 k) (h28 : zb.2.2.1 28 = upd (v.2.2.1 28) wi (u.2.2.1 27 (toN u))) (h29 : zb.2.2.1 29 = upd (v.2.2.1 29) wi 0) (h30 : zb.2.2.1 30 = upd (v.2.2.1 30) wi 0) (h31 : zb.2.2.1 31 = upd (v.2.2.1 31) wi 0) (h33 : zb.2.2.1 33 = upd (v.2.2.1 33) wi l2) (h4 : ∀ k, k ∉ [34, 35] → zb.2.2.2 k = v.2.2.2 k) (h71 : (zb.1 71).toInt = wi) (hc : (zb.1 70 = 2 ∧ sort = 3 ∧ many = u.2.2.1 36 (toN u) ∧ (wi : Int) = 24 * toN u + (u.2.2.1 36 (toN u)).toInt ∧ (u.2.2.1 36 (toN u)).toInt < 8 ∧ zb.2.2.1 36 = upd (v.2.2.1 36) (toN u) (u.2.2.1 36 (toN u) + 1) ∧ zb.2.2.1 37 = v.2.2.1 37) ∨ (zb.1 70 = 3 ∧ sort = 4 ∧ many = u.2.2.1 37 (toN u) ∧ (wi : Int) = 24 * toN u + 8 + (u.2.2.1 37 (toN u)).toInt ∧ (u.2.2.1 37 (toN u)).toInt < 16 ∧ zb.2.2.1 37 = upd (v.2.2.1 37) (toN u) (u.2.2.1 37 (toN u) + 1) ∧ zb.2.2.1 36 = v.2.2.1 36)) : IVP zb T 0 ∧ FRI u zb ∧ PQ zb ∧ PBG u zb (zb.1 71).toNatClampNeg := by
  obtain ⟨i1, i2, i3, i4⟩ := id hi
  obtain ⟨p1, p2, p3⟩ := i4 ha
  have h61 : 0 ≤ (u.1 61).toInt ∧ (u.1 61).toInt < 180 := ⟨p2.1, by have := p2.2.1; omega⟩
  obtain ⟨nv, -, -⟩ := p2.tld hT h6
  have tv := hT.tb0 i2 h61
  have etv := hT.to
  obtain ⟨t1, t2, t3, t4, t5, t6, t7, t8, t9, t10⟩ := id i2
  have f1 : (1 : Int32).toInt = 1 := by decide
  have z0 : (0 : Int32).toInt = 0 := by decide
  have wk : ∀ k, k ∉ [61, 62, 70, 71, 72, 73, 74] → zb.1 k = u.1 k := fun k hk => by
    simp only [List.mem_cons, List.not_mem_nil, or_false, not_or] at hk
    rw [h1 k (by simp only [List.mem_cons, List.not_mem_nil, or_false, not_or]; exact hk.2.2), hT.2.1 k (by simp only [List.mem_cons, List.not_mem_nil, or_false, not_or]; exact ⟨hk.1, hk.2.1⟩)]
  have vt : ∀ k, k ∉ [59, 60] → v.2.2.1 k = u.2.2.1 k := hT.2.2.2.2.1
  have wu : ∀ k, k ∉ [28, 29, 30, 31, 33, 36, 37, 59, 60] → zb.2.2.1 k = u.2.2.1 k := fun k hk => by
    simp only [List.mem_cons, List.not_mem_nil, or_false, not_or] at hk
    rw [h3 k (by simp only [List.mem_cons, List.not_mem_nil, or_false, not_or]; exact ⟨hk.1, hk.2.1, hk.2.2.1, hk.2.2.2.1, hk.2.2.2.2.1, hk.2.2.2.2.2.1, hk.2.2.2.2.2.2.1⟩), vt k (by simp only [List.mem_cons, List.not_mem_nil, or_false, not_or]; exact hk.2.2.2.2.2.2.2)]
  rw [vt 28 (by decide)] at h28
  rw [vt 29 (by decide)] at h29
  rw [vt 30 (by decide)] at h30
  rw [vt 31 (by decide)] at h31
  rw [vt 33 (by decide)] at h33
  rw [vt 36 (by decide), vt 37 (by decide)] at hc
  have e56 : zb.1 56 = u.1 56 := wk 56 (by decide)
  have et : toN zb = toN u := by unfold toN; rw [e56]
  have e65 : zb.1 65 = u.1 65 := wk 65 (by decide)
  have e2 : zb.2.2.1 2 = u.2.2.1 2 := wu 2 (by decide)
  have ek : kP zb = kP u := by unfold kP; rw [e65]
  have c27 := (t5 (toN u)).2.1
  have c36 := (t5 (toN u)).2.2.1
  have c37 := (t5 (toN u)).2.2.2.1
  have tn : (toN u : Int) ≤ 1 := by show ((u.1 56).toInt.toNat : Int) ≤ 1; omega
  have wn : (zb.1 71).toNatClampNeg = wi := by show (zb.1 71).toInt.toNat = wi; omega
  have a36 : (u.2.2.1 36 (toN u) + 1).toInt = (u.2.2.1 36 (toN u)).toInt + 1 := by rw [tI_add (by rw [f1]; omega) (by rw [f1]; omega), f1]
  have a37 : (u.2.2.1 37 (toN u) + 1).toInt = (u.2.2.1 37 (toN u)).toInt + 1 := by rw [tI_add (by rw [f1]; omega) (by rw [f1]; omega), f1]
  have wi24 : wi / 24 = toN u := by rcases hc with ⟨-, -, -, q, q2, -⟩ | ⟨-, -, -, q, q2, -⟩ <;> omega
  have wi48 : wi < 48 := by omega
  have g28 : zb.2.2.1 28 wi = u.2.2.1 27 (toN u) := by rw [h28]; exact if_pos rfl
  have g29 : zb.2.2.1 29 wi = 0 := by rw [h29]; exact if_pos rfl
  have g31 : zb.2.2.1 31 wi = 0 := by rw [h31]; exact if_pos rfl
  have o28 : ∀ p, p ≠ wi → zb.2.2.1 28 p = u.2.2.1 28 p := fun p hp => by rw [h28]; exact if_neg hp
  have o29 : ∀ p, p ≠ wi → zb.2.2.1 29 p = u.2.2.1 29 p := fun p hp => by rw [h29]; exact if_neg hp
  have o31 : ∀ p, p ≠ wi → zb.2.2.1 31 p = u.2.2.1 31 p := fun p hp => by rw [h31]; exact if_neg hp
  have n36 : ∀ i, (zb.2.2.1 36 i).toInt = (u.2.2.1 36 i).toInt ∨ (i = toN u ∧ (zb.2.2.1 36 i).toInt = (u.2.2.1 36 i).toInt + 1 ∧ (u.2.2.1 36 i).toInt < 8 ∧ (wi : Int) = 24 * toN u + (u.2.2.1 36 (toN u)).toInt) := by
    intro i
    rcases hc with ⟨-, -, -, q, q2, q3, -⟩ | ⟨-, -, -, -, -, -, q3⟩
    · by_cases c : i = toN u
      · refine Or.inr ⟨c, ?_, by rw [c]; exact q2, q⟩
        rw [q3, c]
        show (upd _ _ _ _).toInt = _
        unfold upd
        rw [if_pos rfl, a36]
      · refine Or.inl ?_
        rw [q3]
        show (upd _ _ _ _).toInt = _
        unfold upd
        rw [if_neg c]
    · exact Or.inl (by rw [q3])
  have n37 : ∀ i, (zb.2.2.1 37 i).toInt = (u.2.2.1 37 i).toInt ∨ (i = toN u ∧ (zb.2.2.1 37 i).toInt = (u.2.2.1 37 i).toInt + 1 ∧ (u.2.2.1 37 i).toInt < 16) := by
    intro i
    rcases hc with ⟨-, -, -, -, -, -, q3⟩ | ⟨-, -, -, q, q2, q3, -⟩
    · exact Or.inl (by rw [q3])
    · by_cases c : i = toN u
      · refine Or.inr ⟨c, ?_, by rw [c]; exact q2⟩
        rw [q3, c]
        show (upd _ _ _ _).toInt = _
        unfold upd
        rw [if_pos rfl, a37]
      · refine Or.inl ?_
        rw [q3]
        show (upd _ _ _ _).toInt = _
        unfold upd
        rw [if_neg c]
  obtain ⟨q1, q2, q3, q4, q5, q6, q7⟩ := id p2
  refine ⟨⟨?_, ⟨?_, ?_, ?_, ?_, ?_, ?_, ?_, ?_, ?_, ?_⟩, fun _ => ?_, fun _ => ⟨?_, ⟨?_, ?_, ?_, ?_, ?_, ?_, ?_⟩⟩⟩, ⟨?_, ?_, ?_, ?_, fun q => q.of (wu 11 (by decide)) (wu 12 (by decide)), fun q => by rw [wu 54 (by decide)]; exact q⟩, ⟨⟨?_, ?_, ?_⟩, ?_, ?_, ?_, ?_⟩, ⟨et, ?_, ?_, ?_⟩⟩
  · obtain ⟨b1, b2, b3, b4⟩ := i1
    exact ⟨b1, by rw [e2]; exact b2, by omega, by omega⟩
  · unfold VOK
    rw [wu 10 (by decide), wu 11 (by decide), wu 12 (by decide), wu 13 (by decide), wu 15 (by decide)]
    exact t1
  · unfold SLT
    rw [wu 20 (by decide), wu 21 (by decide), wu 23 (by decide)]
    exact t2
  · intro p
    by_cases c : p = wi
    · rw [c, g28, g29, h30, h33]
      unfold upd
      rw [if_pos rfl, if_pos rfl, z0]
      exact ⟨c27.1, by decide, by omega, by decide, by decide, by decide, hl2.1, hl2.2⟩
    · rw [o28 p c, o29 p c, h30, h33]
      unfold upd
      rw [if_neg c, if_neg c]
      exact t3 p
  · unfold INT
    rw [wu 38 (by decide), wu 39 (by decide)]
    exact t4
  · intro i
    rw [wu 19 (by decide), wu 27 (by decide), wu 42 (by decide), wu 48 (by decide)]
    have := t5 i
    refine ⟨this.1, this.2.1, ?_, ?_, this.2.2.2.2⟩
    · rcases n36 i with q | ⟨-, q, q', -⟩ <;> omega
    · rcases n37 i with q | ⟨-, q, q'⟩ <;> omega
  · intro p
    by_cases c : p = wi
    · rw [c, g31, z0]; decide
    · rw [o31 p c]; exact t6 p
  · rw [h1 61 (by decide)]; exact tv.2.2.2.2.2.2.1
  · rw [h72]; exact c27.1
  · rw [e56]; exact t9
  · rw [e56]; exact t10
  · rw [opn_e (wk 66 (by decide))]
    exact i3 ha.2
  · refine p1.tl hT h61 ⟨by rw [et, etv], h1 61 (by decide), h3 59 (by decide), h3 60 (by decide)⟩ ?_ ?_ ?_ ?_
    · rw [etv, wu 42 (by decide), vt 42 (by decide)]; exact Int.le_refl _
    · rw [etv, vt 37 (by decide)]
      rcases n37 (toN u) with q | ⟨-, q, -⟩ <;> omega
    · rw [etv, vt 36 (by decide)]
      rcases n36 (toN u) with q | ⟨-, q, -⟩ <;> omega
    · unfold GNW
      rw [et]
      rcases hc with ⟨-, rfl, rfl, -, q2, q3, -⟩ | ⟨-, rfl, rfl, -, q2, q3, -⟩
      · refine ⟨c36.1, fun z => absurd z (by decide), fun z => absurd z (by decide), fun _ => ⟨q2, ?_⟩, fun z => absurd z (by decide), fun z => absurd z (by decide)⟩
        rw [q3]
        show _ < (upd _ _ _ _).toInt
        unfold upd
        rw [if_pos rfl, a36]
        omega
      · refine ⟨c37.1, fun z => absurd z (by decide), fun z => absurd z (by decide), fun z => absurd z (by decide), fun _ => ⟨q2, ?_⟩, fun z => absurd z (by decide)⟩
        rw [q3]
        show _ < (upd _ _ _ _).toInt
        unfold upd
        rw [if_pos rfl, a37]
        omega
  · rw [h1 61 (by decide)]; exact nv.1
  · rw [h1 61 (by decide), h1 62 (by decide)]; exact nv.2.1
  · rw [h1 62 (by decide)]; exact nv.2.2.1
  · have := nv.2.2.2.1
    rw [etv, vt 19 (by decide)] at this
    rw [et, wu 19 (by decide), h1 62 (by decide)]; exact this
  · have := nv.2.2.2.2.1
    rw [etv, vt 27 (by decide)] at this
    rw [et, wu 27 (by decide), h1 62 (by decide)]; exact this
  · unfold KNS
    rw [wk 63 (by decide), wu 64 (by decide)]
    exact q6
  · intro b hb
    rw [et] at hb
    rw [et, wu 27 (by decide)]
    by_cases c : 24 * toN u + b = wi
    · rw [c, g28, g29, g31, z0]
      exact ⟨by omega, rfl⟩
    · rw [o28 _ c, o29 _ c, o31 _ c]
      obtain ⟨g1, g2⟩ := q7 b (by rcases n36 (toN u) with q | ⟨-, q, -, q'⟩ <;> omega)
      exact ⟨g1, by rw [g2]; exact (ssz_eq (fun i _ => by rw [wu 21 (by decide)])).symm⟩
  · intro k hk
    refine wk k (fun q => hk ?_)
    unfold zi
    simp only [List.mem_cons, List.not_mem_nil, or_false] at q ⊢
    omega
  · intro q
    rw [wk 67 (by decide)]
    exact q
  · intro k j hk hj
    by_cases c : k = 28 ∨ k = 29 ∨ k = 30 ∨ k = 31 ∨ k = 33
    · have q : j ≠ wi := by
        have q : j / 24 ≠ toN u := by rcases c with rfl | rfl | rfl | rfl | rfl <;> exact hj.elim (fun z => absurd z (by decide)) id
        intro z
        exact q (by rw [z]; exact wi24)
      rcases c with rfl | rfl | rfl | rfl | rfl
      · exact o28 j q
      · exact o29 j q
      · rw [h30]; exact if_neg q
      · exact o31 j q
      · rw [h33]; exact if_neg q
    · by_cases c2 : k = 36 ∨ k = 37
      · have q : j ≠ toN u := by
          have q : j / 1 ≠ toN u := by rcases c2 with rfl | rfl <;> exact hj.elim (fun z => absurd z (by decide)) id
          rw [Nat.div_one] at q
          exact q
        rcases c2 with rfl | rfl
        · rcases hc with ⟨-, -, -, -, -, q3, -⟩ | ⟨-, -, -, -, -, -, q3⟩
          · rw [q3]; exact if_neg q
          · rw [q3]
        · rcases hc with ⟨-, -, -, -, -, -, q3⟩ | ⟨-, -, -, -, -, q3, -⟩
          · rw [q3]
          · rw [q3]; exact if_neg q
      · rw [wu k ?_]
        intro z
        simp only [List.mem_cons, List.not_mem_nil, or_false] at z
        have : k = 59 ∨ k = 60 := by omega
        rcases this with rfl | rfl
        · exact hk (by unfold zf; decide)
        · exact hk (by unfold zf; decide)
  · intro k hk
    rw [h4 k (fun z => hk ?_), hT.fri.2.2.2.1 k hk]
    unfold zl
    simp only [List.mem_cons, List.not_mem_nil, or_false] at z ⊢
    omega
  · omega
  · omega
  · rw [wn, et]; exact wi24
  · rw [wn, g28, g29, z0, et, wu 27 (by decide)]; omega
  · rw [wn, g31, h73]
  · rw [h73]; decide
  · rw [h73]; decide
  · intro k hk
    refine wu k (fun z => ?_)
    simp only [List.mem_cons, List.not_mem_nil, or_false] at z hk
    omega
  · intro j hj
    rw [wn] at hj
    refine ⟨by rw [h30]; exact if_neg hj, by rw [wu 32 (by decide)]⟩
  · rw [wn]
    rcases hc with ⟨c1, -, -, c2, c3, c4, c5⟩ | ⟨c1, -, -, c2, c3, c4, c5⟩
    · refine Or.inl ⟨c1, c2, c3, ?_, by rw [c5]⟩
      rw [c4]
      show (upd _ _ _ _).toInt = _
      unfold upd
      rw [if_pos rfl, a36]
    · refine Or.inr ⟨c1, c2, c3, by rw [c5], ?_⟩
      rw [c4]
      show (upd _ _ _ _).toInt = _
      unfold upd
      rw [if_pos rfl, a37]
end RPart2
