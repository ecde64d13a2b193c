/-! Instances, read. -/
section RUse
variable {u v w : RSt} {T N k j : Nat} {o o' : Int} {x b l1 l2 l3 l4 l5 l6 : Int32} {l7 : Int64}
theorem x_instance (hN : 5000000000 ≤ N) (hi : IVQ u T o) (hb : act u → 0 ≤ b.toInt ∧ b.toInt < 8 ∧ b.toInt < (u.2.2.1 36 (toN u)).toInt) : wp (F_instance N b u) (fun _ w => IVQ w T o ∧ FRI u w ∧ kP u ≤ kP w ∧ (w.1 67 = 0 → kP u < kP w) ∧ (act w → act u ∧ (w.2.2.1 36 (toN w)).toInt = (u.2.2.1 36 (toN u)).toInt)) := by
  obtain ⟨i1, i2, i3, i4⟩ := id hi
  obtain ⟨t1, t2, t3, t4, t5, t6, t7, t8, t9, t10⟩ := id i2
  have v2 : vp_in (u.1 56) 2 := vin_iff.mpr ⟨t9, by omega⟩
  have f1 : (1 : Int32).toInt = 1 := by decide
  have e24 : (24 : Int32).toInt = 24 := by decide
  have e160 : (160 : Int32).toInt = 160 := by decide
  have e400 : (400 : Int32).toInt = 400 := by decide
  have em : (24 * u.1 56).toInt = 24 * (u.1 56).toInt := by rw [tI_mul (by rw [e24]; omega) (by rw [e24]; omega), e24]
  have em6 : (160 * u.1 56).toInt = 160 * (u.1 56).toInt := by rw [tI_mul (by rw [e160]; omega) (by rw [e160]; omega), e160]
  have tn : (toN u : Int) = (u.1 56).toInt := by show ((u.1 56).toInt.toNat : Int) = _; omega
  have c42 := (t5 (toN u)).2.2.2.2.1
  unfold F_instance B_instance_0
  rw [wp_bn]
  refine wp_mono (x_is i1) (fun r u' hu => ?_)
  obtain ⟨rfl, hr⟩ := hu
  refine wp_if.mpr ⟨fun c => ?_, fun c => ?_⟩
  · rw [wp_bn]
    refine wp_mono (x_stuck i1) (fun _ w hw => wp_some.mpr ⟨hi.flt hw, FRI.lf hw.2.1, (hw.t i1).2.1, fun z => absurd z hw.1, fun ha => absurd ha.2 hw.1⟩)
  obtain ⟨-, hz, ht⟩ : r = 1 ∧ u'.1 67 = 0 ∧ tyR u' = 1 := by
    rcases hr with q | ⟨q, -⟩
    · exact q
    · exact absurd q c
  -- the last step
  have e303 : ∀ y : RSt, IVQ y T o → FRI u' y → y.1 65 = u'.1 65 → y.2.2.1 2 = u'.2.2.1 2 → (act y → y.2.2.1 36 = u'.2.2.1 36) → wp (B_instance_303 N y) (fun _ w => IVQ w T o ∧ FRI u' w ∧ kP u' ≤ kP w ∧ (w.1 67 = 0 → kP u' < kP w) ∧ (act w → act u' ∧ (w.2.2.1 36 (toN w)).toInt = (u'.2.2.1 36 (toN u')).toInt)) := by
    intro y hy hf h65 h2 h36
    have ty : tyR y = 1 := by unfold tyR; rw [h65, h2]; exact ht
    obtain ⟨n1, n2, n3⟩ := hy.on (by rw [ty]; unfold isT; decide)
    have hk : kP y = kP u' := by unfold kP; rw [h65]
    unfold B_instance_303
    refine wp_pu.mpr (wp_some.mpr ⟨n3, hf.tr (FRI.lf n1.1), by omega, fun _ => by omega, fun ha => ?_⟩)
    have ay : act y := (FRI.lf n1.1).ac ha
    refine ⟨hf.ac ay, ?_⟩
    rw [n1.1.to, n1.1.1, hf.to, h36 ay]
  -- no judging, or a fault: nothing is put
  have dead : ∀ v : RSt, IVQ v T o → FRI u' v → v.1 65 = u'.1 65 → v.2.2.1 2 = u'.2.2.1 2 → ¬ act v → wp (LP_instance_50 N N (b, 0, 0, v)) (fun _ w => IVQ w T o ∧ FRI u' w ∧ kP u' ≤ kP w ∧ (w.1 67 = 0 → kP u' < kP w) ∧ (act w → act u' ∧ (w.2.2.1 36 (toN w)).toInt = (u'.2.2.1 36 (toN u')).toInt)) := by
    intro v hv hf h65 h2 hna
    have e165 : wp (B_instance_165 N b 0 v) (fun _ w => IVQ w T o ∧ FRI u' w ∧ kP u' ≤ kP w ∧ (w.1 67 = 0 → kP u' < kP w) ∧ (act w → act u' ∧ (w.2.2.1 36 (toN w)).toInt = (u'.2.2.1 36 (toN u')).toInt)) := by
      unfold B_instance_165
      refine wp_rd.mpr ⟨hv.1.vin, ?_⟩
      rw [wp_bn]
      refine wp_mono (x_wrong (by decide)) (fun _ z hz => ?_)
      have hz2 : IVQ z T o ∧ FRI u' z ∧ z.1 65 = u'.1 65 ∧ z.2.2.1 2 = u'.2.2.1 2 ∧ ¬ act z := by
        rcases hz with ⟨rfl, -⟩ | hz
        · exact ⟨hv, hf, h65, h2, hna⟩
        · exact ⟨hv.flt hz, hf.tr (FRI.lf hz.2.1), hz.2.2.trans h65, by rw [hz.2.1.1]; exact h2, fun ha => hz.1 ha.2⟩
      obtain ⟨z1, z2, z3, z4, z5⟩ := hz2
      exact wp_if.mpr ⟨fun _ => e303 z z1 z2 z3 z4 (fun ha => absurd ha z5), fun q1 => wp_if.mpr ⟨fun q2 => absurd ⟨q1, q2⟩ z5, fun _ => e303 z z1 z2 z3 z4 (fun ha => absurd ha z5)⟩⟩
    unfold LP_instance_50
    refine wp_lp (fun (d : Nat) (x : Int32 × Int32 × Int32 × RSt) => x.1 = b ∧ x.2.1 = 0 ∧ x.2.2.2 = v) ?_ _ 0 _ (by omega) ⟨rfl, rfl, rfl⟩
    rintro d R ⟨m1, m2, m3, y⟩ ⟨rfl, rfl, rfl⟩ -
    dsimp only
    unfold B_instance_50
    exact wp_if.mpr ⟨fun _ => e165, fun q1 => wp_if.mpr ⟨fun q2 => absurd ⟨q1, q2⟩ hna, fun _ => e165⟩⟩
  have main : ∀ s3 : Int32, (s3 = 0 → ¬ u'.2.2.1 42 (toN u') = 24) → wp (B_instance_43 N b 1 (u'.2.2.1 42 (u'.1 56).toNatClampNeg) s3 u') (fun _ w => IVQ w T o ∧ FRI u' w ∧ kP u' ≤ kP w ∧ (w.1 67 = 0 → kP u' < kP w) ∧ (act w → act u' ∧ (w.2.2.1 36 (toN w)).toInt = (u'.2.2.1 36 (toN u')).toInt)) := by
    intro s3 hs3
    unfold B_instance_43
    rw [wp_bn]
    refine wp_mono (x_telling hN i1 t7 (fun ha => ⟨(i4 ha).2.1.1, (i4 ha).2.1.2.1, (i4 ha).2.1.2.2.1⟩)) (fun _ v hv => ?_)
    rcases hv with hv | ⟨rfl, hna⟩ | ⟨ha, hT, h6, hs⟩
    · exact dead v (hi.flt hv) (FRI.lf hv.2.1) hv.2.2 (by rw [hv.2.1.1]) (fun ha => hv.1 ha.2)
    · exact dead v hi FRI.rf rfl rfl hna
    have hT : TLD u' v 1 (u'.2.2.1 42 (toN u')) := hT
    have h42 : (u'.2.2.1 42 (toN u')).toInt < 24 := by
      have : ¬ (u'.2.2.1 42 (toN u')).toInt = 24 := fun z => hs3 hs (Int32.toInt_inj.mp (by rw [z]; decide))
      omega
    obtain ⟨b0, b8, b36⟩ := hb ha
    obtain ⟨p1, p2, p3⟩ := i4 ha
    have eb : (24 * u'.1 56 + b).toInt = 24 * toN u' + b.toInt := by rw [tI_add (by omega) (by omega), em, tn]
    have ebn : (24 * u'.1 56 + b).toNatClampNeg = 24 * toN u' + b.toInt.toNat := by show (24 * u'.1 56 + b).toInt.toNat = _; omega
    have vb : vp_in (24 * u'.1 56 + b) 48 := vin_iff.mpr ⟨by omega, by omega⟩
    have hv1 : ∀ k, k ∉ [61, 62] → v.1 k = u'.1 k := hT.2.1
    have hv3 : ∀ k, k ∉ [59, 60] → v.2.2.1 k = u'.2.2.1 k := hT.2.2.2.2.1
    have av : act v := ⟨by rw [hv1 69 (by decide)]; exact ha.1, by rw [hv1 67 (by decide)]; exact ha.2⟩
    obtain ⟨r1, r2, r3, r4, r5, r6, r7, r8⟩ := t3 (24 * toN u' + b.toInt.toNat)
    have hn64 := p2.2.2.2.2.2.1
    -- the end of the loop
    have e165 : ∀ (l2 : Int32) (y : RSt), (l2 = 0 ∨ l2 = 1) → INL v y (160 * toN u' + (u'.2.2.1 28 (24 * toN u' + b.toInt.toNat)).toInt.toNat) (u'.2.2.1 29 (24 * toN u' + b.toInt.toNat)).toInt.toNat l2 → wp (B_instance_165 N b l2 y) (fun _ w => IVQ w T o ∧ FRI u' w ∧ kP u' ≤ kP w ∧ (w.1 67 = 0 → kP u' < kP w) ∧ (act w → act u' ∧ (w.2.2.1 36 (toN w)).toInt = (u'.2.2.1 36 (toN u')).toInt)) := by
      intro l2 y hl2 hy
      obtain ⟨y1, y2, y4, y3, y5, y6, y7⟩ := id hy
      have yk : ∀ k, k ∉ [61, 62] → y.1 k = u'.1 k := fun k hk => by rw [y1, hv1 k hk]
      have yt : ∀ k, k ∉ [59, 60, 64] → y.2.2.1 k = u'.2.2.1 k := fun k hk => by
        simp only [List.mem_cons, List.not_mem_nil, or_false, not_or] at hk
        rw [y3 k hk.2.2, hv3 k (by simp only [List.mem_cons, List.not_mem_nil, or_false, not_or]; exact ⟨hk.1, hk.2.1⟩)]
      have vy : vp_in (y.1 65) 1502 := by rw [yk 65 (by decide)]; exact i1.vin
      have fy : FRI u' y := by
        refine ⟨fun k hk => by rw [y1]; exact hT.fri.1 k hk, fun q => absurd ha.2 q, fun k j hk hj => ?_, fun k hk => by rw [y4]; exact hT.fri.2.2.2.1 k hk, fun q => q.of (yt 11 (by decide)) (yt 12 (by decide)), fun q => by rw [yt 54 (by decide)]; exact q⟩
        rw [y3 k (fun z => hk (by rw [z]; unfold zf; decide))]
        exact hT.fri.2.2.1 k j hk hj
      unfold B_instance_165
      refine wp_rd.mpr ⟨vy, ?_⟩
      rw [wp_bn]
      refine wp_mono (x_wrong (by decide)) (fun _ z hz => ?_)
      rcases hz with ⟨rfl, hz⟩ | hz
      · have a69 : ¬ z.1 69 = 0 := by rw [yk 69 (by decide)]; exact ha.1
        have a67 : z.1 67 = 0 := by rw [yk 67 (by decide)]; exact ha.2
        have l20 : l2 = 0 := hz.elim id (fun q => absurd q a69)
        subst l20
        refine wp_if.mpr ⟨fun q => absurd q a69, fun _ => wp_if.mpr ⟨fun _ => ?_, fun q => absurd a67 q⟩⟩
        have z56 : z.1 56 = u'.1 56 := yk 56 (by decide)
        have z42 : z.2.2.1 42 = u'.2.2.1 42 := yt 42 (by decide)
        have vz : vp_in (z.1 56) 2 := by rw [z56]; exact v2
        have ei : (24 * z.1 56 + z.2.2.1 42 (z.1 56).toNatClampNeg).toInt = 24 * toN u' + (u'.2.2.1 42 (toN u')).toInt := by
          rw [z56, z42]
          show (24 * u'.1 56 + u'.2.2.1 42 (toN u')).toInt = _
          rw [tI_add (by omega) (by omega), em, tn]
        have ein : (24 * z.1 56 + z.2.2.1 42 (z.1 56).toNatClampNeg).toNatClampNeg = 24 * toN u' + (u'.2.2.1 42 (toN u')).toInt.toNat := by show (24 * z.1 56 + z.2.2.1 42 (z.1 56).toNatClampNeg).toInt.toNat = _; omega
        have vi : vp_in (24 * z.1 56 + z.2.2.1 42 (z.1 56).toNatClampNeg) 48 := vin_iff.mpr ⟨by omega, by omega⟩
        have vb2 : vp_in (24 * z.1 56 + b) 48 := by rw [z56]; exact vb
        refine wp_rd.mpr ⟨vz, wp_wr.mpr ⟨vi, wp_wr.mpr ⟨vi, wp_rd.mpr ⟨vy, wp_wr.mpr ⟨vi, wp_rd.mpr ⟨vy, wp_wr.mpr ⟨vi, wp_rd.mpr ⟨vb2, wp_pu.mpr (wp_rd.mpr ⟨vz, wp_wr.mpr ⟨vz, ?_⟩⟩)⟩⟩⟩⟩⟩⟩⟩⟩
        rw [ein]
        have eb2 : (24 * z.1 56 + b).toNatClampNeg = 24 * toN u' + b.toInt.toNat := by rw [z56]; exact ebn
        generalize ew : sA (sI (sB (sB (sA (sA z 38 _ _) 39 _ _) 40 _ _) 41 _ _) 63 _) 42 _ _ = w
        have q := e_ins (w := w) hi ha ⟨b0, b8, b36⟩ hT h6 h42 hy (by
            rw [← ew]
            show (fun k => if k = 63 then z.1 63 + z.2.2.1 31 (24 * z.1 56 + b).toNatClampNeg else z.1 k) = _
            rw [eb2]) (by
            intro k hk
            simp only [List.mem_cons, List.not_mem_nil, or_false, not_or] at hk
            rw [← ew]
            rw [sA_3, if_neg hk.2.2]
            show (sA (sA z 38 _ _) 39 _ _).2.2.1 k = _
            rw [sA_3, if_neg hk.2.1, sA_3, if_neg hk.1]) (by
            rw [← ew]
            show upd (z.2.2.1 38) _ (24 * z.1 56 + b) = _
            rw [z56]) (by rw [← ew]; rfl) (by
            rw [← ew]
            show upd (z.2.2.1 42) (z.1 56).toNatClampNeg (z.2.2.1 42 (z.1 56).toNatClampNeg + 1) = _
            rw [z56, z42]
            rfl) (by
            intro k hk
            simp only [List.mem_cons, List.not_mem_nil, or_false, not_or] at hk
            rw [← ew]
            show (sB (sB _ 40 _ _) 41 _ _).2.2.2 k = _
            rw [sB_4, if_neg hk.2, sB_4, if_neg hk.1]
            rfl)
        refine e303 w q.1 q.2.1 q.2.2.1 q.2.2.2 (fun _ => ?_)
        rw [← ew]
        show z.2.2.1 36 = _
        exact yt 36 (by decide)
      · have tz : TB0 z := by
          have tv := hT.tb0 i2 ⟨p2.1, by have := p2.2.1; have := p2.2.2.1; omega⟩
          have ty : TB0 y := by
            unfold TB0 VOK SLT PRT INT CNT
            rw [y1, y3 10 (by decide), y3 11 (by decide), y3 12 (by decide), y3 13 (by decide), y3 15 (by decide), y3 20 (by decide), y3 21 (by decide), y3 23 (by decide), y3 28 (by decide), y3 29 (by decide), y3 30 (by decide), y3 31 (by decide), y3 33 (by decide), y3 38 (by decide), y3 39 (by decide), y3 19 (by decide), y3 27 (by decide), y3 42 (by decide), y3 37 (by decide), y3 36 (by decide), y3 48 (by decide)]
            exact tv
          exact ty.ef hz.2.1.ef
        have z65 : z.1 65 = u'.1 65 := hz.2.2.trans (yk 65 (by decide))
        have z2 : z.2.2.1 2 = u'.2.2.1 2 := by rw [hz.2.1.1]; exact yt 2 (by decide)
        have kz : kP z = kP u' := by unfold kP; rw [z65]
        have iz : IVQ z T o := by
          refine ⟨?_, tz, fun q => absurd q hz.1, fun q => absurd q.2 hz.1⟩
          obtain ⟨b1, b2, b3, b4⟩ := i1
          exact ⟨b1, by rw [z2]; exact b2, by omega, by omega⟩
        have fz : FRI u' z := fy.tr (FRI.lf hz.2.1)
        exact wp_if.mpr ⟨fun _ => e303 z iz fz z65 z2 (fun q => absurd q.2 hz.1), fun _ => wp_if.mpr ⟨fun q => absurd q hz.1, fun _ => e303 z iz fz z65 z2 (fun q => absurd q.2 hz.1)⟩⟩
    unfold LP_instance_50
    have n29 : (u'.2.2.1 29 (24 * toN u' + b.toInt.toNat)).toInt ≤ 160 := by omega
    have v64 : v.2.2.1 64 = u'.2.2.1 64 := hv3 64 (by decide)
    have in0 : INL v v (160 * toN u' + (u'.2.2.1 28 (24 * toN u' + b.toInt.toNat)).toInt.toNat) 0 0 := by
      refine ⟨rfl, rfl, rfl, fun _ _ => rfl, fun k hk => ?_, ?_, fun _ k hk => ?_⟩
      · rw [v64]; have := hn64.1 k hk; omega
      · show _ = _ + (0 : Int)
        omega
      · rw [v64]; exact (hn64.1 k hk).2
    refine wp_lp (fun (d : Nat) (x : Int32 × Int32 × Int32 × RSt) => x.1 = b ∧ (x.2.1 = 0 ∨ x.2.1 = 1) ∧ 0 ≤ x.2.2.1.toInt ∧ x.2.2.1.toInt ≤ (u'.2.2.1 29 (24 * toN u' + b.toInt.toNat)).toInt ∧ INL v x.2.2.2 (160 * toN u' + (u'.2.2.1 28 (24 * toN u' + b.toInt.toNat)).toInt.toNat) x.2.2.1.toInt.toNat x.2.1 ∧ d = (160 - x.2.2.1.toInt).toNat) ?_ _ 160 _ (by omega) ⟨rfl, Or.inl rfl, by show 0 ≤ (0 : Int32).toInt; decide, r2, in0, rfl⟩
    rintro d R ⟨m1, m2, m3, y⟩ ⟨hm1, hm2, hm3, hm4, hy, hd⟩ ih
    have hm1 : m1 = b := hm1
    subst hm1
    dsimp only at hm2 hm3 hm4 hy hd ih ⊢
    obtain ⟨y1, y2, y4, y3, y5, y6, y7⟩ := id hy
    have yk : ∀ k, k ∉ [61, 62] → y.1 k = u'.1 k := fun k hk => by rw [y1, hv1 k hk]
    have yt : ∀ k, k ∉ [59, 60, 64] → y.2.2.1 k = u'.2.2.1 k := fun k hk => by
      simp only [List.mem_cons, List.not_mem_nil, or_false, not_or] at hk
      rw [y3 k hk.2.2, hv3 k (by simp only [List.mem_cons, List.not_mem_nil, or_false, not_or]; exact ⟨hk.1, hk.2.1⟩)]
    have y56 : y.1 56 = u'.1 56 := yk 56 (by decide)
    unfold B_instance_50
    refine wp_if.mpr ⟨fun q => absurd (by rw [yk 69 (by decide)] at q; exact q) ha.1, fun _ => wp_if.mpr ⟨fun _ => ?_, fun q => absurd (by rw [yk 67 (by decide)]; exact ha.2) q⟩⟩
    refine wp_rd.mpr ⟨by rw [y56]; exact vb, ?_⟩
    rw [y56, ebn, yt 29 (by decide), yt 28 (by decide)]
    refine wp_if.mpr ⟨fun q => ?_, fun q => ?_⟩
    · have q := Int32.le_iff_toInt_le.mp q
      refine e165 m2 y hm2 ?_
      have : m3.toInt.toNat = (u'.2.2.1 29 (24 * toN u' + m1.toInt.toNat)).toInt.toNat := by omega
      rw [← this]
      exact hy
    have q := Int32.lt_iff_toInt_lt.mp (Int32.not_le.mp q)
    refine wp_rd.mpr ⟨vb, ?_⟩
    rw [ebn]
    have es : (160 * u'.1 56 + u'.2.2.1 28 (24 * toN u' + m1.toInt.toNat)).toInt = 160 * toN u' + (u'.2.2.1 28 (24 * toN u' + m1.toInt.toNat)).toInt := by rw [tI_add (by omega) (by omega), em6, tn]
    have es2 : (160 * u'.1 56 + u'.2.2.1 28 (24 * toN u' + m1.toInt.toNat) + m3).toInt = 160 * toN u' + (u'.2.2.1 28 (24 * toN u' + m1.toInt.toNat)).toInt + m3.toInt := by rw [tI_add (by omega) (by omega), es]
    have esn : (160 * u'.1 56 + u'.2.2.1 28 (24 * toN u' + m1.toInt.toNat) + m3).toNatClampNeg = 160 * toN u' + (u'.2.2.1 28 (24 * toN u' + m1.toInt.toNat)).toInt.toNat + m3.toInt.toNat := by show (160 * u'.1 56 + u'.2.2.1 28 (24 * toN u' + m1.toInt.toNat) + m3).toInt.toNat = _; omega
    have vs : vp_in (160 * u'.1 56 + u'.2.2.1 28 (24 * toN u' + m1.toInt.toNat) + m3) 320 := vin_iff.mpr ⟨by omega, by omega⟩
    refine wp_rd.mpr ⟨vs, ?_⟩
    rw [esn, yt 20 (by decide)]
    generalize exi : 160 * toN u' + (u'.2.2.1 28 (24 * toN u' + m1.toInt.toNat)).toInt.toNat = x0 at *
    obtain ⟨s1, s2, s3, s4, s5, s6⟩ := t2 (x0 + m3.toInt.toNat)
    have vk : vp_in (u'.2.2.1 20 (x0 + m3.toInt.toNat)) 5 := vin_iff.mpr ⟨s1, by omega⟩
    refine wp_rd.mpr ⟨vk, wp_rd.mpr ⟨vs, ?_⟩⟩
    rw [esn, yt 21 (by decide)]
    refine wp_wr.mpr ⟨vk, ?_⟩
    generalize ek : (u'.2.2.1 20 (x0 + m3.toInt.toNat)).toNatClampNeg = kk
    have hkk : kk < 5 := by rw [← ek]; show (u'.2.2.1 20 (x0 + m3.toInt.toNat)).toInt.toNat < 5; omega
    obtain ⟨g1, g2⟩ := y5 kk hkk
    have ea : (y.2.2.1 64 kk + u'.2.2.1 21 (x0 + m3.toInt.toNat)).toInt = (y.2.2.1 64 kk).toInt + (u'.2.2.1 21 (x0 + m3.toInt.toNat)).toInt := tI_add (by omega) (by omega)
    have g64 : ∀ j, ((sA y 64 kk (y.2.2.1 64 kk + u'.2.2.1 21 (x0 + m3.toInt.toNat))).2.2.1 64 j).toInt = if j = kk then (y.2.2.1 64 j).toInt + (u'.2.2.1 21 (x0 + m3.toInt.toNat)).toInt else (y.2.2.1 64 j).toInt := by
      intro j
      show (upd (y.2.2.1 64) kk _ j).toInt = _
      unfold upd
      by_cases e : j = kk
      · rw [if_pos e, if_pos e, ea, e]
      · rw [if_neg e, if_neg e]
    have em3 : (m3 + 1).toInt = m3.toInt + 1 := by rw [tI_add (by rw [f1]; omega) (by rw [f1]; omega), f1]
    have em3n : (m3 + 1).toInt.toNat = m3.toInt.toNat + 1 := by omega
    have v21 : v.2.2.1 21 = u'.2.2.1 21 := hv3 21 (by decide)
    have next : ∀ l : Int32, (l = 0 ∨ l = 1) → (l = 0 → ∀ k, k < 5 → ((sA y 64 kk (y.2.2.1 64 kk + u'.2.2.1 21 (x0 + m3.toInt.toNat))).2.2.1 64 k).toInt ≤ 400) → wp (B_instance_158 N R m1 m3 l (sA y 64 kk (y.2.2.1 64 kk + u'.2.2.1 21 (x0 + m3.toInt.toNat)))) (fun _ w => IVQ w T o ∧ FRI u' w ∧ kP u' ≤ kP w ∧ (w.1 67 = 0 → kP u' < kP w) ∧ (act w → act u' ∧ (w.2.2.1 36 (toN w)).toInt = (u'.2.2.1 36 (toN u')).toInt)) := by
      intro l hl hl0
      unfold B_instance_158
      refine ih (160 - (m3 + 1).toInt).toNat (m1, l, m3 + 1, _) (by omega) ⟨rfl, hl, by show 0 ≤ (m3 + 1).toInt; omega, by show (m3 + 1).toInt ≤ _; omega, ?_, rfl⟩
      dsimp only
      rw [em3n]
      refine ⟨y1, y2, y4, fun k hk => ?_, fun k hk => ?_, ?_, hl0⟩
      · rw [sA_3, if_neg hk]; exact y3 k hk
      · rw [g64 k]
        have := y5 k hk
        split <;> omega
      · rw [kns_up kk hkk _ g64, y6]
        show _ = _ + (ssz v x0 m3.toInt.toNat + (v.2.2.1 21 (x0 + m3.toInt.toNat)).toInt)
        rw [v21]
        omega
    have one : wp (B_instance_153 N R m1 m3 (sA y 64 kk (y.2.2.1 64 kk + u'.2.2.1 21 (x0 + m3.toInt.toNat)))) (fun _ w => IVQ w T o ∧ FRI u' w ∧ kP u' ≤ kP w ∧ (w.1 67 = 0 → kP u' < kP w) ∧ (act w → act u' ∧ (w.2.2.1 36 (toN w)).toInt = (u'.2.2.1 36 (toN u')).toInt)) := by
      unfold B_instance_153
      exact next 1 (Or.inr rfl) (fun z => absurd z (by decide))
    refine wp_if.mpr ⟨fun c0 => ?_, fun _ => one⟩
    refine wp_rd.mpr ⟨vs, ?_⟩
    rw [esn]
    have e20 : (sA y 64 kk (y.2.2.1 64 kk + u'.2.2.1 21 (x0 + m3.toInt.toNat))).2.2.1 20 = u'.2.2.1 20 := yt 20 (by decide)
    rw [e20]
    refine wp_rd.mpr ⟨vk, ?_⟩
    rw [ek]
    refine wp_if.mpr ⟨fun c4 => next 0 (Or.inl rfl) (fun _ k hk => ?_), fun _ => one⟩
    have c4 := Int32.le_iff_toInt_le.mp c4
    rw [e400, g64 kk, if_pos rfl] at c4
    rw [g64 k]
    by_cases e : k = kk
    · rw [if_pos e, e]; exact c4
    · rw [if_neg e]; exact y7 c0 k hk
  refine wp_rd.mpr ⟨v2, wp_rd.mpr ⟨v2, wp_if.mpr ⟨fun q => main 1 (fun z => absurd z (by decide)), fun q => main 0 (fun _ => q)⟩⟩⟩
end RUse
