/-! A row of variables; a place of an image. -/
section RVars
variable {u v w : RSt} {T N k j : Nat} {o o' : Int} {x l1 l2 l3 l4 l5 l6 : Int32} {l7 : Int64}
theorem ORQ.kind (h : ORQ u v T o) : wp (F_kind N v) (fun r w => ORQ u w T o ∧ LFT v w T ∧ 0 ≤ r.toInt ∧ r.toInt ≤ 4 ∧ (w.1 67 = 0 → v.1 67 = 0 ∧ kP w = kP v + 1)) := by
  refine wp_mono (x_kind h.1.1) (fun r w hw => ?_)
  obtain ⟨a, b, c, d⟩ := hw
  refine ⟨h.lf a (fun z => ?_), a, b, c, fun z => ⟨(d z).1, (d z).2.1⟩⟩
  obtain ⟨d1, d2, d3⟩ := d z
  rw [opn_e d3]
  exact h.1.2.2.1 d1
theorem ORQ.take {t : Int32} (h : ORQ u v T o) (ht : ¬ isT t) : wp (F_take N t v) (fun _ w => ORQ u w T o ∧ LFT v w T ∧ (w.1 67 = 0 → v.1 67 = 0 ∧ kP w = kP v + 1)) := by
  refine wp_mono (x_take h.1.1 ht) (fun r w hw => ?_)
  obtain ⟨a, d⟩ := hw
  refine ⟨h.lf a (fun z => ?_), a, fun z => ⟨(d z).1, (d z).2.2.1⟩⟩
  obtain ⟨d1, d2, d3, d4⟩ := d z
  rw [opn_e d4]
  exact h.1.2.2.1 d1
theorem x_variables (hN : 5000000000 ≤ N) (hi : IVP u T o) (h0 : 0 ≤ o) (h24 : o ≤ 24) (ht : ¬ isT (tyR u)) (h2 : l1 = 0 ∨ l1 = 1) (hq : ¬ l2 = 0 → act u → PQ u) : wp (F_variables N l1 l2 u) (fun _ w => ORQ u w T o ∧ (¬ l2 = 0 → act w → PQ w) ∧ (w.1 67 = 0 → kP u < kP w)) := by
  unfold F_variables B_variables_0
  obtain ⟨on1, on2, on3⟩ := (ORQ.rf hi).on ht
  have hq1 : ¬ l2 = 0 → act (sI u 65 (u.1 65 + 1)) → PQ (sI u 65 (u.1 65 + 1)) := fun q ha => (hq q ((FRI.lf on1.1).ac ha)).ef on1.1
  refine wp_pu.mpr ?_
  generalize sI u 65 (u.1 65 + 1) = v1 at on1 on2 on3 hq1 ⊢
  rw [wp_bn]
  refine wp_mono on3.kind (fun r v2 hv2 => ?_)
  obtain ⟨a1, a2, a3, a4, -⟩ := hv2
  rw [wp_bn]
  refine wp_mono (x_one hN a1.1 h0 h24 ⟨a3, a4⟩ h2 (fun q ha => (hq1 q ((FRI.lf a2.1).ac ha)).ef a2.1)) (fun _ v3 hv3 => ?_)
  obtain ⟨b1, b2, -⟩ := hv3
  have o3 := a1.tr b1
  have k3 : kP u < kP v3 := by have := a2.2.1; have := b1.2.2.2.1; omega
  unfold LP_variables_22
  refine wp_lp (fun (d : Nat) (x : Int32 × Int32 × Int32 × RSt) => x.1 = l1 ∧ x.2.1 = l2 ∧ x.2.2.1 = r ∧ ORQ u x.2.2.2 T o ∧ (¬ l2 = 0 → act x.2.2.2 → PQ x.2.2.2) ∧ kP u < kP x.2.2.2 ∧ d = (T - kP x.2.2.2).toNat + (if x.2.2.2.1 67 = 0 then 1 else 0)) ?_ _ ((T - kP v3).toNat + (if v3.1 67 = 0 then 1 else 0)) _ (by have := o3.1.1.1; have := o3.1.1.2.2.1; split <;> omega) ⟨rfl, rfl, rfl, o3, b2, k3, rfl⟩
  rintro d R ⟨m1, m2, m3, x⟩ ⟨rfl, rfl, rfl, hx, hxq, hxk, hd⟩ ih
  dsimp only at hx hxq hxk hd ih ⊢
  unfold B_variables_22
  rw [wp_bn]
  refine wp_mono (x_has hx.1.1 (by unfold isT; decide)) (fun r2 y hy => ?_)
  rcases hy with ⟨r1, z1, z2, z3, z4, z5⟩ | ⟨r1, rfl, -⟩
  · refine wp_if.mpr ⟨fun q => absurd q (by rw [r1]; decide), fun _ => ?_⟩
    have hy := hx.lf (o' := o) z3 (fun q => by rw [z5]; exact hx.1.2.2.1 z1)
    rw [wp_bn]
    refine wp_mono (x_one hN hy.1 h0 h24 ⟨a3, a4⟩ h2 (fun q ha => (hxq q ((FRI.lf z3.1).ac ha)).ef z3.1)) (fun _ y2 hy2 => ?_)
    obtain ⟨c1, c2, c3⟩ := hy2
    have ck := c1.2.2.2.1
    have tk := c1.1.1.2.2.2
    refine ih _ (m1, m2, m3, y2) ?_ ⟨rfl, rfl, rfl, hy.tr c1, c2, by show kP u < kP y2; omega, rfl⟩
    dsimp only
    rw [hd, if_pos z1]
    have := hx.1.1.2.2.2
    split <;> omega
  · refine wp_if.mpr ⟨fun _ => ?_, fun q => absurd r1 q⟩
    rw [wp_bn]
    refine wp_mono (hx.take (by unfold isT; decide)) (fun _ y2 hy2 => wp_some.mpr ?_)
    obtain ⟨c1, c2, c3⟩ := hy2
    exact ⟨c1, fun q ha => (hxq q ((FRI.lf c2.1).ac ha)).ef c2.1, fun _ => by have := c2.2.1; omega⟩
/-- bytes of a kind -/
theorem bitq8 {r : Int32} (h0 : 0 ≤ r.toInt) (h4 : r.toInt ≤ 4) : ((64 : Int32) - r_bits r / 8).toInt = 64 - byK r.toInt := by
  have key : ∀ r : Int32, r = 0 ∨ r = 1 ∨ r = 2 ∨ r = 3 ∨ r = 4 → ((64 : Int32) - r_bits r / 8).toInt = 64 - byK r.toInt := by
    rintro r (rfl | rfl | rfl | rfl | rfl) <;> decide
  refine key r ?_
  rcases (show r.toInt = 0 ∨ r.toInt = 1 ∨ r.toInt = 2 ∨ r.toInt = 3 ∨ r.toInt = 4 by omega) with q | q | q | q | q
  · exact Or.inl (Int32.toInt_inj.mp (by rw [q]; decide))
  · exact Or.inr (Or.inl (Int32.toInt_inj.mp (by rw [q]; decide)))
  · exact Or.inr (Or.inr (Or.inl (Int32.toInt_inj.mp (by rw [q]; decide))))
  · exact Or.inr (Or.inr (Or.inr (Or.inl (Int32.toInt_inj.mp (by rw [q]; decide)))))
  · exact Or.inr (Or.inr (Or.inr (Or.inr (Int32.toInt_inj.mp (by rw [q]; decide)))))
theorem x_image (hN : 5000000000 ≤ N) (hi : IVP u T o) (h0 : 0 ≤ o) (h24 : o ≤ 24) (ht : ¬ isT (tyR u)) (h2 : l1 = 2 ∨ l1 = 3) : wp (F_image N l1 u) (fun _ w => ORQ u w T o ∧ (w.1 67 = 0 → kP u < kP w)) := by
  unfold F_image B_image_0
  obtain ⟨on1, on2, on3⟩ := (ORQ.rf hi).on ht
  refine wp_pu.mpr ?_
  generalize sI u 65 (u.1 65 + 1) = v1 at on1 on2 on3 ⊢
  rw [wp_bn]
  refine wp_mono on3.kind (fun r v2 hv2 => ?_)
  obtain ⟨a1, a2, a3, a4, -⟩ := hv2
  obtain ⟨i1, i2, i3, i4⟩ := id a1.1
  have hto : 0 ≤ (v2.1 56).toInt ∧ (v2.1 56).toInt ≤ 1 := ⟨i2.2.2.2.2.2.2.2.2.1, i2.2.2.2.2.2.2.2.2.2⟩
  have vi2 : vp_in (v2.1 56) 2 := vin_iff.mpr ⟨hto.1, by omega⟩
  have cn := i2.2.2.2.2.1 (toN v2)
  have v4 : 0 ≤ (v2.1 65).toInt ∧ (v2.1 65).toInt < 1502 := by
    have b1 := i1.1
    have b2 := i1.2.2.1
    have b3 := i1.2.2.2
    unfold kP at b2 b3
    omega
  rw [wp_bn]
  refine wp_mono (x_is i1) (fun r2 v2' hv => ?_)
  obtain ⟨rfl, hr⟩ := hv
  refine wp_if.mpr ⟨fun c => ?_, fun c => ?_⟩
  · rw [wp_bn]
    refine wp_mono (x_stuck i1) (fun _ w hw => wp_some.mpr ⟨a1.lf (hw.t i1) (fun z => absurd z hw.1), fun z => absurd z hw.1⟩)
  obtain ⟨-, hz, hty⟩ : r2 = 1 ∧ v2'.1 67 = 0 ∧ tyR v2' = 1 := by
    rcases hr with q | ⟨q, -⟩
    · exact q
    · exact absurd q c
  refine wp_rd.mpr ⟨vi2, ?_⟩
  rw [wp_bn]
  have rest : ∀ v : RSt, ORQ v2' v T o → v.1 65 = v2'.1 65 → v.2.2.1 2 = v2'.2.2.1 2 → (act v → PDq 0 v) → wp (pu (sI v 65 ((v.1 65) + 1)) fun u_10 => bn (F_take N 104 u_10) fun _ u_11 => bn (F_bounded N 0 (64 - ((r_bits r) / 8)) u_11) fun r_15 u_14 => bn (F_take N 229 u_14) fun _ u_16 => bn (F_addVariable N (v2'.1 65) r l1 1 0 r_15 0 u_16) fun _ u_17 => some ((0 : Int32), u_17)) (fun _ w => ORQ u w T o ∧ (w.1 67 = 0 → kP u < kP w)) := by
    intro v hv h65 hty2 hp
    have tv : tyR v = 1 := by unfold tyR; rw [h65, hty2]; exact hty
    obtain ⟨n1, n2, n3⟩ := (a1.tr hv).on (by rw [tv]; unfold isT; decide)
    have hp1 := PDq.lf hp n1.1
    refine wp_pu.mpr ?_
    generalize sI v 65 (v.1 65 + 1) = y at n1 n2 n3 hp1 ⊢
    rw [wp_bn]
    refine wp_mono (n3.take (by unfold isT; decide)) (fun _ y2 hy2 => ?_)
    obtain ⟨c1, c2, c3⟩ := hy2
    rw [wp_bn]
    refine wp_mono (x_bounded c1.1.1) (fun n y3 hy3 => ?_)
    have c4 := c1.lf (o' := o) hy3.1 (fun z => by rw [opn_e (hy3.2 z).2.2.1]; exact c1.1.2.2.1 (hy3.2 z).1)
    rw [wp_bn]
    refine wp_mono (c4.take (by unfold isT; decide)) (fun _ y4 hy4 => ?_)
    obtain ⟨f1, f2, f3⟩ := hy4
    have hp4 := PDq.lf hp1 ((c2.1.tr hy3.1.1).tr f2.1)
    have hl : LF y y4 := (c2.1.tr hy3.1.1).tr f2.1
    obtain ⟨j1, j2, j3, j4⟩ := id f1.1
    have cn4 := j2.2.2.2.2.1 (toN y4)
    rw [wp_bn]
    refine wp_mono (x_addVariable v4 ⟨a3, a4⟩ ⟨j2.2.2.2.2.2.2.2.2.1, j2.2.2.2.2.2.2.2.2.2⟩ (fun ha => ⟨cn4.1.1, ?_⟩)) (fun _ w hw => wp_some.mpr ?_)
    · have := (hp4 ha).1 rfl; have := (j4 ha).2.2.2.1; omega
    have l2 : (2 : Int32) ≤ l1 := by rcases h2 with q | q <;> rw [q] <;> decide
    have en : n64 y4 r l1 1 = y4 := by unfold n64; rw [if_pos (Or.inr l2)]
    have ku : kP u < kP y4 := by have := a2.2.1; have := hv.2.2.2.1; have := c2.2.1; have := hy3.1.2.1; have := f2.2.1; omega
    rcases hw with ⟨q1, q2, q3⟩ | ⟨ha, q1, q2, q3⟩ | ⟨rfl, q1⟩
    · rw [en] at q2
      exact ⟨f1.lf (FLT.t ⟨q1, q2, q3⟩ j1) (fun z => absurd z q1), fun z => absurd z q1⟩
    · obtain ⟨p1, p2⟩ := j4 ha
      have e1 : (1 : Int32).toInt = 1 := by decide
      have z0 : (0 : Int32).toInt = 0 := by decide
      have h69 : ¬ y2.1 69 = 0 := by
        have : y4.1 69 = y2.1 69 := by rw [f2.1.2.1 69 (by decide), hy3.1.1.2.1 69 (by decide)]
        rw [← this]; exact ha.1
      obtain ⟨m, m1, m2, m3⟩ := (hy3.2 (f3 ha.2).1).2.2.2 h69
      rw [z0] at m2
      rw [bitq8 a3 a4] at m3
      have bk : 1 ≤ byK r.toInt := by unfold byK; split <;> (try split) <;> (try split) <;> omega
      have mn : n.toInt = m.toInt := by rw [m1, t64 (by omega) (by omega)]
      obtain ⟨r1, r2⟩ := q1.all q2 ha j2 p2 ⟨a3, a4⟩ (by rw [e1]; omega) q3 (Or.inr (Or.inr ⟨h2, rfl, rfl, by omega, by omega⟩)) ((hp4 ha).1 rfl)
      have e65 : w.1 65 = y4.1 65 := q1.2.1 65 (by decide)
      have ek : kP w = kP y4 := by unfold kP; rw [e65]
      refine ⟨f1.tr ⟨⟨?_, r1, fun z => ?_, fun _ => ⟨q1.gks p1, r2⟩⟩, q1.fri (by rcases h2 with q | q <;> rw [q] <;> exact ⟨by decide, fun _ => rfl⟩), fun _ => q1.csm, by omega, fun k hk => q1.2.1 k (fun z => by subst z; exact absurd hk (by decide))⟩, fun _ => by omega⟩
      · obtain ⟨b1, b2, b3, b4⟩ := j1
        exact ⟨b1, by rw [q1.2.2.2.1 2 (by decide)]; exact b2, by omega, by omega⟩
      · rw [opn_e (q1.2.1 66 (by decide))]
        exact j3 ha.2
    · exact ⟨f1, fun _ => ku⟩
  refine wp_mono (x_telling hN i1 i2.2.2.2.2.2.2.1 (fun ha => ⟨(i4 ha).2.1, (i4 ha).2.2.1, (i4 ha).2.2.2.1⟩)) (fun _ w hw => ?_)
  rcases hw with hw | ⟨rfl, hna⟩ | ⟨ha, hw, h6, -⟩
  · exact rest w ((ORQ.rf a1.1).lf (hw.t i1) (fun z => absurd z hw.1)) hw.2.2 (by rw [hw.2.1.1]) (fun ha => absurd ha.2 hw.1)
  · exact rest w (ORQ.rf a1.1) rfl rfl (fun ha => absurd ha hna)
  · have g19 : (v2'.2.2.1 19 (v2'.1 56).toNatClampNeg).toInt < 160 := by have := (i4 ha).2.2.2.2.1; show (v2'.2.2.1 19 (toN v2')).toInt < 160; omega
    obtain ⟨r1, r2, r3⟩ := hw.ivp a1.1 ha h6 ⟨cn.1.1, fun _ => g19, fun z => absurd z (by decide), fun z => absurd z (by decide), fun z => absurd z (by decide), fun z => absurd z (by decide)⟩
    exact rest w r1 (hw.2.1 65 (by decide)) (hw.2.2.2.2.1 2 (by decide)) (fun _ => r2)
end RVars
