/-! One variable, one slot. -/
/-- between two items, the code aside -/
def IVP (u : RSt) (T : Nat) (o : Int) : Prop := TK2 u T ∧ TB0 u ∧ (u.1 67 = 0 → opn u = o) ∧ (act u → GKS u ∧ NUQ u)
/-- from u to v names, variables and slots were put -/
def ORQ (u v : RSt) (T : Nat) (o : Int) : Prop := IVP v T o ∧ FRI u v ∧ (act v → CSM u v) ∧ kP u ≤ kP v ∧ (∀ k, k ∈ [70, 71, 72, 74] → v.1 k = u.1 k)
/-- a name waits -/
def PDq (l3 : Int32) (v : RSt) : Prop := (l3 = 0 → (v.2.2.1 19 (toN v)).toInt < (v.1 62).toInt) ∧ (¬ l3 = 0 → (v.2.2.1 27 (toN v)).toInt < (v.1 62).toInt ∧ PQ v)
section ROne
variable {u v w : RSt} {T N k j : Nat} {o o' : Int} {x l1 l2 l3 l4 l5 l6 : Int32} {l7 : Int64}
theorem IVQ.p (h : IVQ u T o) : IVP u T o := ⟨h.1, h.2.1, h.2.2.1, fun ha => ⟨(h.2.2.2 ha).1, (h.2.2.2 ha).2.1⟩⟩
theorem IVP.lf (h : IVP u T o) (hl : LFT u w T) (ho : w.1 67 = 0 → opn w = o') : IVP w T o' := by
  obtain ⟨h1, h2, h3, h4⟩ := h
  refine ⟨h1.lf hl, h2.ef hl.1.ef, ho, fun ha => ?_⟩
  obtain ⟨q1, q2⟩ := h4 ((FRI.lf hl.1).ac ha)
  exact ⟨q1.ef hl.1.ef, q2.ef hl.1.ef⟩
theorem FLT.t (h : FLT u w) (hk : TK2 u T) : LFT u w T := by
  have e : kP w = kP u := by unfold kP; rw [h.2.2]
  exact ⟨h.2.1, by omega, by have := hk.2.2.2; omega⟩
theorem IVP.ta (h : IVP u T o) (hz : u.1 67 = 0) : TABS u := h.2.1.ta (fun q => (h.2.2.2 ⟨q, hz⟩).1)
theorem ORQ.rf (h : IVP u T o) : ORQ u u T o := ⟨h, FRI.rf, fun _ => ⟨rfl, fun _ _ => rfl⟩, Int.le_refl _, fun _ _ => rfl⟩
theorem CSM.tr (h : CSM u v) (h2 : CSM v w) : CSM u w := ⟨h2.1.trans h.1, fun k hk => (h2.2 k hk).trans (h.2 k hk)⟩
theorem ORQ.tr (h : ORQ u v T o) (h2 : ORQ v w T o') : ORQ u w T o' :=
  ⟨h2.1, h.2.1.tr h2.2.1, fun ha => (h.2.2.1 (h2.2.1.ac ha)).tr (h2.2.2.1 ha), Int.le_trans h.2.2.2.1 h2.2.2.2.1, fun k hk => (h2.2.2.2.2 k hk).trans (h.2.2.2.2 k hk)⟩
theorem ORQ.lf (h : ORQ u v T o) (hl : LFT v w T) (ho : w.1 67 = 0 → opn w = o') : ORQ u w T o' := by
  refine ⟨h.1.lf hl ho, h.2.1.tr (FRI.lf hl.1), fun ha => (h.2.2.1 ((FRI.lf hl.1).ac ha)).tr hl.1.csm, Int.le_trans h.2.2.2.1 hl.2.1, fun k hk => ?_⟩
  rw [hl.1.2.1 k (fun z => ?_)]
  · exact h.2.2.2.2 k hk
  · simp only [List.mem_cons, List.not_mem_nil, or_false] at z hk
    omega
theorem PQ.ef (h : PQ v) (hl : LF v w) : PQ w := by
  unfold PQ
  rw [hl.to, hl.2.1 71 (by decide), hl.2.1 73 (by decide), hl.1]
  exact h
theorem PDq.lf (h : act v → PDq l3 v) (hl : LF v w) : act w → PDq l3 w := by
  intro ha
  obtain ⟨h1, h2⟩ := h ((FRI.lf hl).ac ha)
  refine ⟨fun q => ?_, fun q => ⟨?_, (h2 q).2.ef hl⟩⟩
  · rw [hl.to, hl.1, hl.2.1 62 (by decide)]; exact h1 q
  · rw [hl.to, hl.1, hl.2.1 62 (by decide)]; exact (h2 q).1
theorem opn_e (h : w.1 66 = v.1 66) : opn w = opn v := by unfold opn; rw [h]
/-- the last step: the variable or the slot is put -/
theorem e_one150 (hi : IVP v T o) (hk : 0 ≤ l1.toInt ∧ l1.toInt ≤ 4) (h2 : l2 = 0 ∨ l2 = 1) (h4 : 0 ≤ l4.toInt ∧ l4.toInt < 1502) (h5 : act v → 1 ≤ l5.toInt ∧ l5.toInt ≤ 200) (hp : act v → PDq l3 v) (hq : ¬ l3 = 0 → act v → PQ v) : wp (B_one_150 N l1 l2 l3 l4 l5 l6 l7 v) (fun _ w => ORQ v w T o ∧ (¬ l3 = 0 → act w → PQ w)) := by
  obtain ⟨i1, i2, i3, i4⟩ := id hi
  have hto : 0 ≤ (v.1 56).toInt ∧ (v.1 56).toInt ≤ 1 := ⟨i2.2.2.2.2.2.2.2.2.1, i2.2.2.2.2.2.2.2.2.2⟩
  have cn := i2.2.2.2.2.1 (toN v)
  unfold B_one_150
  refine wp_if.mpr ⟨fun q => ?_, fun q => ?_⟩
  · rw [wp_bn]
    refine wp_mono (x_addVariable h4 hk hto (fun ha => ⟨cn.1.1, ?_⟩)) (fun _ w hw => wp_some.mpr ?_)
    · have := (hp ha).1 q; have := (i4 ha).2.2.2.1; omega
    rcases hw with ⟨q1, q2, q3⟩ | ⟨ha, q1, q2, q3⟩ | ⟨rfl, q1⟩
    · have f1 : FRI v (n64 v l1 l2 l5) := by
        unfold n64
        split
        · exact FRI.rf
        · exact FRI.rf.sA (Or.inl (by unfold zf; decide)) (by decide)
      have tb : TB0 (n64 v l1 l2 l5) := by
        unfold n64
        split
        · exact i2
        · exact i2
      have e65 : kP w = kP v := by unfold kP; rw [q3]
      refine ⟨⟨⟨?_, tb.ef q2.ef, fun z => absurd z q1, fun ha => absurd ha.2 q1⟩, f1.tr (FRI.lf q2), fun ha => absurd ha.2 q1, by omega, fun k hk => ?_⟩, fun _ ha => absurd ha.2 q1⟩
      · obtain ⟨b1, b2, b3, b4⟩ := i1
        exact ⟨b1, by rw [q2.1, n64_3 (by decide)]; exact b2, by omega, by omega⟩
      · rw [q2.2.1 k (fun z => ?_), n64_1]
        simp only [List.mem_cons, List.not_mem_nil, or_false] at z hk
        omega
    · obtain ⟨p1, p2⟩ := i4 ha
      obtain ⟨r1, r2⟩ := q1.all q2 ha i2 p2 hk (h5 ha) q3 (h2.elim Or.inl (fun z => Or.inr (Or.inl z))) ((hp ha).1 q)
      have e65 : w.1 65 = v.1 65 := q1.2.1 65 (by decide)
      have ek : kP w = kP v := by unfold kP; rw [e65]
      refine ⟨⟨⟨?_, r1, fun z => ?_, fun _ => ⟨q1.gks p1, r2⟩⟩, q1.fri (by rcases h2 with q | q <;> rw [q] <;> exact ⟨by decide, fun z => absurd z (by decide)⟩), fun _ => q1.csm, by omega, fun k hk => q1.2.1 k (fun z => by subst z; exact absurd hk (by decide))⟩, fun z => absurd q z⟩
      · obtain ⟨b1, b2, b3, b4⟩ := i1
        exact ⟨b1, by rw [q1.2.2.2.1 2 (by decide)]; exact b2, by omega, by omega⟩
      · rw [opn_e (q1.2.1 66 (by decide))]
        exact i3 ha.2
    · exact ⟨ORQ.rf hi, fun _ ha => absurd q1 ha.1⟩
  · rw [wp_bn]
    refine wp_mono (x_addSlot h4 hto (fun ha => ⟨cn.2.1.1, ?_, ?_⟩)) (fun _ w hw => wp_some.mpr ?_)
    · have := ((hp ha).2 q).1; have := (i4 ha).2.2.2.1; show (v.2.2.1 27 (toN v)).toInt < 160; omega
    · have := (hq q ha).1; exact ⟨this.1, this.2.1⟩
    rcases hw with q1 | ⟨rfl, q1⟩ | ⟨ha, q1, q2⟩
    · exact ⟨(ORQ.rf hi).lf (q1.t i1) (fun z => absurd z q1.1), fun _ ha => absurd ha.2 q1.1⟩
    · exact ⟨ORQ.rf hi, fun _ ha => absurd ha q1⟩
    · obtain ⟨p1, p2⟩ := i4 ha
      have pq := hq q ha
      obtain ⟨r1, r2, r3⟩ := q1.all i2 p2 pq hk (h5 ha) q2 ((hp ha).2 q).1
      have e65 : w.1 65 = v.1 65 := q1.2.1 65 (by decide)
      have ek : kP w = kP v := by unfold kP; rw [e65]
      refine ⟨⟨⟨?_, r1, fun z => ?_, fun _ => ⟨q1.gks p1, r2⟩⟩, q1.fri pq.1.2.2, fun _ => q1.csm, by omega, fun k hk => q1.2.1 k (fun z => by subst z; exact absurd hk (by decide))⟩, fun _ _ => r3⟩
      · obtain ⟨b1, b2, b3, b4⟩ := i1
        exact ⟨b1, by rw [q1.2.2.2.1 2 (by decide)]; exact b2, by omega, by omega⟩
      · rw [opn_e (q1.2.1 66 (by decide))]
        exact i3 ha.2
/-- the name is told, or the local name -/
theorem TLD.ivp (h : TLD u w l1 l2) (hi : IVP u T o) (ha : act u) (h6 : (u.1 62).toInt < 160) (hn : GNW w l1 l2) : ORQ u w T o ∧ PDq 0 w ∧ (w.2.2.1 27 (toN w)).toInt < (w.1 62).toInt := by
  obtain ⟨i1, i2, i3, i4⟩ := id hi
  obtain ⟨p1, p2⟩ := i4 ha
  have h61 : 0 ≤ (u.1 61).toInt ∧ (u.1 61).toInt < 180 := ⟨p2.1, by have := p2.2.1; omega⟩
  obtain ⟨r1, r2, r3⟩ := p2.tld h h6
  have e65 : w.1 65 = u.1 65 := h.2.1 65 (by decide)
  have ek : kP w = kP u := by unfold kP; rw [e65]
  refine ⟨⟨⟨?_, h.tb0 i2 h61, fun z => ?_, fun _ => ⟨p1.tl h h61 ⟨rfl, rfl, rfl, rfl⟩ (Int.le_refl _) (Int.le_refl _) (Int.le_refl _) hn, r1⟩⟩, h.fri, fun _ => h.csm, by omega, fun k hk => h.2.1 k (fun z => ?_)⟩, ⟨fun _ => r2, fun z => absurd rfl z⟩, r3⟩
  · obtain ⟨b1, b2, b3, b4⟩ := i1
    exact ⟨b1, by rw [h.2.2.2.2.1 2 (by decide)]; exact b2, by omega, by omega⟩
  · rw [opn_e (h.2.1 66 (by decide))]
    exact i3 ha.2
  · simp only [List.mem_cons, List.not_mem_nil, or_false] at z hk
    omega
theorem ORQ.on (h : ORQ u v T o) (ht : ¬ isT (tyR v)) : LFT v (sI v 65 (v.1 65 + 1)) T ∧ kP (sI v 65 (v.1 65 + 1)) = kP v + 1 ∧ ORQ u (sI v 65 (v.1 65 + 1)) T o := by
  obtain ⟨a, b⟩ := h.1.1.on ht
  exact ⟨a, b, h.lf a (fun z => h.1.2.2.1 z)⟩
theorem x_one (hN : 5000000000 ≤ N) (hi : IVP u T o) (h0 : 0 ≤ o) (h24 : o ≤ 24) (hk : 0 ≤ l1.toInt ∧ l1.toInt ≤ 4) (h2 : l2 = 0 ∨ l2 = 1) (hq : ¬ l3 = 0 → act u → PQ u) : wp (F_one N l1 l2 l3 u) (fun _ w => ORQ u w T o ∧ (¬ l3 = 0 → act w → PQ w) ∧ (w.1 67 = 0 → kP u < kP w)) := by
  obtain ⟨i1, i2, i3, i4⟩ := id hi
  have hto : 0 ≤ (u.1 56).toInt ∧ (u.1 56).toInt ≤ 1 := ⟨i2.2.2.2.2.2.2.2.2.1, i2.2.2.2.2.2.2.2.2.2⟩
  have v2 : vp_in (u.1 56) 2 := vin_iff.mpr ⟨hto.1, by omega⟩
  have cn := i2.2.2.2.2.1 (toN u)
  have e1 : (1 : Int32).toInt = 1 := by decide
  have e200 : (200 : Int32).toInt = 200 := by decide
  have v4 : 0 ≤ (u.1 65).toInt ∧ (u.1 65).toInt < 1502 := by have := i1.1; have := i1.2.2.1; have := i1.2.2.2; exact ⟨i1.2.2.1, by unfold kP at *; omega⟩
  unfold F_one B_one_0
  rw [wp_bn]
  refine wp_mono (x_is i1) (fun r u' hu => ?_)
  obtain ⟨rfl, hr⟩ := hu
  refine wp_if.mpr ⟨fun c => ?_, fun c => ?_⟩
  · rw [wp_bn]
    refine wp_mono (x_stuck i1) (fun _ w hw => wp_some.mpr ⟨(ORQ.rf hi).lf (hw.t i1) (fun z => absurd z hw.1), fun _ ha => absurd ha.2 hw.1, fun z => absurd z hw.1⟩)
  obtain ⟨-, hz, ht⟩ : r = 1 ∧ u'.1 67 = 0 ∧ tyR u' = 1 := by
    rcases hr with q | ⟨q, -⟩
    · exact q
    · exact absurd q c
  -- the rest, once the name is told
  have e46 : ∀ v : RSt, ORQ u' v T o → v.1 65 = u'.1 65 → v.2.2.1 2 = u'.2.2.1 2 → (act v → PDq l3 v) → (¬ l3 = 0 → act v → PQ v) → wp (B_one_46 N l1 l2 l3 (u'.1 65) v) (fun _ w => ORQ u' w T o ∧ (¬ l3 = 0 → act w → PQ w) ∧ (w.1 67 = 0 → kP u' < kP w)) := by
    intro v hv h65 hty hp hq2
    have tv : tyR v = 1 := by unfold tyR; rw [h65, hty]; exact ht
    obtain ⟨on1, on2, on3⟩ := hv.on (by rw [tv]; unfold isT; decide)
    have hk0 : kP v = kP u' := by unfold kP; rw [h65]
    have hp1 : act (sI v 65 (v.1 65 + 1)) → PDq l3 (sI v 65 (v.1 65 + 1)) := PDq.lf hp on1.1
    have hq1 : ¬ l3 = 0 → act (sI v 65 (v.1 65 + 1)) → PQ (sI v 65 (v.1 65 + 1)) := fun q ha => (hq2 q ((FRI.lf on1.1).ac ha)).ef on1.1
    unfold B_one_46
    refine wp_pu.mpr ?_
    generalize sI v 65 (v.1 65 + 1) = v1 at on1 on2 on3 hp1 hq1 ⊢
    -- the first value, then the putting
    have e97 : ∀ (n rw_ : Int32) (y : RSt), LFT v1 y T → (y.1 67 = 0 → opn y = o) → (act y → 1 ≤ n.toInt ∧ n.toInt ≤ 200) → wp (B_one_97 N l1 l2 l3 (u'.1 65) n rw_ y) (fun _ w => ORQ u' w T o ∧ (¬ l3 = 0 → act w → PQ w) ∧ (w.1 67 = 0 → kP u' < kP w)) := by
      intro n rw_ y hl ho hn
      have e150 : ∀ (m : Int64) (z : RSt), LFT v1 z T → (z.1 67 = 0 → opn z = o) → (act z → act y) → wp (B_one_150 N l1 l2 l3 (u'.1 65) n rw_ m z) (fun _ w => ORQ u' w T o ∧ (¬ l3 = 0 → act w → PQ w) ∧ (w.1 67 = 0 → kP u' < kP w)) := by
        intro m z hlz hoz haz
        have oz := on3.lf hlz hoz
        refine wp_mono (e_one150 oz.1 hk h2 v4 (fun ha => hn (haz ha)) (PDq.lf hp1 hlz.1) (fun q ha => (hq1 q ((FRI.lf hlz.1).ac ha)).ef hlz.1)) (fun _ w hw => ?_)
        exact ⟨oz.tr hw.1, hw.2, fun _ => by have := hlz.2.1; have := hw.1.2.2.2.1; omega⟩
      have ty := on3.1.1.lf hl
      unfold B_one_97
      rw [wp_bn]
      refine wp_mono (x_has ty (by unfold isT; decide)) (fun r z hz => ?_)
      rcases hz with ⟨r1, z1, z2, z3, z4, z5⟩ | ⟨r1, z1, -⟩
      · refine wp_if.mpr ⟨fun q => absurd q (by rw [r1]; decide), fun _ => ?_⟩
        have lz := hl.tr z3
        have oz : z.1 67 = 0 → opn z = o := fun q => by rw [z5]; exact ho z1
        rw [wp_bn]
        refine wp_mono (x_constant (on3.1.1.lf lz)) (fun _ a ha => ?_)
        have la := lz.tr ha.1
        have oa : a.1 67 = 0 → opn a = o := fun q => by
          obtain ⟨b1, b2, b3⟩ := ha.2 q
          rw [opn_e b3]; exact oz b1
        have e135 : ∀ s : Int32, wp (B_one_135 N l1 l2 l3 (u'.1 65) n rw_ (a.2.1 77) s a) (fun _ w => ORQ u' w T o ∧ (¬ l3 = 0 → act w → PQ w) ∧ (w.1 67 = 0 → kP u' < kP w)) := by
          intro s
          unfold B_one_135
          have ta := on3.1.1.lf la
          have k1 : 1 ≤ kP a := by have := la.2.1; have := i1.2.2.1; omega
          have va : vp_in (a.1 65 - 1) 1502 := by
            have ka := ta.2.2.2
            have kb := ta.1
            unfold kP at k1 ka
            exact vin_iff.mpr ⟨by rw [tI_sub (by rw [e1]; omega) (by rw [e1]; omega), e1]; omega, by rw [tI_sub (by rw [e1]; omega) (by rw [e1]; omega), e1]; omega⟩
          refine wp_rd.mpr ⟨va, ?_⟩
          rw [wp_bn]
          refine wp_mono (x_wrong (by decide)) (fun _ b hb => ?_)
          rcases hb with ⟨rfl, -⟩ | hb
          · exact e150 _ _ la oa (fun q => (FRI.lf (z3.1.tr ha.1.1)).ac q)
          · exact e150 _ _ (la.tr (hb.t ta)) (fun q => absurd q hb.1) (fun q => absurd q.2 hb.1)
        exact wp_if.mpr ⟨fun _ => e135 1, fun _ => e135 0⟩
      · subst z1
        exact wp_if.mpr ⟨fun _ => e150 _ _ hl ho (fun q => q), fun q => absurd r1 q⟩
    have o1 : v1.1 67 = 0 → opn v1 = o := on3.1.2.2.1
    rw [wp_bn]
    refine wp_mono (x_is on3.1.1) (fun r v1' hv1 => ?_)
    obtain ⟨rfl, hr1⟩ := hv1
    refine wp_if.mpr ⟨fun q => e97 1 r v1' (LFT.rf on3.1.1) o1 (fun _ => by rw [e1]; omega), fun q => ?_⟩
    rw [wp_bn]
    refine wp_mono (x_begins on3.1.1 (by unfold isT; decide) (fun z => by rw [o1 z]; omega)) (fun _ a ha => ?_)
    have ta := on3.1.1.lf ha.1
    rw [wp_bn]
    refine wp_mono (x_bounded ta) (fun n b hb => ?_)
    have tb := ta.lf hb.1
    have ob : b.1 67 = 0 → opn b = o + 1 ∧ opn b ≤ 24 := fun z => by
      obtain ⟨c1, c2, c3, c4⟩ := hb.2 z
      obtain ⟨d1, d2, d3, d4, d5⟩ := ha.2 c1
      rw [opn_e c3]
      exact ⟨by rw [d4, o1 d1], d5⟩
    rw [wp_bn]
    refine wp_mono (x_ends tb (by unfold isT; decide) (fun z => by have := ob z; omega)) (fun _ d hd => ?_)
    refine e97 n r d ((ha.1.tr hb.1).tr hd.1) (fun z => ?_) (fun hd1 => ?_)
    · obtain ⟨c1, c2, c3, c4⟩ := hd.2 z
      have := ob c1
      omega
    · obtain ⟨c1, c2, c3, c4⟩ := hd.2 hd1.2
      obtain ⟨f1, f2, f3, f4⟩ := hb.2 c1
      have h69 : ¬ a.1 69 = 0 := by
        have : d.1 69 = a.1 69 := by rw [hd.1.1.2.1 69 (by decide), hb.1.1.2.1 69 (by decide)]
        rw [← this]; exact hd1.1
      obtain ⟨m, m1, m2, m3⟩ := f4 h69
      rw [e1] at m2
      rw [e200] at m3
      rw [m1, t64 (by omega) (by omega)]
      exact ⟨m2, m3⟩
  refine wp_if.mpr ⟨fun q => ?_, fun q => ?_⟩
  · refine wp_rd.mpr ⟨v2, ?_⟩
    rw [wp_bn]
    refine wp_mono (x_telling hN i1 i2.2.2.2.2.2.2.1 (fun ha => ⟨(i4 ha).2.1, (i4 ha).2.2.1, (i4 ha).2.2.2.1⟩)) (fun _ w hw => ?_)
    rcases hw with hw | ⟨rfl, hna⟩ | ⟨ha, hw, h6, -⟩
    · exact e46 w ((ORQ.rf hi).lf (hw.t i1) (fun z => absurd z hw.1)) hw.2.2 (by rw [hw.2.1.1]) (fun ha => absurd ha.2 hw.1) (fun z => absurd q z)
    · exact e46 w (ORQ.rf hi) rfl rfl (fun ha => absurd ha hna) (fun z => absurd q z)
    · have g19 : (u'.2.2.1 19 (u'.1 56).toNatClampNeg).toInt < 160 := by have := (i4 ha).2.2.2.2.1; show (u'.2.2.1 19 (toN u')).toInt < 160; omega
      obtain ⟨r1, r2, r3⟩ := hw.ivp hi ha h6 ⟨cn.1.1, fun _ => g19, fun z => absurd z (by decide), fun z => absurd z (by decide), fun z => absurd z (by decide), fun z => absurd z (by decide)⟩
      exact e46 w r1 (hw.2.1 65 (by decide)) (hw.2.2.2.2.1 2 (by decide)) (fun _ => by rw [q]; exact r2) (fun z => absurd q z)
  · rw [wp_bn]
    refine wp_mono (x_local hN i1 (hi.ta hz) (fun _ z => absurd rfl z) (fun ha => (i4 ha).2.2.2.1)) (fun _ w hw => ?_)
    rcases hw with hw | ⟨rfl, hna⟩ | ⟨ha, rfl, h6, -⟩
    · exact e46 w ((ORQ.rf hi).lf (hw.t i1) (fun z => absurd z hw.1)) hw.2.2 (by rw [hw.2.1.1]) (fun ha => absurd ha.2 hw.1) (fun _ ha => absurd ha.2 hw.1)
    · exact e46 w (ORQ.rf hi) rfl rfl (fun ha => absurd ha hna) (fun _ ha => absurd ha hna)
    · obtain ⟨p1, p2⟩ := i4 ha
      obtain ⟨r1, r2⟩ := p2.loc h6
      refine e46 _ ⟨⟨i1, i2.loc, i3, fun _ => ⟨p1.loc, r1⟩⟩, FRI.rf.sI (by unfold zi; decide) (by decide), fun _ => CSM.loc, Int.le_refl _, fun k hk => ?_⟩ rfl rfl (fun _ => ⟨fun z => absurd z q, fun _ => ⟨r2, (hq q ha).loc⟩⟩) (fun _ _ => (hq q ha).loc)
      rw [sI_1, if_neg (fun z => by subst z; exact absurd hk (by decide))]
end ROne
