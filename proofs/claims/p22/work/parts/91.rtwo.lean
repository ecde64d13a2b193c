/-! Operators and ? : of the reference. -/
section RTwo
variable {u u0 v w a0 a7 : RSt} {T N g g' g1 g2 : Nat} {o o' e e' : Int} {α β γ : List (Int × Int)} {f : Bool} {ro : Nat → Int32 → Int32 → RSt → Option (Int32 × RSt)} {β' : Type} {Q : β' → RSt → Prop}
theorem EMT.g7 {x a b : Int32} (h : EMT v w x a b) (h0 : 0 ≤ (v.2.2.1 54 (toN v)).toInt) : GEN v w 700 1 α β :=
  ⟨by have := h.pos h0; omega, by have := h.pos h0; omega, fun p hp => h.2.2.2.2.2.2.2.2.2 p (by omega), fun H σ hH hE hl => absurd hl (by omega)⟩
theorem CSw.emit {x a b r : Int32} (hp : PRE u0 T) (h : CSw u0 v T o e) (he : e ≤ 300) (hm : (¬ act v ∧ w = v) ∨ (act v ∧ r.toInt = posR v ∧ EMT v w x a b)) : CSw u0 w T o (e + 1) :=
  (h.c.emit (γ := []) hm (h.c.tl hp) (h.c.bnd hp he) (Nat.le_refl _) (fun _ qm b1 _ => qm.g7 b1)).wk
theorem CSw.sub (h : CSw u0 v T o e) (h2 : CSq v w T o' e' g2 [] γ f) : CSw u0 w T o' (e + e') :=
  ((h.any [] []).sub (g' := 700 + g2) h2 (by omega) (by omega)).wk
theorem CSw.lf (h : CSw u0 v T o e) (hl : LFT v w T) (ho : w.1 67 = 0 → opn w = o' ∧ 0 ≤ o' ∧ o' ≤ 24) : CSw u0 w T o' (e - 5 * (kP w - kP v)) := (h.c.lf hl ho).wk
theorem CSw.we (h : CSw u0 v T o e) (he : e ≤ e') : CSw u0 v T o e' := (h.c.we he (Nat.le_refl _)).wk
theorem CSq.glue (h0 : CSq u0 a0 T o e g α (nT :: β) f) (h7 : CSw u0 a7 T o' e') (ef : EFr a0 a7) (ht : a7.1 67 = 0 → ¬ u0.1 69 = 0 → posR a0 ≤ posR a7 ∧ (∀ p, p < posR a0 → SAC a0 a7 p) ∧ TYP a0 a7 g2 [nT] [nT]) (hg : g ≤ g') (hg2 : g2 + β.length ≤ g') : CSq u0 a7 T o' e' g' α (nT :: β) f := by
  obtain ⟨a1, a2, a3, a4, a5⟩ := h7
  refine ⟨a1, a2, a3, a4, fun q => ?_⟩
  obtain ⟨q1, q2, q3⟩ := a5 q
  refine ⟨q1, q2, fun hj => ?_⟩
  obtain ⟨c0, c1, c2, c3⟩ := q3 hj
  obtain ⟨t1, t2, t3⟩ := ht q hj
  obtain ⟨-, -, r3⟩ := h0.2.2.2.2 (ef.z q)
  obtain ⟨d0, d1, d2, d3, d4, d5⟩ := r3 hj
  have t4 := (GEN.ext (c := posR a7 - posR a0) (c1 := posR a7 - posR a0) (g1 := g') ⟨t1, by omega, t2, t3⟩ β hg2 (Nat.le_refl _)).2.2.2
  refine ⟨c0, c1, c2, c3, fun z => ?_, ?_⟩
  · obtain ⟨x1, x2⟩ := d4 z
    exact ⟨by omega, by rw [(t2 _ x1).1]; exact x2⟩
  · exact d5.tr t4 d1 t1 h0.1 ef d3 t2 hg (Nat.le_refl _)
theorem EMT.efb {x a b : Int32} (h : EMT v w x a b) (hb : BND v) (ha : act v) : EFr v w := by
  obtain ⟨b1, b2⟩ := hb.2.2 ha
  exact h.ef b1 (by omega)
theorem emE {x a b r : Int32} (hb : BND v) (hm : (¬ act v ∧ w = v) ∨ (act v ∧ r.toInt = posR v ∧ EMT v w x a b)) : EFr v w := by
  rcases hm with ⟨-, rfl⟩ | ⟨ha, -, hm⟩
  · exact EFr.rf
  · exact hm.efb hb ha
/-- the second side of && or || -/
theorem e_and {l1 l3 s1 : Int32} {R : Int32 × Int32 × Int32 × RSt → Option (Int32 × RSt)} {Q : Int32 → RSt → Prop} (hp : PRE u T) (h : CSq u a0 T o e g [] [nT] f) (he : e ≤ -4) (hs : s1 = 26 ∨ s1 = 27) (hX : HXr ro T 1 (l3 + 1) o g1) (hg1 : g1 + 1 ≤ g) (h1g : 1 ≤ g1) (kk : ∀ w, CSq u w T o (e + 4) g [] [nT] f → kP a0 ≤ kP w → wp (B_two_159 N ro R l1 3 w) Q) : wp (B_two_71 N ro R l1 l3 s1 a0) Q := by
  unfold B_two_71
  have hb0 := h.bnd hp (by omega)
  rw [wp_bn]
  refine wp_mono (r_emit hb0) (fun jp a1 m1 => ?_)
  have w1 := h.wk.emit hp (by omega) m1
  have f01 := emE hb0 m1
  rw [wp_bn]
  refine wp_mono (hX a1 (w1.c.pre hp (by omega)) (fun z => w1.c.ho z)) (fun r a2 h12 => ?_)
  have w2 := w1.sub h12
  have hp1 := w1.c.pre hp (by omega)
  -- TRUTH
  refine c_emit (γ := [nT]) (g' := g1) hp1 h12 (by omega) (Nat.le_refl _) (fun w _ qm b1 b2 => ?_) (fun r2 a3 h13 sm3 em3 nm3 => ?_)
  · have := (gn_un (t := nT) qm (h12.tl hp1) b1 b2 (by decide)).ext (g1 := g1) (c1 := 1) [] (by simpa using h1g) (Nat.le_refl _)
    simpa using this
  have w3 := w1.sub h13
  have hb3 := w3.c.bnd hp (by omega)
  rw [wp_bn]
  refine wp_mono (r_emit hb3) (fun jq a4 m4 => ?_)
  have w4 := w3.emit hp (by omega) m4
  have f34 := emE hb3 m4
  have hb4 := w4.c.bnd hp (by omega)
  -- facts where code is made
  have act4 : act a4 → act a3 ∧ jq.toInt = posR a3 ∧ EMT a3 a4 28 0 0 := by
    intro ha
    rcases m4 with ⟨q, rfl⟩ | ⟨q1, q2, q3⟩
    · exact absurd ha q
    · exact ⟨q1, q2, q3⟩
  have act3 : act a3 → act a1 := by
    intro ha
    exact ⟨by rw [← h13.1.1 69 (by decide)]; exact ha.1, h13.1.z ha.2⟩
  have act1 : act a1 → act a0 ∧ jp.toInt = posR a0 ∧ EMT a0 a1 s1 0 0 := by
    intro ha
    rcases m1 with ⟨q, rfl⟩ | ⟨q1, q2, q3⟩
    · exact absurd ha q
    · exact ⟨q1, q2, q3⟩
  have juj : ∀ {x : RSt}, EFr u x → ¬ x.1 69 = 0 → ¬ u.1 69 = 0 := fun hx hz => by rw [← hx.1 69 (by decide)]; exact hz
  have p04 : act a4 → posR u ≤ posR a0 ∧ posR a0 < posR a3 ∧ posR a4 = posR a3 + 1 ∧ posR a4 < 16000 := by
    intro ha
    obtain ⟨ha3, q2, q3⟩ := act4 ha
    have ha1 := act3 ha3
    obtain ⟨ha0, z2, z3⟩ := act1 ha1
    have d0 := ((h.2.2.2.2 ha0.2).2.2 (juj h.1 ha0.1))
    have b0 := hb0.2.2 ha0
    have b3 := hb3.2.2 ha3
    have p1 := z3.pos b0.1
    have p4 := q3.pos b3.1
    have d3 := ((h13.2.2.2.2 ha3.2).2.2 ha1.1)
    have b4 := hb4.2.2 ha
    have t4 := w4.c.tl hp
    refine ⟨d0.2.1, by have := d3.2.1; omega, p4, ?_⟩
    have e4 : posR a4 = 8000 * toN a4 + (a4.2.2.1 54 (toN a4)).toInt.toNat := rfl
    omega
  rw [wp_bn]
  refine wp_mono (x_lead (j := posR a0) hb4 (fun ha => ?_)) (fun _ a5 m5 => ?_)
  · obtain ⟨q1, q2, q3, q4⟩ := p04 ha
    exact ⟨(act1 (act3 (act4 ha).1)).2.1, by omega⟩
  obtain ⟨m5a, m5n⟩ := m5
  have w5 := w4.pt (j := posR a0) m5a m5n (fun ha => ⟨(p04 ha).1, by have := p04 ha; omega⟩) hb4
  have f45 : EFr a4 a5 := by
    by_cases ha : act a4
    · have q := m5a ha
      have t := p04 ha
      have ebs : bsR a4 = bsR u := w4.1.bs
      have hbu : bsR u ≤ posR u := by unfold bsR posR; omega
      have b4 := hb4.2.2 ha
      exact q.ef (by omega) (by have e4 : posR a4 = 8000 * toN a4 + (a4.2.2.1 54 (toN a4)).toInt.toNat := rfl
                                have e5 : bsR a4 = 8000 * toN a4 := rfl
                                omega)
    · rw [m5n ha]; exact EFr.rf
  have e124 : ∀ s2 : Int64, wp (B_two_124 N ro R l1 jq s2 a5) Q := by
    intro s2
    unfold B_two_124
    have c5 : CSq a5 a5 T o 0 1 [] [] false := CSq.rf (w5.c.pre hp (by omega)) (fun z => w5.c.ho z)
    have hp5 := w5.c.pre hp (by omega)
    refine c_push (g' := 1) hp5 c5 (by omega) (Nat.le_refl _) (by simp) (fun r6 a6 h56 sm6 => ?_)
    have w6 := w5.sub h56
    have hb6 := w6.c.bnd hp (by omega)
    have act6 : act a6 → act a4 := by
      intro ha
      have z5 : act a5 := ⟨by rw [← h56.1.1 69 (by decide)]; exact ha.1, h56.1.z ha.2⟩
      exact ⟨by rw [← f45.1 69 (by decide)]; exact z5.1, f45.z z5.2⟩
    have p6 : act a6 → posR a4 ≤ posR a6 ∧ posR a6 < 16000 ∧ posR a5 = posR a4 := by
      intro ha
      have ha4 := act6 ha
      have q5 : posR a5 = posR a4 := (m5a ha4).pos
      have d := ((h56.2.2.2.2 ha.2).2.2 (by rw [f45.1 69 (by decide)]; exact ha4.1)).2.1
      have b6 := hb6.2.2 ha
      have t6 := w6.c.tl hp
      have e6 : posR a6 = 8000 * toN a6 + (a6.2.2.1 54 (toN a6)).toInt.toNat := rfl
      exact ⟨by omega, by omega, q5⟩
    rw [wp_bn]
    refine wp_mono (x_lead (j := posR a3) hb6 (fun ha => ?_)) (fun _ a7 m7 => ?_)
    · obtain ⟨q1, q2, q3, q4⟩ := p04 (act6 ha)
      exact ⟨(act4 (act6 ha)).2.1, by omega⟩
    obtain ⟨m7a, m7n⟩ := m7
    have w7 := w6.pt (j := posR a3) m7a m7n (fun ha => by
      obtain ⟨q1, q2, q3, q4⟩ := p04 (act6 ha)
      obtain ⟨r1, r2, r3⟩ := p6 ha
      exact ⟨by omega, by omega⟩) hb6
    have f67 : EFr a6 a7 := by
      by_cases ha : act a6
      · have q := m7a ha
        have t := p04 (act6 ha)
        have t6 := p6 ha
        have ebs : bsR a6 = bsR u := w6.1.bs
        have hbu : bsR u ≤ posR u := by unfold bsR posR; omega
        have b6 := hb6.2.2 ha
        exact q.ef (by omega) (by have e4 : posR a6 = 8000 * toN a6 + (a6.2.2.1 54 (toN a6)).toInt.toNat := rfl
                                  have e5 : bsR a6 = 8000 * toN a6 := rfl
                                  omega)
      · rw [m7n ha]; exact EFr.rf
    have F07 : EFr a0 a7 := ((((f01.tr h13.1).tr f34).tr f45).tr h56.1).tr f67
    have hk : kP a0 ≤ kP a7 := by
      have k1 : kP a1 = kP a0 := by
        rcases m1 with ⟨-, rfl⟩ | ⟨-, -, q⟩
        · rfl
        · exact q.sm.k
      have k4 : kP a4 = kP a3 := by
        rcases m4 with ⟨-, rfl⟩ | ⟨-, -, q⟩
        · rfl
        · exact q.sm.k
      have k5 : kP a5 = kP a4 := by
        by_cases ha : act a4
        · exact (m5a ha).sm.k
        · rw [m5n ha]
      have k7 : kP a7 = kP a6 := by
        by_cases ha : act a6
        · exact (m7a ha).sm.k
        · rw [m7n ha]
      have := h13.2.2.1
      have := h56.2.2.1
      omega
    refine kk a7 (CSq.glue (g2 := g1 + 1) (β := []) h (w7.we (e' := e + 4) (by omega)) F07 (fun z hj => ?_) (Nat.le_refl _) (by simpa using hg1)) hk
    have z6 : a6.1 67 = 0 := f67.z z
    have hj6 : ¬ a6.1 69 = 0 := by rw [w6.1.1 69 (by decide)]; exact hj
    have ha6 : act a6 := ⟨hj6, z6⟩
    have ha4 := act6 ha6
    obtain ⟨ha3, q42, q43⟩ := act4 ha4
    have ha1 := act3 ha3
    obtain ⟨ha0, q12, q13⟩ := act1 ha1
    have d3 := ((h13.2.2.2.2 ha3.2).2.2 ha1.1)
    have ha5 : act a5 := by
      have q := m5a ha4
      unfold act
      rw [q.1]; exact ha4
    have d6 := ((h56.2.2.2.2 z6).2.2 ha5.1)
    obtain ⟨r1, r2, r3⟩ := p6 ha6
    have t0 := h.tl hp
    have b6 := hb6.2.2 ha6
    have et6 : toN a6 = toN a0 := by rw [w6.1.to, h.1.to]
    have hd := diamond (g := g1) (x := s1) hs t0 (hb0.2.2 ha0).1 (by have e6 : posR a6 = 8000 * toN a6 + (a6.2.2.1 54 (toN a6)).toInt.toNat := rfl
                                                                     omega) q13 h13.1 d3.2.1 d3.2.2.2.1 d3.2.2.2.2.2 (hb3.2.2 ha3).1 q43 (m5a ha4) LF.rf h56.1 d6.2.1 d6.2.2.2.1 (fun H σ hH hE hl => d6.2.2.2.2.2 H σ hH hE (by omega)) (m7a ha6) f01 f34 f45 f67
    exact hd
  exact wp_if.mpr ⟨fun _ => e124 _, fun _ => e124 _⟩
end RTwo
