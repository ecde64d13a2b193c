/-! A run of an instance. -/
section RRuns
variable {u v w : RSt} {T N g : Nat} {o e : Int} {f : Bool} {α β : List (Int × Int)}
theorem CSw.dead (h : CSw u w T o e) (hna : ¬ act w) : CSq u w T o e g α β f := by
  obtain ⟨y1, y2, y3, y4, y5⟩ := h
  refine ⟨y1, y2, y3, y4, fun zz => ?_⟩
  obtain ⟨w1, w2, w3⟩ := y5 zz
  exact ⟨w1, w2, fun hj => absurd ⟨by rw [y1.1 69 (by decide)]; exact hj, zz⟩ hna⟩
theorem SM.ac (h : SM v w) (ha : act w) : act v := by unfold act at ha ⊢; rw [h.1] at ha; exact ha
theorem e_runs (hN : 5000000000 ≤ N) (hp : PRE u T) (ho : u.1 67 = 0 → opn u = o ∧ 0 ≤ o ∧ o ≤ 24) (h0 : 0 ≤ o) (h24 : o ≤ 24) (ht : ¬ isT (tyR u)) : wp (F_runs N u) (fun _ w => CSd u w T o (-1) 525) := by
  obtain ⟨hV, hSl, hB, hIn, -, -, -, -, t0, t1⟩ := id hp.2.1
  have hT1 := hp.1.1
  have e1 : (1 : Int32).toInt = 1 := by decide
  have e24 : (24 : Int32).toInt = 24 := by decide
  have e160 : (160 : Int32).toInt = 160 := by decide
  have z0 : (0 : Int32).toInt = 0 := by decide
  have em : (160 * u.1 56).toInt = 160 * (u.1 56).toInt := by rw [tI_mul (by rw [e160]; omega) (by rw [e160]; omega), e160]
  have em24 : (24 * u.1 56).toInt = 24 * (u.1 56).toInt := by rw [tI_mul (by rw [e24]; omega) (by rw [e24]; omega), e24]
  have hto : toN u = (u.1 56).toInt.toNat := rfl
  have c0 : CSq u u T o 0 525 [] [] false := CSq.rf hp ho
  unfold F_runs B_runs_0
  refine wp_rd.mpr ⟨hp.1.vin, ?_⟩
  generalize u.2.2.1 3 (u.1 65).toNatClampNeg = p0
  rw [wp_bn]
  refine wp_mono (x_own hN hp.2.1 hp.1) (fun r u' hr => ?_)
  obtain ⟨rfl, hr⟩ := hr
  have hr1 : r = -1 ∨ (0 ≤ r.toInt ∧ r.toInt < 24 ∧ r.toInt < (u'.2.2.1 42 (toN u')).toInt) := by
    rcases hr with z | ⟨z0', z1, z2, z3, z4, z5, z6⟩
    · exact Or.inl z
    · exact Or.inr ⟨z1, (z3 rfl).1, (z3 rfl).2⟩
  have main : ∀ s1 : Int32, (s1 = 0 → ¬ r = -1) → wp (B_runs_27 N p0 r s1 u') (fun _ w => CSd u' w T o (-1) 525) := by
    intro s1 hs1
    unfold B_runs_27
    refine c_wrong hp c0 (by decide) (fun _ x cx lx kx zx => ?_)
    refine c_cost hp cx (by omega) (by simp) (fun _ y cy sy => wp_pu.mpr ?_)
    have ty : tyR y = tyR u' := by rw [sy.t, lx.k65 kx]
    obtain ⟨cz, kz, lz⟩ := cy.on hp (by rw [ty]; exact ht)
    generalize sI y 65 (y.1 65 + 1) = z at cz kz lz ⊢
    have nb : act z → ¬ r = -1 := by
      intro ha
      have hx : act x := sy.ac (lz.ef.act ha)
      obtain ⟨-, z2 | z2⟩ := zx hx.2
      · exact hs1 z2
      · exact absurd z2 (lx.ef.act hx).1
    have e56 : z.1 56 = u'.1 56 := cz.1.1 56 (by decide)
    rw [e56]
    have hl3 : ¬ r = -1 → (24 * u'.1 56 + r).toInt = 24 * (u'.1 56).toInt + r.toInt ∧ 0 ≤ r.toInt ∧ r.toInt < 24 ∧ r.toInt < (u'.2.2.1 42 (toN u')).toInt := by
      intro q
      rcases hr1 with z | ⟨z1, z2, z3⟩
      · exact absurd z q
      · exact ⟨by rw [tI_add (by omega) (by omega), em24], z1, z2, z3⟩
    generalize h24r : 24 * u'.1 56 + r = l3 at hl3 ⊢
    -- the arguments
    have e81 : ∀ l4 : Int32, (act z → l4 = u'.2.2.1 38 l3.toNatClampNeg) → wp (B_runs_81 N p0 l3 l4 z) (fun _ w => CSd u' w T o (-1) 525) := by
      intro l4 hl4
      unfold B_runs_81
      refine c_begins hp (cz.we (e' := -4) (by omega) (Nat.le_refl _)) (by unfold isT; decide) (fun _ b cb lb kb zb => ?_)
      have cb' : CSq u' b T (o + 1) (-4) 525 [] [] false := cb.we (by omega) (Nat.le_refl _)
      clear cb
      have actb : act b → act z := fun ha => lb.ef.act ha
      have e344 : ∀ y, CSq u' y T o 4 525 [] [] false → wp (B_runs_344 N y) (fun _ w => CSd u' w T o (-1) 525) := by
        intro y cy
        unfold B_runs_344
        exact c_semi hp cy (by omega)
      have loop : ∀ (m : Int32) (bb : RSt), bb = b → wp (B_runs_115 N p0 l3 l4 0 m bb) (fun _ w => CSd u' w T o (-1) 525) := by
        intro m bb hbb
        subst hbb
        unfold B_runs_115 LP_runs_117
        have kb1 := cb'.2.2.2.1
        have kb2 := (cb'.tk hp).2.2.1
        refine wp_lp (fun (d : Nat) (x : Int32 × Int32 × Int32 × Int32 × Int32 × RSt) => x.1 = p0 ∧ x.2.1 = l3 ∧ x.2.2.1 = l4 ∧ 0 ≤ x.2.2.2.1.toInt ∧ (¬ x.2.2.2.2.1 = 0 → x.2.2.2.1.toInt ≤ kP x.2.2.2.2.2) ∧ CSw u' x.2.2.2.2.2 T (o + 1) (if x.2.2.2.2.1 = 0 then -2 else -4) ∧ (act x.2.2.2.2.2 → x.2.2.2.1.toInt ≤ (u'.2.2.1 30 l4.toNatClampNeg).toInt → CSq u' x.2.2.2.2.2 T (o + 1) (if x.2.2.2.2.1 = 0 then -2 else -4) 525 [] [] false) ∧ (act x.2.2.2.2.2 → act z) ∧ d = 2 * (T - kP x.2.2.2.2.2).toNat + (if x.2.2.2.2.1 = 0 then 0 else 1)) ?_ _ (2 * (T - kP bb).toNat + (if m = 0 then 0 else 1)) _ (by split <;> omega) ⟨rfl, rfl, rfl, by show 0 ≤ (0 : Int32).toInt; omega, fun _ => (by show (0 : Int32).toInt ≤ kP bb; omega), cb'.wk.we (by dsimp only; split <;> omega), fun _ _ => cb'.we (by dsimp only; split <;> omega) (Nat.le_refl _), actb, rfl⟩
        rintro d R ⟨m1, m2, m3, m5, m6, v⟩ ⟨q1, q2, q3, q5, q6, q7, q8, q9, q10⟩ ih
        dsimp only at q1 q2 q3 q5 q6 q7 q8 q9 q10 ⊢
        subst q1 q2 q3
        have kv1 := q7.2.2.2.1
        have kv2 := (q7.c.tk hp).2.2.1
        have bB := hB m3.toNatClampNeg
        obtain ⟨b1, b2, b3, b4, b5, b6, -⟩ := bB
        have hin := hIn m2.toNatClampNeg
        have hv4 : act z → vp_in m3 48 := by
          intro ha
          rw [hl4 ha]
          exact vin_iff.mpr ⟨hin.1, by omega⟩
        unfold B_runs_117
        refine wp_if.mpr ⟨fun q => ?_, fun q => ?_⟩
        · -- the end
          clear ih
          rw [if_pos q] at q7 q8
          refine c_ends hp q7.c (by unfold isT; decide) h0 (fun _ x2 cx2 lx2 kx2 zx2 => ?_)
          have w2 : CSw u' x2 T o (-2) := (cx2.we (e' := -2) (by omega) (Nat.le_refl _)).wk
          have a2 : act x2 → act v := fun ha => lx2.ef.act ha
          have d2 : ¬ act x2 → wp (B_runs_344 N x2) (fun _ w => CSd u' w T o (-1) 525) := fun hna => e344 _ ((w2.dead hna).we (by omega) (Nat.le_refl _))
          refine wp_if.mpr ⟨fun qj => d2 (fun ha => ha.1 qj), fun qj => wp_if.mpr ⟨fun qf => ?_, fun qf => d2 (fun ha => qf ha.2)⟩⟩
          have ha2 : act x2 := ⟨qj, qf⟩
          have hav := a2 ha2
          have haz := q9 hav
          rw [cx2.1.2.1 30 (by decide)]
          refine wp_rd.mpr ⟨hv4 haz, ?_⟩
          have e329 : ∀ s : Int32, (s = 0 → m5 = u'.2.2.1 30 m3.toNatClampNeg) → wp (B_runs_329 N m1 m2 s x2) (fun _ w => CSd u' w T o (-1) 525) := by
            intro s hs
            unfold B_runs_329
            by_cases hs0 : s = 0
            · have hm5 := hs hs0
              have cv := q8 hav (by rw [hm5]; omega)
              have cx3 : CSq u' x2 T o (-2) 525 [] [] false := (cv.lf ⟨lx2, kx2, w2.2.2.2.1⟩ (fun z => w2.c.ho z)).we (by omega) (Nat.le_refl _)
              refine c_wrong hp cx3 (by decide) (fun _ y cy ly ky zy => ?_)
              refine c_emit (γ := []) hp cy (by omega) (Nat.le_refl _) (fun w ha qm b1 b2 => ?_) (fun r y2 cy2 _ _ _ => e344 _ (cy2.we (by omega) (Nat.le_refl _)))
              obtain ⟨g1, g2, g3, g4⟩ := hl3 (nb haz)
              have ey : toN y = toN u' := cy.1.to
              exact (gn_run (f := r.toInt.toNat) qm (cy.tl hp) b1 b2 rfl (by rw [ey, cy.1.2.1 42 (by decide)]; omega) (by omega) (by rw [ey, g1]; omega) (by rw [cy.1.2.1 38 (by decide)]; exact hin.1) (by rw [cy.1.2.1 38 (by decide)]; exact hin.2.1)).ext (g1 := 525) (c1 := 1) [] (by simp) (Nat.le_refl _)
            · refine c_wrong hp w2.c (by decide) (fun _ y cy ly ky zy => ?_)
              have hna : ¬ act y := by
                intro ha
                obtain ⟨-, w2 | w2⟩ := zy ha.2
                · exact hs0 w2
                · exact qj w2
              have cy' : CSq u' y T o (-2) 525 [] [] false := cy.wk.dead hna
              exact c_emit (γ := []) hp cy' (by omega) (Nat.le_refl _) (fun w ha => absurd ha hna) (fun r y2 cy2 _ _ _ => e344 _ (cy2.we (by omega) (Nat.le_refl _)))
          exact wp_if.mpr ⟨fun qq => e329 0 (fun _ => qq), fun _ => e329 1 (fun zz => absurd zz (by decide))⟩
        · -- one more
          rw [if_neg q] at q7 q8
          have q6 := q6 q
          have el : (m5 + 1).toInt = m5.toInt + 1 := by rw [tI_add (by omega) (by omega), e1]
          have e275 : ∀ y : RSt, CSw u' y T (o + 1) (-2) → (act y → (m5 + 1).toInt ≤ (u'.2.2.1 30 m3.toNatClampNeg).toInt → CSq u' y T (o + 1) (-2) 525 [] [] false) → kP v ≤ kP y → (act y → act z) → wp (B_runs_275 N R m1 m2 m3 m5 y) (fun _ w => CSd u' w T o (-1) 525) := by
            intro y wy cy ky ay
            unfold B_runs_275
            rw [wp_bn]
            refine wp_mono (x_has (wy.c.tk hp) (by unfold isT; decide)) (fun r3 y3 hy3 => ?_)
            rcases hy3 with ⟨rr, y1, y2, y3', y4, y5⟩ | ⟨rr, rfl, -⟩
            · have hop : y3.1 67 = 0 → opn y3 = o + 1 ∧ 0 ≤ o + 1 ∧ o + 1 ≤ 24 := by
                intro zz
                have := wy.c.ho y1
                unfold opn at this ⊢
                rw [y5]; exact this
              have hr3 : ¬ r3 = 0 := by rw [rr]; decide
              have a1 : CSw u' y3 T (o + 1) (-4) := (wy.lf y3' hop).we (by omega)
              have k3 := a1.2.2.2.1
              refine ih (2 * (T - kP y3).toNat + (if r3 = 0 then 0 else 1)) (m1, m2, m3, m5 + 1, r3, y3) ?_ ⟨rfl, rfl, rfl, by show 0 ≤ (m5 + 1).toInt; omega, fun _ => (by show (m5 + 1).toInt ≤ kP y3; omega), by dsimp only; rw [if_neg hr3]; exact a1, fun ha h6 => ?_, fun ha => ay (y3'.1.ef.act ha), rfl⟩
              · rw [q10, if_neg q]
                split <;> omega
              · dsimp only
                rw [if_neg hr3]
                exact ((cy (y3'.1.ef.act ha) h6).lf y3' hop).we (by omega) (Nat.le_refl _)
            · have k3 := wy.2.2.2.1
              refine ih (2 * (T - kP y3).toNat + (if r3 = 0 then 0 else 1)) (m1, m2, m3, m5 + 1, r3, y3) ?_ ⟨rfl, rfl, rfl, by show 0 ≤ (m5 + 1).toInt; omega, fun zz => absurd rr zz, by dsimp only; rw [if_pos rr]; exact wy, by dsimp only; rw [if_pos rr]; exact cy, ay, rfl⟩
              rw [q10, if_neg q, if_pos rr]
              omega
          have e152 : (act v → (u'.2.2.1 30 m3.toNatClampNeg).toInt ≤ m5.toInt) → wp (B_runs_152 N R m1 m2 m3 m5 v) (fun _ w => CSd u' w T o (-1) 525) := by
            intro hmany
            unfold B_runs_152 B_runs_153
            rw [if_pos rfl]
            unfold B_runs_183
            rw [if_pos rfl]
            unfold B_runs_215
            refine wp_rd.mpr ⟨(q7.c.tk hp).vin, ?_⟩
            rw [wp_bn]
            refine wp_mono (x_expression hN (by omega) (by omega) (q7.c.pre hp (by omega)) (fun zz => q7.c.ho zz)) (fun r x2 h2 => ?_)
            rw [if_pos rfl]
            exact e275 _ ((q7.sub h2).we (by omega)) (fun ha h6 => by have := hmany (h2.1.act ha); omega) h2.2.2.1 (fun ha => q9 (h2.1.act ha))
          refine wp_if.mpr ⟨fun qj => e152 (fun ha => absurd qj ha.1), fun qj => wp_if.mpr ⟨fun qf => ?_, fun qf => e152 (fun ha => absurd ha.2 qf)⟩⟩
          have hav : act v := ⟨qj, qf⟩
          have haz := q9 hav
          rw [q7.1.2.1 30 (by decide)]
          refine wp_rd.mpr ⟨hv4 haz, wp_if.mpr ⟨fun qn => e152 (fun _ => Int32.le_iff_toInt_le.mp qn), fun qn => ?_⟩⟩
          have qn1 := Int32.lt_iff_toInt_lt.mp (Int32.not_le.mp qn)
          have cv := q8 hav (by omega)
          unfold B_runs_153
          rw [if_neg (by decide), q7.1.2.1 28 (by decide), q7.1.1 56 (by decide)]
          refine wp_rd.mpr ⟨hv4 haz, ?_⟩
          have ea : (160 * u'.1 56 + u'.2.2.1 28 m3.toNatClampNeg).toInt = 160 * (u'.1 56).toInt + (u'.2.2.1 28 m3.toNatClampNeg).toInt := by rw [tI_add (by omega) (by omega), em]
          have eb : (160 * u'.1 56 + u'.2.2.1 28 m3.toNatClampNeg + m5).toInt = 160 * (u'.1 56).toInt + (u'.2.2.1 28 m3.toNatClampNeg).toInt + m5.toInt := by rw [tI_add (by omega) (by omega), ea]
          generalize 160 * u'.1 56 + u'.2.2.1 28 m3.toNatClampNeg + m5 = sl at eb ⊢
          have hsl : vp_in sl 320 := vin_iff.mpr ⟨by omega, by omega⟩
          obtain ⟨s1, s2, s3, s4, s5, s6⟩ := hSl sl.toNatClampNeg
          unfold B_runs_183
          rw [if_neg (by decide), q7.1.2.1 39 (by decide), q7.1.2.1 23 (by decide)]
          obtain ⟨g1, g2, g3, g4⟩ := hl3 (nb haz)
          have hvl3 : vp_in m2 48 := vin_iff.mpr ⟨by omega, by omega⟩
          refine wp_rd.mpr ⟨hvl3, wp_rd.mpr ⟨hsl, ?_⟩⟩
          have epl : (u'.2.2.1 39 m2.toNatClampNeg + u'.2.2.1 23 sl.toNatClampNeg).toInt = (u'.2.2.1 39 m2.toNatClampNeg).toInt + (u'.2.2.1 23 sl.toNatClampNeg).toInt := by
            have := hin.2.2.1
            have := hin.2.2.2
            rw [tI_add (by omega) (by omega)]
          have hin3 := hin.2.2.1
          have hin4 := hin.2.2.2
          generalize u'.2.2.1 39 m2.toNatClampNeg + u'.2.2.1 23 sl.toNatClampNeg = pl at epl ⊢
          refine c_emit (γ := [(pl.toInt, pl.toInt)]) hp cv (by omega) (Nat.le_refl _) (fun w ha qm b1 b2 => ?_) (fun r y cy sy _ _ => ?_)
          · exact (gn_place qm (cv.tl hp) b1 b2 rfl).ext (g1 := 525) (c1 := 1) [] (by simp) (Nat.le_refl _)
          have ay : act y → act z := fun ha => q9 (sy.ac ha)
          unfold B_runs_215
          refine wp_rd.mpr ⟨(cy.tk hp).vin, ?_⟩
          refine c_exp hN (by omega) (by omega) hp cy (by omega) (Nat.le_refl _) (by simp) (fun r y2 cy2 ef2 ky2 => ?_)
          rw [if_neg (by decide), cy2.1.2.1 20 (by decide)]
          refine wp_rd.mpr ⟨hsl, ?_⟩
          rw [wp_bn]
          refine wp_mono x_isTooWide (fun r5 x5 hx5 => ?_)
          obtain ⟨rfl, -⟩ := hx5
          refine c_wrong hp cy2 (by decide) (fun _ y3 cy3 ly3 ky3 zy3 => ?_)
          rw [cy3.1.2.1 20 (by decide)]
          refine wp_rd.mpr ⟨hsl, ?_⟩
          refine c_emit (γ := []) hp cy3 (by omega) (Nat.le_refl _) (fun w ha qm b1 b2 => ?_) (fun r y4 cy4 sy4 _ _ => ?_)
          · exact (gn_put (s := nT) (t := (pl.toInt, pl.toInt)) qm (cy3.tl hp) b1 b2 rfl ⟨s1, s2, Or.inl ⟨by show 0 ≤ pl.toInt; omega, by show pl.toInt < 3000; omega⟩⟩).ext (g1 := 525) (c1 := 1) [] (by simp) (Nat.le_refl _)
          · have k4 : kP y4 = kP y3 := sy4.k
            have k3 : kP y3 = kP x5 := by unfold kP; rw [ky3]
            have k1 : kP y = kP v := sy.k
            have cy5 := cy4.we (e' := -2) (by omega) (Nat.le_refl _)
            exact e275 _ cy5.wk (fun _ _ => cy5) (by omega) (fun ha => ay (ef2.act (ly3.ef.act (sy4.ac ha))))
      refine wp_if.mpr ⟨fun _ => ?_, fun _ => ?_⟩
      · rw [wp_bn]
        refine wp_mono (x_is (cb'.tk hp)) (fun r b' hb' => ?_)
        obtain ⟨rfl, -⟩ := hb'
        refine wp_if.mpr ⟨fun _ => loop _ _ rfl, fun _ => ?_⟩
        unfold B_runs_114
        exact loop _ _ rfl
      · unfold B_runs_114
        exact loop _ _ rfl
    have e80 : ¬ act z → wp (B_runs_80 N p0 l3 z) (fun _ w => CSd u' w T o (-1) 525) := by
      intro hna
      unfold B_runs_80
      exact e81 0 (fun ha => absurd ha hna)
    refine wp_if.mpr ⟨fun qj => e80 (fun ha => ha.1 qj), fun qj => wp_if.mpr ⟨fun qf => ?_, fun qf => e80 (fun ha => qf ha.2)⟩⟩
    have haz : act z := ⟨qj, qf⟩
    obtain ⟨g1, g2, g3, g4⟩ := hl3 (nb haz)
    rw [cz.1.2.1 38 (by decide)]
    exact wp_rd.mpr ⟨vin_iff.mpr ⟨by omega, by omega⟩, e81 _ (fun _ => rfl)⟩
  exact wp_if.mpr ⟨fun _ => main 1 (fun z => absurd z (by decide)), fun q => main 0 (fun _ => q)⟩
end RRuns
