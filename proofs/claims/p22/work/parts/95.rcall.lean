/-! A call, in the reference. -/
section RCall
variable {u v w : RSt} {T N g g1 : Nat} {o e : Int} {f : Bool} {ro : Nat → Int32 → Int32 → RSt → Option (Int32 × RSt)} {α β : List (Int × Int)}
theorem e_call (hN : 5000000000 ≤ N) (hp : PRE u T) (ho : u.1 67 = 0 → opn u = o ∧ 0 ≤ o ∧ o ≤ 24) (h0 : 0 ≤ o) (ht : ¬ isT (tyR u)) (hX : HXr ro T 0 0 (o + 1) g1) (hg1 : g1 + 7 ≤ g) : wp (F_call N ro u) (fun _ w => CSq u w T o 0 g [] [nT] true) := by
  obtain ⟨hV, hSl, hB, hIn, -, -, -, -, t0, t1⟩ := id hp.2.1
  have hT1 := hp.1.1
  have hk0 := hp.1.2.2.1
  have hkT := hp.1.2.2.2
  have e1 : (1 : Int32).toInt = 1 := by decide
  have e2 : (2 : Int32).toInt = 2 := by decide
  have e4 : (4 : Int32).toInt = 4 := by decide
  have e8 : (8 : Int32).toInt = 8 := by decide
  have e24 : (24 : Int32).toInt = 24 := by decide
  have e160 : (160 : Int32).toInt = 160 := by decide
  have z0 : (0 : Int32).toInt = 0 := by decide
  have em : (160 * u.1 56).toInt = 160 * (u.1 56).toInt := by rw [tI_mul (by rw [e160]; omega) (by rw [e160]; omega), e160]
  have em24 : (24 * u.1 56).toInt = 24 * (u.1 56).toInt := by rw [tI_mul (by rw [e24]; omega) (by rw [e24]; omega), e24]
  have c0 : CSq u u T o 0 g [] [] false := CSq.rf hp ho
  have huv : vp_in (u.1 65) 1502 := hp.1.vin
  have hto : toN u = (u.1 56).toInt.toNat := rfl
  -- what own told
  have main : ∀ (l2 l3 s1 : Int32), (l2 = -1 ∨ (¬ u.1 69 = 0 ∧ 0 ≤ l2.toInt ∧ l2.toInt < 16 ∧ l2.toInt < (u.2.2.1 37 (toN u)).toInt)) → (l3 = -1 ∨ (0 ≤ l3.toInt ∧ l3.toInt < 8)) → (s1 = 0 → ¬ (l2 = -1 ∧ l3 = -1)) → wp (B_call_33 N ro (u.1 65) l2 l3 s1 u) (fun _ w => CSq u w T o 0 g [] [nT] true) := by
    intro l2 l3 s1 hl2 hl3 hs1
    -- the index of the function
    have hp4 : ¬ l2 = -1 → ((24 * u.1 56 + 8) + l2).toInt = 24 * (u.1 56).toInt + 8 + l2.toInt ∧ 0 ≤ ((24 * u.1 56 + 8) + l2).toInt ∧ ((24 * u.1 56 + 8) + l2).toInt < 48 := by
      intro q
      rcases hl2 with z | ⟨-, z1, z2, -⟩
      · exact absurd z q
      · have a1 : (24 * u.1 56 + 8).toInt = 24 * (u.1 56).toInt + 8 := by rw [tI_add (by omega) (by omega), em24, e8]
        have a2 : ((24 * u.1 56 + 8) + l2).toInt = 24 * (u.1 56).toInt + 8 + l2.toInt := by rw [tI_add (by omega) (by omega), a1]
        exact ⟨a2, by omega, by omega⟩
    generalize hl4 : (24 * u.1 56 + 8) + l2 = l4 at hp4
    unfold B_call_33
    refine wp_rd.mpr ⟨hp.1.vin, ?_⟩
    refine c_wrong hp c0 (by decide) (fun _ x cx lx kx zx => ?_)
    refine wp_rd.mpr ⟨(cx.tk hp).vin, ?_⟩
    refine c_cost0 hp cx (by omega) (by simp) lx.pos (fun _ y cy sy => wp_pu.mpr ?_)
    have ty : tyR y = tyR u := by rw [sy.t, lx.k65 kx]
    obtain ⟨cz, kz, lz⟩ := cy.on hp (by rw [ty]; exact ht)
    generalize sI y 65 (y.1 65 + 1) = z at cz kz lz ⊢
    -- both NONE: a fault stands
    have nb : act z → ¬ (l2 = -1 ∧ l3 = -1) := by
      intro ha
      have hy := lz.ef.act ha
      have hx : act x := by unfold act at hy ⊢; rw [sy.1] at hy; exact hy
      obtain ⟨-, z2 | z2⟩ := zx hx.2
      · exact hs1 z2
      · exact absurd z2 (lx.ef.act hx).1
    have e56 : z.1 56 = u.1 56 := cz.1.1 56 (by decide)
    refine c_begins hp (cz.we (e' := -4) (by omega) (Nat.le_refl _)) (by unfold isT; decide) (fun _ b cb lb kb zb => ?_)
    have cb' : CSq u b T (o + 1) (-4) g [] [] true := cb.we (by omega) (Nat.le_refl _)
    clear cb
    have actb : act b → act z := fun ha => lb.ef.act ha
    rw [e56, hl4]
    -- the loop
    have loop : ∀ (m : Int32) (bb : RSt), bb = b → wp (B_call_121 N ro (u.1 65) l2 l3 l4 0 3 3 m bb) (fun _ w => CSq u w T o 0 g [] [nT] true) := by
      intro m bb hbb
      subst hbb
      unfold B_call_121 LP_call_123
      have kb1 := cb'.2.2.2.1
      have kb2 := (cb'.tk hp).2.2.1
      refine wp_lp (fun (d : Nat) (x : Int32 × Int32 × Int32 × Int32 × Int32 × Int32 × Int32 × Int32 × RSt) => x.1 = u.1 65 ∧ x.2.1 = l2 ∧ x.2.2.1 = l3 ∧ x.2.2.2.1 = l4 ∧ 0 ≤ x.2.2.2.2.1.toInt ∧ (¬ x.2.2.2.2.2.2.2.1 = 0 → x.2.2.2.2.1.toInt ≤ kP x.2.2.2.2.2.2.2.2) ∧ CSw u x.2.2.2.2.2.2.2.2 T (o + 1) (-4) ∧ (x.2.2.2.2.1.toInt ≤ 6 → CSq u x.2.2.2.2.2.2.2.2 T (o + 1) (-4) g [] (List.replicate x.2.2.2.2.1.toInt.toNat nT) true) ∧ (act x.2.2.2.2.2.2.2.2 → ¬ (l2 = -1 ∧ l3 = -1)) ∧ d = 2 * (T - kP x.2.2.2.2.2.2.2.2).toNat + (if x.2.2.2.2.2.2.2.1 = 0 then 0 else 1)) ?_ _ (2 * (T - kP bb).toNat + (if m = 0 then 0 else 1)) _ (by split <;> omega) ⟨rfl, rfl, rfl, rfl, by show 0 ≤ (0 : Int32).toInt; omega, fun _ => (by show (0 : Int32).toInt ≤ kP bb; omega), cb'.wk, fun _ => by show CSq u bb T (o + 1) (-4) g [] (List.replicate (0 : Int32).toInt.toNat nT) true; rw [z0]; exact cb', fun ha => nb (actb ha), rfl⟩
      rintro d R ⟨m1, m2, m3, m4, m5, m6, m7, m8, v⟩ ⟨q1, q2, q3, q4, q5, q6, q7, q8, q9, q10⟩ ih
      dsimp only at q1 q2 q3 q4 q5 q6 q7 q8 q9 q10 ⊢
      subst q1 q2 q3 q4
      have kv1 := q7.2.2.2.1
      have kv2 := (q7.c.tk hp).2.2.1
      unfold B_call_123
      refine wp_if.mpr ⟨fun q => ?_, fun q => ?_⟩
      · -- the end of the call
        clear ih
        by_cases h6 : m5.toInt ≤ 6
        · have cv := q8 h6
          refine c_ends hp cv (by unfold isT; decide) h0 (fun _ x2 cx2 lx2 kx2 zx2 => wp_pu.mpr ?_)
          have cx3 := (cx2.we (e' := -4) (by omega) (Nat.le_refl _)).tell (j := 78) (x := 0) (Or.inl rfl)
          have a3 : act (sI x2 78 0) → act v := fun ha => lx2.ef.act ha
          generalize sI x2 78 0 = x3 at cx3 a3 ⊢
          have dead : ¬ act x3 → CSq u x3 T o 0 g [] [nT] true := by
            intro hna
            obtain ⟨y1, y2, y3, y4, y5⟩ := cx3
            refine ⟨y1, y2, y3, y4, fun zz => ?_⟩
            obtain ⟨w1, w2, w3⟩ := y5 zz
            exact ⟨w1, w2, fun hj => absurd ⟨by rw [y1.1 69 (by decide)]; exact hj, zz⟩ hna⟩
          refine wp_if.mpr ⟨fun qj => wp_some.mpr (dead (fun ha => ha.1 qj)), fun qj => wp_if.mpr ⟨fun qf => ?_, fun qf => wp_some.mpr (dead (fun ha => qf ha.2))⟩⟩
          have ha3 : act x3 := ⟨qj, qf⟩
          have hav := a3 ha3
          refine wp_if.mpr ⟨fun ql => ?_, fun ql => ?_⟩
          · -- one of the eight
            have hl3' : 0 ≤ m3.toInt ∧ m3.toInt < 8 := by
              rcases hl3 with zz | zz
              · exact absurd ⟨ql, zz⟩ (q9 hav)
              · exact zz
            have e400 : ∀ (s3 l9 : Int32) (y : RSt) (n : Nat), CSq u y T o (-4) g [] (List.replicate n nT) true → (act y → (n = 1 ∧ ¬ (1 ≤ m3.toInt ∧ m3.toInt ≤ 4)) ∨ (n = 2 ∧ 1 ≤ m3.toInt ∧ m3.toInt ≤ 4)) → wp (B_call_400 N ro m3 l9 30 m3 s3 y) (fun _ w => CSq u w T o 0 g [] [nT] true) := by
              intro s3 l9 y n cy hn
              unfold B_call_400
              refine c_emit (γ := [nT]) hp cy (by omega) (Nat.le_refl _) (fun w ha qm b1 b2 => ?_) (fun r y2 cy2 _ _ _ => ?_)
              · rcases hn ha with ⟨rfl, hh⟩ | ⟨rfl, hh⟩
                · have := (gn_spec1 (t := nT) qm (cy.tl hp) b1 b2 rfl hh).ext (g1 := g) (c1 := 1) [] (by simp; omega) (Nat.le_refl _)
                  simpa using this
                · have := (gn_spec2 (s := nT) (t := nT) qm (cy.tl hp) b1 b2 rfl hh.1 hh.2).ext (g1 := g) (c1 := 1) [] (by simp; omega) (Nat.le_refl _)
                  simpa using this
              · have cy3 := cy2.we (e' := 0) (by omega) (Nat.le_refl _)
                exact wp_if.mpr ⟨fun _ => wp_some.mpr cy3, fun _ => wp_if.mpr ⟨fun _ => wp_some.mpr cy3, fun _ => wp_some.mpr cy3⟩⟩
            have e384 : ∀ (s0 : Int32) (y : RSt) (n : Nat), CSq u y T o (-4) g [] (List.replicate n nT) true → (act y → (n = 1 ∧ ¬ (1 ≤ m3.toInt ∧ m3.toInt ≤ 4)) ∨ (n = 2 ∧ 1 ≤ m3.toInt ∧ m3.toInt ≤ 4)) → wp (B_call_384 N ro m3 s0 y) (fun _ w => CSq u w T o 0 g [] [nT] true) := by
              intro s0 y n cy hn
              unfold B_call_384
              exact wp_if.mpr ⟨fun _ => e400 _ _ _ _ cy hn, fun _ => e400 _ _ _ _ cy hn⟩
            have e347 : ∀ s : Int32, (s = 0 → (m5.toInt = 1 ∧ ¬ (1 ≤ m3.toInt ∧ m3.toInt ≤ 4)) ∨ (m5.toInt = 2 ∧ 1 ≤ m3.toInt ∧ m3.toInt ≤ 4)) → wp (B_call_347 N ro (u.1 65) m3 m6 m7 s x3) (fun _ w => CSq u w T o 0 g [] [nT] true) := by
              intro s hs
              unfold B_call_347
              refine wp_rd.mpr ⟨huv, ?_⟩
              refine c_wrong hp cx3 (by decide) (fun _ y cy ly ky zy => ?_)
              have hn : act y → (m5.toInt.toNat = 1 ∧ ¬ (1 ≤ m3.toInt ∧ m3.toInt ≤ 4)) ∨ (m5.toInt.toNat = 2 ∧ 1 ≤ m3.toInt ∧ m3.toInt ≤ 4) := by
                intro ha
                obtain ⟨-, w2 | w2⟩ := zy ha.2
                · rcases hs w2 with r | r
                  · exact Or.inl ⟨by omega, r.2⟩
                  · exact Or.inr ⟨by omega, r.2⟩
                · exact absurd w2 (ly.ef.act ha).1
              have b379 : wp (B_call_379 N ro m3 y) (fun _ w => CSq u w T o 0 g [] [nT] true) := by
                unfold B_call_379
                exact e384 _ _ _ cy hn
              have b383 : wp (B_call_383 N ro m3 y) (fun _ w => CSq u w T o 0 g [] [nT] true) := by
                unfold B_call_383
                exact e384 _ _ _ cy hn
              have b373 : wp (B_call_373 N ro m3 m7 y) (fun _ w => CSq u w T o 0 g [] [nT] true) := by
                unfold B_call_373
                exact wp_if.mpr ⟨fun _ => b379, fun _ => b383⟩
              exact wp_if.mpr ⟨fun _ => b379, fun _ => wp_if.mpr ⟨fun _ => b373, fun _ => wp_if.mpr ⟨fun _ => b373, fun _ => b383⟩⟩⟩
            have e339 : ∀ s2 : Int32, (m5 = s2 → (m5.toInt = 1 ∧ ¬ (1 ≤ m3.toInt ∧ m3.toInt ≤ 4)) ∨ (m5.toInt = 2 ∧ 1 ≤ m3.toInt ∧ m3.toInt ≤ 4)) → wp (B_call_339 N ro (u.1 65) m3 m6 m7 m5 s2 x3) (fun _ w => CSq u w T o 0 g [] [nT] true) := by
              intro s2 hs
              unfold B_call_339
              exact wp_if.mpr ⟨fun qq => e347 0 (fun _ => hs qq), fun _ => e347 1 (fun zz => absurd zz (by decide))⟩
            unfold B_call_334
            refine wp_if.mpr ⟨fun qe => e339 1 (fun zz => Or.inl ⟨by rw [zz]; exact e1, by rw [qe, z0]; omega⟩), fun qe => wp_if.mpr ⟨fun qe4 => e339 2 (fun zz => Or.inr ⟨by rw [zz]; exact e2, ?_, ?_⟩), fun qe4 => e339 1 (fun zz => Or.inl ⟨by rw [zz]; exact e1, ?_⟩)⟩⟩
            · have : ¬ m3.toInt = 0 := fun y => qe (tI_eq.mpr (by rw [y, z0]))
              omega
            · have := Int32.le_iff_toInt_le.mp qe4
              omega
            · have := Int32.lt_iff_toInt_lt.mp (Int32.not_le.mp qe4)
              omega
          · -- a function of the text
            obtain ⟨p1, p2, p3⟩ := hp4 ql
            have hv4 : vp_in m4 48 := vin_iff.mpr ⟨p2, by omega⟩
            have hf : ¬ u.1 69 = 0 ∧ 0 ≤ m2.toInt ∧ m2.toInt < 16 ∧ m2.toInt < (u.2.2.1 37 (toN u)).toInt := by
              rcases hl2 with zz | zz
              · exact absurd zz ql
              · exact zz
            have e288 : ∀ s : Int32, (s = 0 → m5 = u.2.2.1 30 m4.toNatClampNeg) → wp (B_call_288 N ro (u.1 65) m4 s x3) (fun _ w => CSq u w T o 0 g [] [nT] true) := by
              intro s hs
              unfold B_call_288
              refine wp_rd.mpr ⟨huv, ?_⟩
              refine c_wrong hp cx3 (by decide) (fun _ y cy ly ky zy => wp_rd.mpr ⟨huv, ?_⟩)
              refine c_emit (γ := [nT]) hp cy (by omega) (Nat.le_refl _) (fun w ha qm b1 b2 => ?_) (fun r y2 cy2 _ _ _ => ?_)
              · have hs0 : s = 0 := by
                  obtain ⟨-, w2 | w2⟩ := zy ha.2
                  · exact w2
                  · exact absurd w2 (ly.ef.act ha).1
                have hm5 := hs hs0
                have ey : toN y = toN u := cy.1.to
                have := (gn_call (as := List.replicate m5.toInt.toNat nT) (f := m2.toInt.toNat) qm (cy.tl hp) b1 b2 rfl (by rw [ey, cy.1.2.1 37 (by decide)]; omega) (by omega) (by rw [ey, p1]; omega) (by rw [List.length_replicate, cy.1.2.1 30 (by decide), ← hm5]; omega)).ext (g1 := g) (c1 := 1) [] (by rw [List.length_replicate, List.length_nil]; omega) (Nat.le_refl _)
                simpa using this
              · exact wp_rd.mpr ⟨hv4, wp_some.mpr (cy2.we (by omega) (Nat.le_refl _))⟩
            rw [cx3.1.2.1 30 (by decide)]
            exact wp_rd.mpr ⟨hv4, wp_if.mpr ⟨fun qq => e288 0 (fun _ => qq), fun _ => e288 1 (fun zz => absurd zz (by decide))⟩⟩
        · -- too many: a fault comes
          refine c_ends hp q7.c (by unfold isT; decide) h0 (fun _ x2 cx2 lx2 kx2 zx2 => wp_pu.mpr ?_)
          have cx3 := (cx2.we (e' := -4) (by omega) (Nat.le_refl _)).tell (j := 78) (x := 0) (Or.inl rfl)
          generalize sI x2 78 0 = x3 at cx3 ⊢
          have dead : ∀ y : RSt, CSq u y T o (-4) 700 [] [] false → ¬ act y → CSq u y T o 0 g [] [nT] true := by
            intro y cy hna
            obtain ⟨y1, y2, y3, y4, y5⟩ := cy
            refine ⟨y1, y2, y3, y4, fun zz => ?_⟩
            obtain ⟨w1, w2, w3⟩ := y5 zz
            exact ⟨w1, w2, fun hj => absurd ⟨by rw [y1.1 69 (by decide)]; exact hj, zz⟩ hna⟩
          -- nothing is put any more
          have noem : ∀ {y : RSt} {a b c : Int32} {k : Int32 → RSt → Option (Int32 × RSt)}, ¬ act y → CSq u y T o (-4) 700 [] [] false → (∀ r, wp (k r y) (fun _ w => CSq u w T o 0 g [] [nT] true)) → wp (bn (F_emit N a b c y) k) (fun _ w => CSq u w T o 0 g [] [nT] true) := by
            intro y a b c k hna cy hk
            rw [wp_bn]
            refine wp_mono (r_emit (cy.bnd hp (by omega))) (fun r w hw => ?_)
            rcases hw with ⟨-, rfl⟩ | ⟨hh, -⟩
            · exact hk r
            · exact absurd hh hna
          refine wp_if.mpr ⟨fun qj => wp_some.mpr (dead _ cx3 (fun ha => ha.1 qj)), fun qj => wp_if.mpr ⟨fun qf => ?_, fun qf => wp_some.mpr (dead _ cx3 (fun ha => qf ha.2))⟩⟩
          have b347 : wp (B_call_347 N ro (u.1 65) m3 m6 m7 1 x3) (fun _ w => CSq u w T o 0 g [] [nT] true) := by
            unfold B_call_347
            refine wp_rd.mpr ⟨huv, ?_⟩
            refine c_wrong hp cx3 (by decide) (fun _ y cy ly ky zy => ?_)
            have hna : ¬ act y := by
              intro ha
              obtain ⟨-, w2 | w2⟩ := zy ha.2
              · exact absurd w2 (by decide)
              · exact qj w2
            have b384 : ∀ s0 : Int32, wp (B_call_384 N ro m3 s0 y) (fun _ w => CSq u w T o 0 g [] [nT] true) := by
              intro s0
              unfold B_call_384 B_call_400
              have fin : ∀ l9 : Int32, wp (if l9 = (0 : Int32) then (some ((3 : Int32), y)) else (if (6 : Int32) ≤ m3 then (some (3, y)) else (some (4, y)))) (fun _ w => CSq u w T o 0 g [] [nT] true) := fun l9 => wp_if.mpr ⟨fun _ => wp_some.mpr (dead _ cy hna), fun _ => wp_if.mpr ⟨fun _ => wp_some.mpr (dead _ cy hna), fun _ => wp_some.mpr (dead _ cy hna)⟩⟩
              exact wp_if.mpr ⟨fun _ => noem hna cy (fun _ => fin _), fun _ => noem hna cy (fun _ => fin _)⟩
            unfold B_call_379 B_call_373 B_call_379 B_call_383
            exact wp_if.mpr ⟨fun _ => b384 _, fun _ => wp_if.mpr ⟨fun _ => wp_if.mpr ⟨fun _ => b384 _, fun _ => b384 _⟩, fun _ => wp_if.mpr ⟨fun _ => wp_if.mpr ⟨fun _ => b384 _, fun _ => b384 _⟩, fun _ => b384 _⟩⟩⟩
          have b339 : ∀ s2 : Int32, (s2 = 1 ∨ s2 = 2) → wp (B_call_339 N ro (u.1 65) m3 m6 m7 m5 s2 x3) (fun _ w => CSq u w T o 0 g [] [nT] true) := by
            intro s2 hs2
            unfold B_call_339
            refine wp_if.mpr ⟨fun qq => ?_, fun _ => b347⟩
            rcases hs2 with zz | zz <;> (rw [qq, zz] at h6; exact absurd (by decide) h6)
          unfold B_call_334
          refine wp_if.mpr ⟨fun ql => wp_if.mpr ⟨fun _ => b339 _ (Or.inl rfl), fun _ => wp_if.mpr ⟨fun _ => b339 _ (Or.inr rfl), fun _ => b339 _ (Or.inl rfl)⟩⟩, fun ql => ?_⟩
          obtain ⟨p1, p2, p3⟩ := hp4 ql
          have hv4 : vp_in m4 48 := vin_iff.mpr ⟨p2, by omega⟩
          rw [cx3.1.2.1 30 (by decide)]
          refine wp_rd.mpr ⟨hv4, wp_if.mpr ⟨fun qq => ?_, fun _ => ?_⟩⟩
          · obtain ⟨-, -, -, -, b5, -⟩ := hB m4.toNatClampNeg
            rw [qq] at h6
            exact absurd b5 h6
          · unfold B_call_288
            refine wp_rd.mpr ⟨huv, ?_⟩
            refine c_wrong hp cx3 (by decide) (fun _ y cy ly ky zy => wp_rd.mpr ⟨huv, ?_⟩)
            have hna : ¬ act y := by
              intro ha
              obtain ⟨-, w2 | w2⟩ := zy ha.2
              · exact absurd w2 (by decide)
              · exact qj w2
            exact noem hna cy (fun _ => wp_rd.mpr ⟨hv4, wp_some.mpr (dead _ cy hna)⟩)
      · -- one more
        have q6 := q6 q
        refine wp_rd.mpr ⟨(q7.c.tk hp).vin, ?_⟩
        rw [wp_bn]
        refine wp_mono (hX v (q7.c.pre hp (by omega)) (fun zz => q7.c.ho zz)) (fun r x2 h2 => ?_)
        have w2 : CSw u x2 T (o + 1) (-4) := (q7.sub h2).we (by omega)
        have k2 := h2.2.2.1
        have el : (m5 + 1).toInt = m5.toInt + 1 := by rw [tI_add (by omega) (by omega), e1]
        have c2 : (m5 + 1).toInt ≤ 6 → CSq u x2 T (o + 1) (-4) g [] (List.replicate (m5 + 1).toInt.toNat nT) true := by
          intro h6
          have cv := q8 (by omega)
          have := CSq.sub (g' := g) cv (h2.ext (g' := g1 + m5.toInt.toNat) (List.replicate m5.toInt.toNat nT) (by simp)) (Nat.le_refl _) (by omega)
          have e3 : (m5 + 1).toInt.toNat = m5.toInt.toNat + 1 := by omega
          rw [e3, List.replicate_succ]
          exact this.we (by omega) (Nat.le_refl _)
        have b206 : ∀ (a : Int32) (y : RSt), CSw u y T (o + 1) (-4) → ((m5 + 1).toInt ≤ 6 → CSq u y T (o + 1) (-4) g [] (List.replicate (m5 + 1).toInt.toNat nT) true) → kP v ≤ kP y → (act y → act v) → wp (B_call_206 N ro R (u.1 65) m2 m3 m4 m5 m6 m7 a y) (fun _ w => CSq u w T o 0 g [] [nT] true) := by
          intro a y wy cy ky ay
          have b222 : ∀ a b : Int32, wp (B_call_222 N ro R (u.1 65) m2 m3 m4 m5 a b y) (fun _ w => CSq u w T o 0 g [] [nT] true) := by
            intro a b
            unfold B_call_222
            rw [wp_bn]
            refine wp_mono (x_has (wy.c.tk hp) (by unfold isT; decide)) (fun r3 y3 hy3 => ?_)
            rcases hy3 with ⟨rr, y1, y2, y3', y4, y5⟩ | ⟨rr, rfl, -⟩
            · have a1 : CSw u y3 T (o + 1) (-4) := (wy.lf y3' (fun zz => by
                have := wy.c.ho y1
                unfold opn at this ⊢
                rw [y5]; exact this)).we (by omega)
              have k3 := a1.2.2.2.1
              refine ih (2 * (T - kP y3).toNat + (if r3 = 0 then 0 else 1)) (u.1 65, m2, m3, m4, m5 + 1, a, b, r3, y3) ?_ ⟨rfl, rfl, rfl, rfl, by show 0 ≤ (m5 + 1).toInt; omega, fun _ => (by show (m5 + 1).toInt ≤ kP y3; omega), a1, fun h6 => ?_, fun ha => q9 (ay (y3'.1.ef.act ha)), rfl⟩
              · rw [q10, if_neg q]
                split <;> omega
              · exact ((cy h6).lf y3' (fun zz => by
                  have := wy.c.ho y1
                  unfold opn at this ⊢
                  rw [y5]; exact this)).we (by omega) (Nat.le_refl _)
            · have k3 := wy.2.2.2.1
              refine ih (2 * (T - kP y3).toNat + (if r3 = 0 then 0 else 1)) (u.1 65, m2, m3, m4, m5 + 1, a, b, r3, y3) ?_ ⟨rfl, rfl, rfl, rfl, by show 0 ≤ (m5 + 1).toInt; omega, ?_, wy, cy, fun ha => q9 (ay ha), rfl⟩
              · rw [q10, if_neg q, if_pos rr]
                omega
              · exact fun zz => absurd rr zz
          unfold B_call_206
          exact wp_if.mpr ⟨fun _ => b222 _ _, fun _ => b222 _ _⟩
        have a2 : act x2 → act v := fun ha => h2.1.act ha
        refine wp_if.mpr ⟨fun _ => b206 _ _ w2 c2 k2 a2, fun qj => wp_if.mpr ⟨fun _ => b206 _ _ w2 c2 k2 a2, fun ql => ?_⟩⟩
        obtain ⟨p1, p2, p3⟩ := hp4 ql
        have hv4 : vp_in m4 48 := vin_iff.mpr ⟨p2, by omega⟩
        rw [w2.1.2.1 30 (by decide), w2.1.2.1 28 (by decide), w2.1.1 56 (by decide)]
        refine wp_rd.mpr ⟨hv4, wp_if.mpr ⟨fun _ => b206 _ _ w2 c2 k2 a2, fun qn => wp_rd.mpr ⟨hv4, ?_⟩⟩⟩
        have qn1 := Int32.lt_iff_toInt_lt.mp (Int32.not_le.mp qn)
        obtain ⟨f1, f2, f3, f4, f5, f6, -⟩ := hB m4.toNatClampNeg
        have ea : (160 * u.1 56 + u.2.2.1 28 m4.toNatClampNeg).toInt = 160 * (u.1 56).toInt + (u.2.2.1 28 m4.toNatClampNeg).toInt := by rw [tI_add (by omega) (by omega), em]
        have eb : (160 * u.1 56 + u.2.2.1 28 m4.toNatClampNeg + m5).toInt = 160 * (u.1 56).toInt + (u.2.2.1 28 m4.toNatClampNeg).toInt + m5.toInt := by rw [tI_add (by omega) (by omega), ea]
        refine wp_rd.mpr ⟨vin_iff.mpr ⟨by omega, by omega⟩, ?_⟩
        rw [wp_bn]
        refine wp_mono x_isTooWide (fun r5 x5 hx5 => ?_)
        obtain ⟨rfl, -⟩ := hx5
        by_cases h6 : (m5 + 1).toInt ≤ 6
        · refine c_wrong hp (c2 h6) (by decide) (fun _ y cy ly ky zy => ?_)
          exact b206 _ y cy.wk (fun _ => cy) (by have h9 : kP y = kP x5 := (by unfold kP; rw [ky]); omega) (fun ha => a2 (ly.ef.act ha))
        · refine c_wrong hp w2.c (by decide) (fun _ y cy ly ky zy => ?_)
          exact b206 _ y cy.wk (fun zz => absurd zz h6) (by have h9 : kP y = kP x5 := (by unfold kP; rw [ky]); omega) (fun ha => a2 (ly.ef.act ha))
    refine wp_if.mpr ⟨fun _ => ?_, fun _ => ?_⟩
    · rw [wp_bn]
      refine wp_mono (x_is (cb'.tk hp)) (fun r b' hb' => ?_)
      obtain ⟨rfl, -⟩ := hb'
      refine wp_if.mpr ⟨fun _ => loop _ _ rfl, fun _ => ?_⟩
      unfold B_call_120
      exact loop _ _ rfl
    · unfold B_call_120
      exact loop _ _ rfl
  unfold F_call B_call_0
  rw [wp_bn]
  refine wp_mono (x_own hN hp.2.1 hp.1) (fun r v hr => ?_)
  obtain ⟨rfl, hr⟩ := hr
  rw [wp_bn]
  refine wp_mono (x_own hN hp.2.1 hp.1) (fun r2 v2 hr2 => ?_)
  obtain ⟨rfl, hr2⟩ := hr2
  have a1 : r = -1 ∨ (¬ v2.1 69 = 0 ∧ 0 ≤ r.toInt ∧ r.toInt < 16 ∧ r.toInt < (v2.2.2.1 37 (toN v2)).toInt) := by
    rcases hr with z | ⟨z0', z1, z2, z3, z4, z5, z6⟩
    · exact Or.inl z
    · exact Or.inr ⟨z0', z1, (z5 rfl).1, (z5 rfl).2⟩
  have a2 : r2 = -1 ∨ (0 ≤ r2.toInt ∧ r2.toInt < 8) := by
    rcases hr2 with z | ⟨z0', z1, z2, z3, z4, z5, z6⟩
    · exact Or.inl z
    · exact Or.inr ⟨z1, z6 rfl⟩
  unfold B_call_32
  exact wp_if.mpr ⟨fun q1 => wp_if.mpr ⟨fun q2 => main _ _ _ a1 a2 (fun z => absurd z (by decide)), fun q2 => main _ _ _ a1 a2 (fun _ z => q2 z.2)⟩, fun q1 => main _ _ _ a1 a2 (fun _ z => q1 z.1)⟩
end RCall
