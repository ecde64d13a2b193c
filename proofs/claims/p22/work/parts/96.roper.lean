/-! An operand, in the reference; and the levels of an expression. -/
/-- a rule of an operand, with b open brackets -/
def HSr (ro : Nat → Int32 → Int32 → RSt → Option (Int32 × RSt)) (T q : Nat) (a : Int32) (o : Int) (g : Nat) : Prop := ∀ v, PRE v T → (v.1 67 = 0 → opn v = o ∧ 0 ≤ o ∧ o ≤ 24) → ¬ isT (tyR v) → wp (ro q a 0 v) (fun _ w => CSq v w T o 0 g [] [nT] true)
def HNr (ro : Nat → Int32 → Int32 → RSt → Option (Int32 × RSt)) (T : Nat) (o : Int) (g : Nat) : Prop := ∀ v, PRE v T → (v.1 67 = 0 → opn v = o ∧ 0 ≤ o ∧ o ≤ 24) → kP v + 2 < T → wp (ro 6 0 0 v) (fun _ w => CSq v w T o 0 g [] [nT] true)
def HPr (ro : Nat → Int32 → Int32 → RSt → Option (Int32 × RSt)) (T : Nat) (a : Int32) (o : Int) (g : Nat) : Prop := ∀ v, PRE v T → (v.1 67 = 0 → opn v = o ∧ 0 ≤ o ∧ o ≤ 24) → ¬ isT (tyR v) → wp (ro 8 a 0 v) (fun _ w => ∃ t, CSq v w T o (-2) g [] [t] (decide (a = 0)) ∧ (act w → RDb t (w.1 80) ∧ (¬ a = 0 → WRb t (w.1 80))))
section ROper
variable {u v w : RSt} {T N g g1 : Nat} {o e : Int} {f : Bool} {ro : Nat → Int32 → Int32 → RSt → Option (Int32 × RSt)} {α β : List (Int × Int)}
theorem CSq.flt (h : FLT u w) (hp : PRE u T) : CSq u w T o e g α β f := by
  obtain ⟨a1, a2, a3⟩ := h.lt hp.1
  exact ⟨a1.ef, a1.lsm, a2, a3, fun z => absurd z h.1⟩
theorem CSq.sub2 {e1 : Int} {u0 : RSt} {g2 : Nat} (h : CSq u0 v T o e g [] [] false) (hv : posR v = posR u0) (h2 : CSq v w T o e1 g2 [] β f) (hg : g ≤ g1) (hg2 : g2 ≤ g1) : CSq u0 w T o (e + e1) g1 [] β f := by
  cases f with
  | true => exact h.sub0 (fun _ _ => hv) h2 hg hg2
  | false => exact h.sub h2 hg hg2
theorem e_operand (hp : PRE u T) (ho : u.1 67 = 0 → opn u = o ∧ 0 ≤ o ∧ o ≤ 24) (hg : 2 ≤ g) (hS : ∀ a, HSr ro T 3 a o g) (hC : HSr ro T 4 0 o g) (hL : HSr ro T 5 0 o g) (hI : HNr ro T o g) (hP : HPr ro T 0 o g) (hX : HXr ro T 0 0 (o + 1) g1) (hg1 : g1 ≤ g) : wp (F_operand N ro u) (fun _ w => CSq u w T o 0 g [] [nT] true) := by
  unfold F_operand B_operand_0
  have c0 : CSq u u T o 0 g [] [] false := CSq.rf hp ho
  have hT1 := hp.1.1
  have hk0 := hp.1.2.2.1
  have hkT := hp.1.2.2.2
  refine wp_if.mpr ⟨fun qf => ?_, fun qf => wp_some.mpr ?_⟩
  · obtain ⟨ho1, h0, h24⟩ := ho qf
    refine wp_rd.mpr ⟨hp.1.vin, ?_⟩
    have tt : ∀ t : Int32, u.2.2.1 2 (u.1 65).toNatClampNeg = t → ¬ isT t → ¬ isT (tyR u) := by
      intro t q ht
      unfold tyR
      rw [q]; exact ht
    generalize hty : u.2.2.1 2 (u.1 65).toNatClampNeg = ty at tt ⊢
    have b40 : ¬ isT ty → wp (B_operand_40 N ro ty u) (fun _ w => CSq u w T o 0 g [] [nT] true) := by
      intro h
      unfold B_operand_40
      rw [wp_bn]
      exact wp_mono (hS ty u hp ho (tt ty rfl h)) (fun _ w hw => wp_some.mpr hw)
    have b141 : ∀ s : Int32, ¬ isT ty → wp (B_operand_141 N ro s u) (fun _ w => CSq u w T o 0 g [] [nT] true) := by
      intro s h
      unfold B_operand_141
      refine wp_rd.mpr ⟨hp.1.vin, ?_⟩
      refine c_wrong hp c0 (by decide) (fun _ x cx lx kx zx => ?_)
      refine wp_rd.mpr ⟨(cx.tk hp).vin, ?_⟩
      refine c_cost0 hp cx (by omega) (by simp) lx.pos (fun _ y cy sy => ?_)
      refine wp_rd.mpr ⟨(cy.tk hp).vin, ?_⟩
      refine c_push hp cy (by omega) (Nat.le_refl _) (by simp) (fun _ z cz sz => wp_pu.mpr ?_)
      have cz2 := cz.tell (j := 78) (x := 1) (Or.inl rfl)
      have tz : tyR (sI z 78 1) = tyR u := by
        have : tyR (sI z 78 1) = tyR z := rfl
        rw [this, sz.t, sy.t, lx.k65 kx]
      generalize sI z 78 1 = z2 at cz2 tz ⊢
      refine wp_rd.mpr ⟨(cz2.tk hp).vin, wp_pu.mpr (wp_pu.mpr ?_)⟩
      have cz3 := cz2.tel2 (j := 79) (x := z2.2.2.2 4 (z2.1 65).toNatClampNeg)
      have tz3 : tyR (sL z2 79 (z2.2.2.2 4 (z2.1 65).toNatClampNeg)) = tyR u := tz
      generalize sL z2 79 (z2.2.2.2 4 (z2.1 65).toNatClampNeg) = z3 at cz3 tz3 ⊢
      obtain ⟨cz4, kz, lz⟩ := cz3.on hp (by rw [tz3]; exact tt ty rfl h)
      have kz3 := (cz3.tk hp).2.2.1
      have kzT := (cz4.tk hp).2.2.2
      generalize sI z3 65 (z3.1 65 + 1) = z4 at cz4 kz lz kzT ⊢
      have e1 : (1 : Int32).toInt = 1 := by decide
      have es : (z4.1 65 - 1).toInt = kP z4 - 1 := by
        unfold kP at *
        rw [tI_sub (by omega) (by omega), e1]
      have c9 := cz4.we (e' := 0) (by omega) (Nat.le_refl _)
      exact wp_rd.mpr ⟨vin_iff.mpr ⟨by omega, by omega⟩, wp_if.mpr ⟨fun _ => wp_some.mpr c9, fun _ => wp_some.mpr c9⟩⟩
    have b130 : ¬ isT ty → wp (B_operand_130 N ro ty u) (fun _ w => CSq u w T o 0 g [] [nT] true) := by
      intro h
      unfold B_operand_130
      exact wp_if.mpr ⟨fun _ => b141 _ h, fun _ => b141 _ h⟩
    have b366 : ∀ y, CSq u y T o 0 g [] [nT] true → wp (B_operand_366 N ro y) (fun _ w => CSq u w T o 0 g [] [nT] true) := by
      intro y cy
      unfold B_operand_366
      have c9 := cy.tell (j := 78) (x := 0) (Or.inl rfl)
      exact wp_pu.mpr (wp_if.mpr ⟨fun _ => wp_some.mpr c9, fun _ => wp_some.mpr c9⟩)
    have b71 : wp (B_operand_71 N ro ty u) (fun _ w => CSq u w T o 0 g [] [nT] true) := by
      unfold B_operand_71
      refine wp_if.mpr ⟨fun q => ?_, fun _ => wp_if.mpr ⟨fun q => b130 (by rw [q]; unfold isT; decide), fun _ => wp_if.mpr ⟨fun q => b130 (by rw [q]; unfold isT; decide), fun _ => wp_if.mpr ⟨fun q => b130 (by rw [q]; unfold isT; decide), fun _ => wp_pu.mpr ?_⟩⟩⟩⟩
      · refine c_begins hp c0 (by unfold isT; decide) (fun _ v c1 l1' k1 z1 => ?_)
        refine c_sub0 hp (c1.we (e' := 0) (by omega) (Nat.le_refl _)) (by omega) l1'.pos hX (Nat.le_refl _) (by simpa using hg1) (fun r w c2 ef2 k2 => ?_)
        refine c_ends hp c2 (by unfold isT; decide) h0 (fun _ z c5 lz kz zz => ?_)
        have c9 := c5.we (e' := 0) (by omega) (Nat.le_refl _)
        exact wp_if.mpr ⟨fun _ => wp_pu.mpr (wp_some.mpr (c9.tell (Or.inl rfl))), fun _ => wp_pu.mpr (wp_some.mpr (c9.tell (Or.inl rfl)))⟩
      · have c1 := c0.tell (j := 78) (x := 0) (Or.inl rfl)
        have l1 : LF u (sI u 78 0) := LF.rf.sI (by decide)
        have k1 : (sI u 78 0).1 65 = u.1 65 := rfl
        generalize sI u 78 0 = x at c1 l1 k1 ⊢
        have tx : tyR x = tyR u := l1.k65 k1
        have hpx := c1.pre hp (by omega)
        have hox : x.1 67 = 0 → opn x = o ∧ 0 ≤ o ∧ o ≤ 24 := fun z => c1.ho z
        refine wp_if.mpr ⟨fun q => ?_, fun _ => wp_if.mpr ⟨fun q => ?_, fun _ => ?_⟩⟩
        · refine wp_rd.mpr ⟨hpx.1.vin, ?_⟩
          refine c_cost0 hp c1 (by omega) (by simp) l1.pos (fun _ y cy sy => ?_)
          refine c_emit (γ := [nT]) hp cy (by omega) (Nat.le_refl _) (fun w _ qm b1 b2 => ?_) (fun r y2 cy2 sy2 _ _ => wp_pu.mpr (wp_some.mpr ?_))
          · exact (gn_num qm (cy.tl hp) b1 b2 (Or.inr rfl)).ext (g1 := g) (c1 := 1) [] (by simp) (Nat.le_refl _)
          · obtain ⟨c9, -, -⟩ := cy2.on hp (by rw [sy2.t, sy.t, tx]; exact tt ty rfl (by rw [q]; unfold isT; decide))
            exact c9.we (by omega) (Nat.le_refl _)
        · have hnt : ¬ isT (tyR x) := by rw [tx]; exact tt ty rfl (by rw [q]; unfold isT; decide)
          have b329 : wp (B_operand_329 N ro x) (fun _ w => CSq u w T o 0 g [] [nT] true) := by
            unfold B_operand_329
            rw [wp_bn]
            refine wp_mono (hP x hpx hox hnt) (fun _ y hy => ?_)
            obtain ⟨t, cy, hr⟩ := hy
            have cy1 : CSq u y T o (-2) g [] [t] true := (c1.sub2 l1.pos cy (Nat.le_refl _) (Nat.le_refl _)).we (by omega) (Nat.le_refl _)
            refine c_emit (γ := [nT]) hp cy1 (by omega) (Nat.le_refl _) (fun w ha qm b1 b2 => ?_) (fun r y2 cy2 sy2 _ _ => ?_)
            · have := (gn_get (t := t) qm (cy1.tl hp) b1 b2 rfl (hr ha).1).ext (g1 := g) (c1 := 1) [] (by simp; omega) (Nat.le_refl _)
              simpa using this
            · refine wp_if.mpr ⟨fun _ => b366 _ (cy2.we (by omega) (Nat.le_refl _)), fun _ => ?_⟩
              refine c_emit (γ := [nT]) hp cy2 (by omega) (Nat.le_refl _) (fun w ha qm b1 b2 => ?_) (fun r y3 cy3 _ _ _ => b366 _ (cy3.we (by omega) (Nat.le_refl _)))
              have := (gn_un (t := nT) qm (cy2.tl hp) b1 b2 (Or.inl rfl)).ext (g1 := g) (c1 := 1) [] (by simp; omega) (Nat.le_refl _)
              simpa using this
          have fin : ∀ w, CSq x w T o 0 g [] [nT] true → CSq u w T o 0 g [] [nT] true := fun w hw => (c1.sub2 l1.pos hw (Nat.le_refl _) (Nat.le_refl _)).we (by omega) (Nat.le_refl _)
          rw [wp_bn]
          refine wp_mono (x_isNext hpx.1) (fun r x' hr => ?_)
          obtain ⟨rfl, hr⟩ := hr
          refine wp_if.mpr ⟨fun qr => ?_, fun qr => ?_⟩
          · rw [wp_bn]
            refine wp_mono (x_isNext hpx.1) (fun r2 x2 hr2 => ?_)
            obtain ⟨rfl, hr2⟩ := hr2
            refine wp_if.mpr ⟨fun _ => b329, fun q2 => ?_⟩
            have hn : x2.2.2.1 2 ((x2.1 65).toNatClampNeg + 1) = 231 := by
              rcases hr2 with ⟨-, -, z⟩ | z
              · exact z
              · exact absurd z q2
            obtain ⟨t1, t2, t3, t4⟩ := id hpx.1
            have hk := hpx.1.lt hnt
            have kk : (x2.1 65).toNatClampNeg = (kP x2).toNat := rfl
            have k1T : kP x2 + 1 < T := by
              by_cases ee : kP x2 + 1 = T
              · exfalso
                have : (x2.1 65).toNatClampNeg + 1 = T := by rw [kk]; omega
                rw [this] at hn
                rw [hn] at t2
                revert t2; unfold isT; decide
              · omega
            have e2 : (2 : Int32).toInt = 2 := by decide
            have es : (x2.1 65 + 2).toInt = kP x2 + 2 := by
              unfold kP at *
              rw [tI_add (by omega) (by omega), e2]
            refine wp_rd.mpr ⟨vin_iff.mpr ⟨by omega, by omega⟩, wp_if.mpr ⟨fun q1 => ?_, fun _ => b329⟩⟩
            have k2T : kP x2 + 2 < T := by
              by_cases ee : kP x2 + 2 = T
              · exfalso
                have : (x2.1 65 + 2).toNatClampNeg = T := by
                  show (x2.1 65 + 2).toInt.toNat = T
                  omega
                rw [this] at q1
                rw [q1] at t2
                revert t2; unfold isT; decide
              · omega
            rw [wp_bn]
            exact wp_mono (hI x2 hpx hox k2T) (fun _ w hw => wp_some.mpr (fin w hw))
          · rw [wp_bn]
            exact wp_mono (hL x' hpx hox hnt) (fun _ w hw => wp_some.mpr (fin w hw))
        · rw [wp_bn]
          refine wp_mono (x_stuck hpx.1) (fun _ w hw => wp_some.mpr ?_)
          have : CSq x w T o 0 g [] [nT] true := CSq.flt hw hpx
          exact (c1.sub2 l1.pos this (Nat.le_refl _) (Nat.le_refl _)).we (by omega) (Nat.le_refl _)
    refine wp_if.mpr ⟨fun q => b40 (by rw [q]; unfold isT; decide), fun _ => wp_if.mpr ⟨fun q => b40 (by rw [q]; unfold isT; decide), fun _ => wp_if.mpr ⟨fun q => b40 (by rw [q]; unfold isT; decide), fun _ => wp_if.mpr ⟨fun q => ?_, fun _ => b71⟩⟩⟩⟩
    have e1 := hp.1.k1
    rw [wp_bn]
    refine wp_mono (x_isKind (by omega) (by omega)) (fun r x hr => ?_)
    obtain ⟨rfl, -⟩ := hr
    refine wp_if.mpr ⟨fun _ => b71, fun _ => ?_⟩
    rw [wp_bn]
    exact wp_mono (hC x hp ho (tt ty rfl (by rw [q]; unfold isT; decide))) (fun _ w hw => wp_some.mpr hw)
  · exact ⟨LF.rf.ef, LSm.rf, Int.le_refl _, hkT, fun z => absurd z qf⟩
end ROper
