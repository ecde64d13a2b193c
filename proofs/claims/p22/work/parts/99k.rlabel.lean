/-! A label of a case. -/
section RLabel
variable {u0 u v w : RSt} {T N g : Nat} {o o' e e' : Int} {α β : List (Int × Int)} {hs : List (Nat × List (Int × Int))} {bs cs : List Nat}
theorem x_constant (h : TK2 u T) : wp (F_constant N u) (fun _ w => LFT u w T ∧ (w.1 67 = 0 → u.1 67 = 0 ∧ kP u < kP w ∧ w.1 66 = u.1 66)) := by
  have e86 : ∀ (s1 : Int64) (z : RSt), LFT u z T → ¬ isT (tyR z) → (z.1 67 = 0 → u.1 67 = 0 ∧ z.1 66 = u.1 66) → wp (B_constant_86 N s1 z) (fun _ w => LFT u w T ∧ (w.1 67 = 0 → u.1 67 = 0 ∧ kP u < kP w ∧ w.1 66 = u.1 66)) := by
    intro s1 z hz ht h6
    unfold B_constant_86
    have hz2 : LFT u (sL z 77 s1) T := hz
    have ht2 : ¬ isT (tyR (sL z 77 s1)) := ht
    have h62 : (sL z 77 s1).1 67 = 0 → u.1 67 = 0 ∧ (sL z 77 s1).1 66 = u.1 66 := h6
    refine wp_pu.mpr (wp_pu.mpr (wp_some.mpr ?_))
    generalize sL z 77 s1 = y at hz2 ht2 h62 ⊢
    obtain ⟨l1, k1⟩ := (h.lf hz2).on ht2
    have := hz2.2.1
    exact ⟨hz2.tr l1, fun q => ⟨(h62 q).1, by omega, (h62 q).2⟩⟩
  have e28 : ∀ (l1 : Int32) (y : RSt), LFT u y T → ¬ isT (tyR y) → (y.1 67 = 0 → u.1 67 = 0 ∧ y.1 66 = u.1 66) → wp (B_constant_28 N l1 y) (fun _ w => LFT u w T ∧ (w.1 67 = 0 → u.1 67 = 0 ∧ kP u < kP w ∧ w.1 66 = u.1 66)) := by
    intro l1 y hy ht h6
    have ky := h.lf hy
    unfold B_constant_28
    rw [wp_bn]
    refine wp_mono (x_is ky) (fun r y' hr => ?_)
    obtain ⟨rfl, -⟩ := hr
    refine wp_rd.mpr ⟨ky.vin, ?_⟩
    rw [wp_bn]
    refine wp_mono (x_wrong (by decide)) (fun _ z hz => ?_)
    have hz2 : LFT u z T ∧ ¬ isT (tyR z) ∧ (z.1 67 = 0 → u.1 67 = 0 ∧ z.1 66 = u.1 66) := by
      rcases hz with ⟨rfl, -⟩ | hz
      · exact ⟨hy, ht, h6⟩
      · exact ⟨hy.tr (hz.lt ky), by rw [hz.2.1.k65 hz.2.2]; exact ht, fun q => absurd q hz.1⟩
    obtain ⟨g1, g2, g3⟩ := hz2
    have kz := (h.lf g1).vin
    exact wp_if.mpr ⟨fun _ => wp_rd.mpr ⟨kz, e86 _ _ g1 g2 g3⟩, fun _ => wp_rd.mpr ⟨kz, wp_rd.mpr ⟨kz, e86 _ _ g1 g2 g3⟩⟩⟩
  unfold F_constant B_constant_0
  rw [wp_bn]
  refine wp_mono (x_has h (by unfold isT; decide)) (fun r18 y hy => ?_)
  have hy2 : LFT u y T ∧ (y.1 67 = 0 → u.1 67 = 0 ∧ y.1 66 = u.1 66) := by
    rcases hy with ⟨-, y1, -, y3, -, y5⟩ | ⟨-, rfl, -⟩
    · exact ⟨y3, fun _ => ⟨y1, by rw [y5]; rfl⟩⟩
    · exact ⟨LFT.rf h, fun z => ⟨z, rfl⟩⟩
  obtain ⟨g1, g3⟩ := hy2
  have ky := h.lf g1
  rw [wp_bn]
  refine wp_mono (x_isNumber ky) (fun r20 y' hr => ?_)
  obtain ⟨rfl, hr⟩ := hr
  refine wp_if.mpr ⟨fun _ => ?_, fun q => ?_⟩
  · rw [wp_bn]
    refine wp_mono (x_is ky) (fun r23 y2 hr2 => ?_)
    obtain ⟨rfl, hr2⟩ := hr2
    refine wp_if.mpr ⟨fun _ => ?_, fun q => ?_⟩
    · rw [wp_bn]
      exact wp_mono (x_stuck ky) (fun _ w hw => wp_some.mpr ⟨g1.tr (hw.lt ky), fun z => absurd z hw.1⟩)
    · rcases hr2 with ⟨-, -, z⟩ | ⟨z, -⟩
      · exact e28 _ _ g1 (by rw [z]; unfold isT; decide) g3
      · exact absurd z q
  · rcases hr with ⟨-, -, z | z⟩ | ⟨z, -⟩
    · exact e28 _ _ g1 (by rw [z]; unfold isT; decide) g3
    · exact e28 _ _ g1 (by rw [z]; unfold isT; decide) g3
    · exact absurd z q
theorem CSh.lb {k i : Nat} {x : Int64} (hp : PRE u0 T) (h : CSh u0 v T o e g α β hs bs cs) (hk : k = 52 ∨ k = 53) : CSh u0 (sB v k i x) T o e g α β hs bs cs := by
  have ef : EFr v (sB v k i x) := by
    refine ⟨fun _ _ => rfl, fun _ _ => rfl, fun j hj => ?_, fun _ _ => rfl, fun _ _ => SAC.rf, fun q => q, fun q => q⟩
    rw [sB_4, if_neg (fun z => hj (by subst z; rcases hk with q | q <;> subst q <;> decide))]
  have hv : CSv v (sB v k i x) T o 0 := ⟨ef, Int.le_refl _, h.1.2.2.1, fun z => ⟨z, h.1.ho z, fun hj => ⟨(h.1.at_ ⟨hj, z⟩).1, Nat.le_refl _, (by show (posR v : Int) ≤ posR v + 5 * (kP v - kP v) + 0; omega), fun _ _ => SAC.rf⟩⟩⟩
  have := h.same hv ⟨rfl, rfl, rfl⟩ (fun _ => rfl) (fun _ _ => SAC.rf)
  exact this.we (fun _ => by omega) (Nat.le_refl _) (fun _ => Iff.rfl)
theorem e_label (hp : PRE u T) (ho : u.1 67 = 0 → opn u = o ∧ 0 ≤ o ∧ o ≤ 24) (hg : 1 ≤ g) : wp (F_label N u) (fun _ w => CSh u w T o (-4) g [nT] [nT] [(posR u, [])] [] [] ∧ (w.1 67 = 0 → kP u < kP w) ∧ (act w → posR w = posR u + 1)) := by
  have c0 : CSh u u T o 0 g [nT] [nT] [] [] [] := (CSq.rf (g := g) (α := [nT]) hp ho).h
  have e59 : ∀ (l1 l3 : Int64) (y : RSt), LFT u y T → (y.1 67 = 0 → u.1 67 = 0 ∧ kP u < kP y ∧ y.1 66 = u.1 66) → wp (B_label_59 N l1 l3 y) (fun _ w => CSh u w T o (-4) g [nT] [nT] [(posR u, [])] [] [] ∧ (w.1 67 = 0 → kP u < kP w) ∧ (act w → posR w = posR u + 1)) := by
    intro l1 l3 y hy h6
    have cy : CSh u y T o (-5) g [nT] [nT] [] [] [] := (c0.lf (o' := o) hy (fun z => by
      obtain ⟨z1, -, z3⟩ := h6 z
      have := ho z1
      unfold opn at this ⊢
      rw [z3]; exact this)).we (fun z => by have := (h6 z).2.1; omega) (Nat.le_refl _) (fun _ => Iff.rfl)
    unfold B_label_59
    rw [wp_bn]
    have bd := cy.1.bnd hp (by omega)
    refine wp_mono (r_emit bd) (fun r w hm => ?_)
    have cw := CSh.hol (τ := []) (γ := [nT]) (g' := g) hp cy (by omega) (Nat.le_refl _) hm (fun _ qm b1 b2 b3 => hl_label (t := nT) (α := []) qm b1 b2 b3 rfl (by simpa using hg))
    have ep : posR y = posR u := hy.1.pos
    rw [ep] at cw
    have sw : SM y w := by
      rcases hm with ⟨-, rfl⟩ | ⟨-, -, z⟩
      · exact SM.rf
      · exact z.sm
    have kw : w.1 67 = 0 → kP u < kP w := fun z => by
      rw [sw.k]
      exact (h6 (by rw [← sw.1]; exact z)).2.1
    have pw : act w → r.toInt = posR u ∧ posR w = posR u + 1 := by
      intro ha
      rcases hm with ⟨z, rfl⟩ | ⟨z, z1, z2⟩
      · exact absurd ha z
      · have := z2.pos (cy.1.at_ z).1
        exact ⟨by omega, by omega⟩
    have base : CSh u w T o (-4) g [nT] [nT] [(posR u, [])] [] [] := cw.we (fun _ => by omega) (Nat.le_refl _) (fun _ => by simp)
    refine wp_if.mpr ⟨fun _ => wp_some.mpr ⟨base, kw, fun ha => (pw ha).2⟩, fun q1 => wp_if.mpr ⟨fun q2 => ?_, fun _ => wp_some.mpr ⟨base, kw, fun ha => (pw ha).2⟩⟩⟩
    obtain ⟨p1, p2⟩ := pw ⟨q1, q2⟩
    have hy2 : act y := sw.ac ⟨q1, q2⟩
    have b2 := bd.2.2 hy2
    have tl := cy.1.tl hp
    have hv : vp_in r 16000 := vin_iff.mpr ⟨by omega, by
      have : posR u < 16000 := by rw [← ep]; unfold posR; omega
      omega⟩
    exact wp_wr.mpr ⟨hv, wp_wr.mpr ⟨hv, wp_some.mpr ⟨(base.lb hp (Or.inl rfl)).lb hp (Or.inr rfl), kw, fun ha => p2⟩⟩⟩
  unfold F_label B_label_0
  rw [wp_bn]
  refine wp_mono (x_constant hp.1) (fun _ y hy => ?_)
  obtain ⟨g1, g2⟩ := hy
  rw [wp_bn]
  refine wp_mono (x_has (hp.1.lf g1) (by unfold isT; decide)) (fun r12 y2 hy2 => ?_)
  have hy3 : LFT u y2 T ∧ (y2.1 67 = 0 → u.1 67 = 0 ∧ kP u < kP y2 ∧ y2.1 66 = u.1 66) := by
    rcases hy2 with ⟨-, y1, -, y3, y4, y5⟩ | ⟨-, rfl, -⟩
    · refine ⟨g1.tr y3, fun _ => ?_⟩
      obtain ⟨z1, z2, z3⟩ := g2 y1
      exact ⟨z1, by omega, by rw [y5]; exact z3⟩
    · exact ⟨g1, g2⟩
  obtain ⟨g3, g4⟩ := hy3
  refine wp_if.mpr ⟨fun _ => e59 _ _ _ g3 g4, fun _ => ?_⟩
  have k2 := hp.1.lf g3
  refine wp_rd.mpr ⟨k2.vin, ?_⟩
  rw [wp_bn]
  refine wp_mono (x_constant k2) (fun _ y4 hy4 => ?_)
  obtain ⟨g5, g6⟩ := hy4
  have g7 : y4.1 67 = 0 → u.1 67 = 0 ∧ kP u < kP y4 ∧ y4.1 66 = u.1 66 := by
    intro z
    obtain ⟨z1, z2, z3⟩ := g6 z
    obtain ⟨z4, z5, z6⟩ := g4 z1
    exact ⟨z4, by omega, z3.trans z6⟩
  have e53 : ∀ (a b : Int64) (l5 s1 : Int32), wp (B_label_53 N a b l5 s1 y4) (fun _ w => CSh u w T o (-4) g [nT] [nT] [(posR u, [])] [] [] ∧ (w.1 67 = 0 → kP u < kP w) ∧ (act w → posR w = posR u + 1)) := by
    intro a b l5 s1
    unfold B_label_53
    rw [wp_bn]
    refine wp_mono (x_wrong (by decide)) (fun _ z hz => ?_)
    rcases hz with ⟨rfl, -⟩ | hz
    · exact e59 _ _ _ (g3.tr g5) g7
    · exact e59 _ _ _ ((g3.tr g5).tr (hz.lt (k2.lf g5))) (fun q => absurd q hz.1)
  exact wp_if.mpr ⟨fun _ => e53 _ _ _ _, fun _ => e53 _ _ _ _⟩
end RLabel
