/-! A local name is counted. -/
section RLocal
variable {u w : RSt} {T N : Nat} {l1 : Int32}
theorem x_local (hN : 5000000000 ≤ N) (h : TK2 u T) (ht : TABS u) (h71 : ¬ u.1 69 = 0 → ¬ l1 = 0 → 0 ≤ (u.1 71).toInt ∧ (u.1 71).toInt < 48) (hc : act u → (u.1 62).toInt ≤ 160) : wp (F_local N l1 u) (fun _ w => FLT u w ∨ (w = u ∧ ¬ act u) ∨ (act u ∧ w = sI u 62 (u.1 62 + 1) ∧ (u.1 62).toInt < 160 ∧ (¬ l1 = 0 → ¬ u.2.2.1 30 (u.1 71).toNatClampNeg = 6))) := by
  have e160 : (160 : Int32).toInt = 160 := by decide
  unfold F_local B_local_0
  refine wp_rd.mpr ⟨h.vin, wp_rd.mpr ⟨h.vin, ?_⟩⟩
  rw [wp_bn]
  refine wp_mono (x_slotOf hN ht) (fun r u' hr => ?_)
  obtain ⟨rfl, -⟩ := hr
  have e86 : ∀ (s1 : Int32) (y : RSt), (FLT u' y ∨ y = u') → (s1 = 0 → ¬ u'.1 62 = 160 ∧ (act u' → ¬ l1 = 0 → ¬ u'.2.2.1 30 (u'.1 71).toNatClampNeg = 6)) → wp (B_local_86 N s1 y) (fun _ w => FLT u' w ∨ (w = u' ∧ ¬ act u') ∨ (act u' ∧ w = sI u' 62 (u'.1 62 + 1) ∧ (u'.1 62).toInt < 160 ∧ (¬ l1 = 0 → ¬ u'.2.2.1 30 (u'.1 71).toNatClampNeg = 6))) := by
    intro s1 y hy hs
    have ky : TK2 y T := by
      rcases hy with z | rfl
      · exact h.lf (z.lt h)
      · exact h
    unfold B_local_86
    refine wp_rd.mpr ⟨ky.vin, ?_⟩
    rw [wp_bn]
    refine wp_mono (x_wrong (by decide)) (fun _ z hz => ?_)
    have hz2 : FLT u' z ∨ (z = u' ∧ (s1 = 0 ∨ u'.1 69 = 0)) := by
      rcases hz with ⟨rfl, hz⟩ | hz
      · rcases hy with q | rfl
        · exact Or.inl q
        · exact Or.inr ⟨rfl, hz⟩
      · rcases hy with q | rfl
        · exact Or.inl ⟨hz.1, q.2.1.tr hz.2.1, hz.2.2.trans q.2.2⟩
        · exact Or.inl hz
    have stay : ¬ act z → FLT u' z ∨ (z = u' ∧ ¬ act u') ∨ (act u' ∧ z = sI u' 62 (u'.1 62 + 1) ∧ (u'.1 62).toInt < 160 ∧ (¬ l1 = 0 → ¬ u'.2.2.1 30 (u'.1 71).toNatClampNeg = 6)) := by
      intro hna
      rcases hz2 with q | ⟨rfl, -⟩
      · exact Or.inl q
      · exact Or.inr (Or.inl ⟨rfl, hna⟩)
    refine wp_if.mpr ⟨fun q1 => wp_some.mpr (stay (fun ha => ha.1 q1)), fun q1 => wp_if.mpr ⟨fun q2 => ?_, fun q2 => wp_some.mpr (stay (fun ha => q2 ha.2))⟩⟩
    obtain ⟨rfl, hs1⟩ : z = u' ∧ (s1 = 0 ∨ u'.1 69 = 0) := by
      rcases hz2 with q | q
      · exact absurd q2 q.1
      · exact q
    have ha : act z := ⟨q1, q2⟩
    have c3 := hc ha
    obtain ⟨n62, hl3⟩ := hs (by rcases hs1 with q | q; exact q; exact absurd q q1)
    have n62' : ¬ (z.1 62).toInt = 160 := fun q => n62 (tI_eq.mpr (by rw [q, e160]))
    exact wp_pu.mpr (wp_some.mpr (Or.inr (Or.inr ⟨ha, rfl, by omega, hl3 ha⟩)))
  have e32 : ∀ s : Int32, wp (B_local_32 N l1 s u') (fun _ w => FLT u' w ∨ (w = u' ∧ ¬ act u') ∨ (act u' ∧ w = sI u' 62 (u'.1 62 + 1) ∧ (u'.1 62).toInt < 160 ∧ (¬ l1 = 0 → ¬ u'.2.2.1 30 (u'.1 71).toNatClampNeg = 6))) := by
    intro s
    unfold B_local_32
    refine wp_rd.mpr ⟨h.vin, ?_⟩
    rw [wp_bn]
    refine wp_mono (x_wrong (by decide)) (fun _ y hy => ?_)
    have hy2 : (FLT u' y ∨ y = u') ∧ y.1 62 = u'.1 62 ∧ y.1 69 = u'.1 69 ∧ y.1 71 = u'.1 71 ∧ y.2.2.1 30 = u'.2.2.1 30 := by
      rcases hy with ⟨rfl, -⟩ | hy
      · exact ⟨Or.inr rfl, rfl, rfl, rfl, rfl⟩
      · exact ⟨Or.inl hy, hy.2.1.2.1 62 (by decide), hy.2.1.2.1 69 (by decide), hy.2.1.2.1 71 (by decide), by rw [hy.2.1.1]⟩
    obtain ⟨g1, g2, g3, g4, g5⟩ := hy2
    unfold B_local_81 B_local_85
    rw [g2, g3, g4, g5]
    refine wp_if.mpr ⟨fun _ => e86 _ _ g1 (fun z => absurd z (by decide)), fun q => wp_if.mpr ⟨fun q1 => e86 _ _ g1 (fun _ => ⟨q, fun _ z => absurd q1 z⟩), fun q1 => wp_if.mpr ⟨fun q9 => e86 _ _ g1 (fun _ => ⟨q, fun ha => absurd q9 ha.1⟩), fun q9 => ?_⟩⟩⟩
    obtain ⟨k1, k2⟩ := h71 q9 q1
    exact wp_rd.mpr ⟨vin_iff.mpr ⟨k1, by omega⟩, wp_if.mpr ⟨fun _ => e86 _ _ g1 (fun z => absurd z (by decide)), fun q6 => e86 _ _ g1 (fun _ => ⟨q, fun _ _ => q6⟩)⟩⟩
  exact wp_if.mpr ⟨fun _ => e32 _, fun _ => e32 _⟩
end RLocal
