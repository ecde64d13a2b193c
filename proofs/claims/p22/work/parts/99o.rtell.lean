/-! Names are told: the reference's table of names. -/
/-- a name was put behind the others -/
def TLD (u w : RSt) (l1 l2 : Int32) : Prop := w.2.1 = u.2.1 ∧ (∀ k, k ∉ [61, 62] → w.1 k = u.1 k) ∧ w.1 61 = u.1 61 + 1 ∧ w.1 62 = u.1 62 + 1 ∧ (∀ k, k ∉ [59, 60] → w.2.2.1 k = u.2.2.1 k) ∧ (∀ k i, i ≠ (u.1 61).toNatClampNeg → w.2.2.1 k i = u.2.2.1 k i) ∧ w.2.2.1 59 (u.1 61).toNatClampNeg = l1 ∧ w.2.2.1 60 (u.1 61).toNatClampNeg = l2 ∧ (∀ k, k ∉ [57, 58] → w.2.2.2 k = u.2.2.2 k)
section RTell
variable {u w : RSt} {T N : Nat} {l1 l2 l3 : Int32}
theorem x_telling (hN : 5000000000 ≤ N) (h : TK2 u T) (h61 : (u.1 61).toInt ≤ 180) (hc : act u → 0 ≤ (u.1 61).toInt ∧ (u.1 61).toInt ≤ (u.1 62).toInt + 15 ∧ (u.1 62).toInt ≤ 160) : wp (F_telling N l1 l2 l3 u) (fun _ w => FLT u w ∨ (w = u ∧ ¬ act u) ∨ (act u ∧ TLD u w l1 l2 ∧ (u.1 62).toInt < 160 ∧ l3 = 0)) := by
  have e160 : (160 : Int32).toInt = 160 := by decide
  unfold F_telling B_telling_0
  refine wp_rd.mpr ⟨h.vin, wp_rd.mpr ⟨h.vin, ?_⟩⟩
  rw [wp_bn]
  refine wp_mono (x_named hN h61) (fun r u' hr => ?_)
  obtain ⟨rfl, -⟩ := hr
  -- what the second test leaves
  have e65 : ∀ (s1 : Int32) (y : RSt), (FLT u' y ∨ y = u') → (s1 = 0 → ¬ u'.1 62 = 160 ∧ l3 = 0) → wp (B_telling_65 N l1 l2 s1 y) (fun _ w => FLT u' w ∨ (w = u' ∧ ¬ act u') ∨ (act u' ∧ TLD u' w l1 l2 ∧ (u'.1 62).toInt < 160 ∧ l3 = 0)) := by
    intro s1 y hy hs
    have ky : TK2 y T := by
      rcases hy with z | rfl
      · exact h.lf (z.lt h)
      · exact h
    unfold B_telling_65
    refine wp_rd.mpr ⟨ky.vin, ?_⟩
    rw [wp_bn]
    refine wp_mono (x_wrong (by decide)) (fun _ z hz => ?_)
    have hz2 : FLT u' z ∨ (z = u' ∧ (s1 = 0 ∨ u'.1 69 = 0)) := by
      rcases hz with ⟨rfl, hz⟩ | hz
      · rcases hy with q | rfl
        · exact Or.inl q
        · exact Or.inr ⟨rfl, hz⟩
      · rcases hy with q | rfl
        · exact Or.inl ⟨hz.1, q.2.1.tr hz.2.1, hz.2.2.trans q.2.2⟩
        · exact Or.inl hz
    have stay : ¬ act z → FLT u' z ∨ (z = u' ∧ ¬ act u') ∨ (act u' ∧ TLD u' z l1 l2 ∧ (u'.1 62).toInt < 160 ∧ l3 = 0) := by
      intro hna
      rcases hz2 with q | ⟨rfl, -⟩
      · exact Or.inl q
      · exact Or.inr (Or.inl ⟨rfl, hna⟩)
    refine wp_if.mpr ⟨fun q1 => wp_some.mpr (stay (fun ha => ha.1 q1)), fun q1 => wp_if.mpr ⟨fun q2 => ?_, fun q2 => wp_some.mpr (stay (fun ha => q2 ha.2))⟩⟩
    obtain ⟨rfl, hs1⟩ : z = u' ∧ (s1 = 0 ∨ u'.1 69 = 0) := by
      rcases hz2 with q | q
      · exact absurd q2 q.1
      · exact q
    have ha : act z := ⟨q1, q2⟩
    obtain ⟨c1, c2, c3⟩ := hc ha
    obtain ⟨n62, hl3⟩ := hs (by rcases hs1 with q | q; exact q; exact absurd q q1)
    have n62' : ¬ (z.1 62).toInt = 160 := fun q => n62 (tI_eq.mpr (by rw [q, e160]))
    have hv : vp_in (z.1 61) 180 := vin_iff.mpr ⟨c1, by omega⟩
    have hk := h.vin
    refine wp_pu.mpr (wp_rd.mpr ⟨hk, wp_wr.mpr ⟨hv, wp_rd.mpr ⟨hk, wp_wr.mpr ⟨hv, wp_wr.mpr ⟨hv, wp_wr.mpr ⟨hv, wp_pu.mpr (wp_some.mpr (Or.inr (Or.inr ⟨ha, ?_, by omega, hl3⟩)))⟩⟩⟩⟩⟩⟩)
    refine ⟨rfl, fun k hk => ?_, rfl, rfl, fun k hk => ?_, fun k i hi => ?_, ?_, ?_, fun k hk => ?_⟩
    · simp only [List.mem_cons, List.not_mem_nil, or_false, not_or] at hk
      rw [sI_1, if_neg hk.1]
      show (sI z 62 (z.1 62 + 1)).1 k = _
      rw [sI_1, if_neg hk.2]
    · simp only [List.mem_cons, List.not_mem_nil, or_false, not_or] at hk
      show (sA (sA _ 59 _ _) 60 _ _).2.2.1 k = _
      rw [sA_3, if_neg hk.2, sA_3, if_neg hk.1]
      rfl
    · show (sA (sA _ 59 _ _) 60 _ _).2.2.1 k i = _
      rw [sA_3]
      split
      · rename_i hk
        subst hk
        show upd _ _ _ i = _
        unfold upd
        exact if_neg hi
      · rw [sA_3]
        split
        · rename_i hk
          subst hk
          show upd _ _ _ i = _
          unfold upd
          exact if_neg hi
        · rfl
    · show (sA (sA _ 59 _ _) 60 _ _).2.2.1 59 _ = _
      rw [sA_3, if_neg (by decide), sA_3, if_pos rfl]
      show upd _ _ _ _ = _
      unfold upd
      exact if_pos rfl
    · show (sA (sA _ 59 _ _) 60 _ _).2.2.1 60 _ = _
      rw [sA_3, if_pos rfl]
      show upd _ _ _ _ = _
      unfold upd
      exact if_pos rfl
    · simp only [List.mem_cons, List.not_mem_nil, or_false, not_or] at hk
      show (sB (sB _ 57 _ _) 58 _ _).2.2.2 k = _
      rw [sB_4, if_neg hk.2, sB_4, if_neg hk.1]
      rfl
  have e32 : ∀ s : Int32, wp (B_telling_32 N l1 l2 l3 s u') (fun _ w => FLT u' w ∨ (w = u' ∧ ¬ act u') ∨ (act u' ∧ TLD u' w l1 l2 ∧ (u'.1 62).toInt < 160 ∧ l3 = 0)) := by
    intro s
    unfold B_telling_32
    refine wp_rd.mpr ⟨h.vin, ?_⟩
    rw [wp_bn]
    refine wp_mono (x_wrong (by decide)) (fun _ y hy => ?_)
    have hy2 : (FLT u' y ∨ y = u') ∧ y.1 62 = u'.1 62 := by
      rcases hy with ⟨rfl, -⟩ | hy
      · exact ⟨Or.inr rfl, rfl⟩
      · exact ⟨Or.inl hy, hy.2.1.2.1 62 (by decide)⟩
    unfold B_telling_60
    exact wp_if.mpr ⟨fun _ => e65 _ _ hy2.1 (fun z => absurd z (by decide)), fun q => wp_if.mpr ⟨fun q3 => e65 _ _ hy2.1 (fun _ => ⟨by rw [← hy2.2]; exact q, q3⟩), fun _ => e65 _ _ hy2.1 (fun z => absurd z (by decide))⟩⟩
  exact wp_if.mpr ⟨fun _ => e32 _, fun _ => e32 _⟩
end RTell
