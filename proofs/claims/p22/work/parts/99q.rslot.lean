/-! A slot is put. -/
/-- a slot was put behind the others of its part -/
def ASL (u w : RSt) (l2 l3 : Int32) : Prop := w.2.1 = u.2.1 ∧ (∀ k, k ≠ 73 → w.1 k = u.1 k) ∧ w.1 73 = u.1 73 + l3 ∧ (∀ k, k ∉ [20, 21, 22, 23, 27, 29, 31] → w.2.2.1 k = u.2.2.1 k) ∧ w.2.2.1 20 = upd (u.2.2.1 20) (160 * u.1 56 + u.2.2.1 27 (toN u)).toNatClampNeg l2 ∧ w.2.2.1 21 = upd (u.2.2.1 21) (160 * u.1 56 + u.2.2.1 27 (toN u)).toNatClampNeg l3 ∧ w.2.2.1 23 = upd (u.2.2.1 23) (160 * u.1 56 + u.2.2.1 27 (toN u)).toNatClampNeg (u.1 73) ∧ w.2.2.1 27 = upd (u.2.2.1 27) (toN u) (u.2.2.1 27 (toN u) + 1) ∧ w.2.2.1 29 = upd (u.2.2.1 29) (u.1 71).toNatClampNeg (u.2.2.1 29 (u.1 71).toNatClampNeg + 1) ∧ w.2.2.1 31 = upd (u.2.2.1 31) (u.1 71).toNatClampNeg (u.1 73 + l3) ∧ (∀ k, k ∉ [24, 25, 26] → w.2.2.2 k = u.2.2.2 k)
section RSlot
variable {u w : RSt} {T N : Nat} {l1 l2 l3 l4 : Int32} {l5 : Int64}
theorem x_addSlot (hl : 0 ≤ l1.toInt ∧ l1.toInt < 1502) (hto : 0 ≤ (u.1 56).toInt ∧ (u.1 56).toInt ≤ 1) (hc : act u → 0 ≤ (u.2.2.1 27 (toN u)).toInt ∧ (u.2.2.1 27 (toN u)).toInt < 160 ∧ 0 ≤ (u.1 71).toInt ∧ (u.1 71).toInt < 48) : wp (F_addSlot N l1 l2 l3 l4 l5 u) (fun _ w => FLT u w ∨ (w = u ∧ ¬ act u) ∨ (act u ∧ ASL u w l2 l3 ∧ u.1 73 + l3 ≤ 100)) := by
  have e160 : (160 : Int32).toInt = 160 := by decide
  have em : (160 * u.1 56).toInt = 160 * (u.1 56).toInt := by rw [tI_mul (by rw [e160]; omega) (by rw [e160]; omega), e160]
  have hvl : vp_in l1 1502 := vin_iff.mpr ⟨hl.1, by omega⟩
  have e17 : ∀ s : Int32, (s = 0 → u.1 73 + l3 ≤ 100) → wp (B_addSlot_17 N l1 l2 l3 l4 l5 s u) (fun _ w => FLT u w ∨ (w = u ∧ ¬ act u) ∨ (act u ∧ ASL u w l2 l3 ∧ u.1 73 + l3 ≤ 100)) := by
    intro s hs
    unfold B_addSlot_17
    refine wp_rd.mpr ⟨hvl, ?_⟩
    rw [wp_bn]
    refine wp_mono (x_wrong (by decide)) (fun _ z hz => ?_)
    have stay : ¬ act z → FLT u z ∨ (z = u ∧ ¬ act u) ∨ (act u ∧ ASL u z l2 l3 ∧ u.1 73 + l3 ≤ 100) := by
      intro hna
      rcases hz with ⟨rfl, -⟩ | hz
      · exact Or.inr (Or.inl ⟨rfl, hna⟩)
      · exact Or.inl hz
    refine wp_if.mpr ⟨fun q1 => wp_some.mpr (stay (fun ha => ha.1 q1)), fun q1 => wp_if.mpr ⟨fun q2 => ?_, fun q2 => wp_some.mpr (stay (fun ha => q2 ha.2))⟩⟩
    obtain ⟨rfl, hs1⟩ : z = u ∧ (s = 0 ∨ u.1 69 = 0) := by
      rcases hz with q | q
      · exact q
      · exact absurd q2 q.1
    have ha : act z := ⟨q1, q2⟩
    obtain ⟨c1, c2, c3, c4⟩ := hc ha
    have h73 := hs (by rcases hs1 with q | q; exact q; exact absurd q q1)
    have v2 : vp_in (z.1 56) 2 := vin_iff.mpr ⟨hto.1, by omega⟩
    have v71 : vp_in (z.1 71) 48 := vin_iff.mpr ⟨c3, by omega⟩
    have c1' : 0 ≤ (z.2.2.1 27 (z.1 56).toNatClampNeg).toInt := c1
    have c2' : (z.2.2.1 27 (z.1 56).toNatClampNeg).toInt < 160 := c2
    have es : (160 * z.1 56 + z.2.2.1 27 (z.1 56).toNatClampNeg).toInt = 160 * (z.1 56).toInt + (z.2.2.1 27 (z.1 56).toNatClampNeg).toInt := by rw [tI_add (by omega) (by omega), em]
    have vs : vp_in (160 * z.1 56 + z.2.2.1 27 (z.1 56).toNatClampNeg) 320 := vin_iff.mpr ⟨by omega, by omega⟩
    refine wp_rd.mpr ⟨v2, wp_wr.mpr ⟨vs, wp_wr.mpr ⟨vs, wp_wr.mpr ⟨vs, wp_wr.mpr ⟨vs, wp_wr.mpr ⟨vs, wp_rd.mpr ⟨hvl, wp_wr.mpr ⟨vs, wp_rd.mpr ⟨hvl, wp_wr.mpr ⟨vs, wp_rd.mpr ⟨v2, wp_wr.mpr ⟨v2, wp_pu.mpr (wp_rd.mpr ⟨v71, wp_wr.mpr ⟨v71, wp_wr.mpr ⟨v71, wp_some.mpr (Or.inr (Or.inr ⟨ha, ?_, h73⟩))⟩⟩⟩)⟩⟩⟩⟩⟩⟩⟩⟩⟩⟩⟩⟩
    refine ⟨rfl, fun k hk => ?_, rfl, fun k hk => ?_, rfl, rfl, rfl, rfl, rfl, rfl, fun k hk => ?_⟩
    · show (sI _ 73 _).1 k = _
      rw [sI_1, if_neg hk]
      rfl
    · simp only [List.mem_cons, List.not_mem_nil, or_false, not_or] at hk
      show (sA (sA (sI (sA (sB (sB (sB (sA (sA (sA (sA z 20 _ _) 21 _ _) 22 _ _) 23 _ _) 24 _ _) 25 _ _) 26 _ _) 27 _ _) 73 _) 29 _ _) 31 _ _).2.2.1 k = _
      rw [sA_3, if_neg hk.2.2.2.2.2.2, sA_3, if_neg hk.2.2.2.2.2.1]
      show (sA (sB (sB (sB (sA (sA (sA (sA z 20 _ _) 21 _ _) 22 _ _) 23 _ _) 24 _ _) 25 _ _) 26 _ _) 27 _ _).2.2.1 k = _
      rw [sA_3, if_neg hk.2.2.2.2.1]
      show (sA (sA (sA (sA z 20 _ _) 21 _ _) 22 _ _) 23 _ _).2.2.1 k = _
      rw [sA_3, if_neg hk.2.2.2.1, sA_3, if_neg hk.2.2.1, sA_3, if_neg hk.2.1, sA_3, if_neg hk.1]
    · simp only [List.mem_cons, List.not_mem_nil, or_false, not_or] at hk
      show (sB (sB (sB _ 24 _ _) 25 _ _) 26 _ _).2.2.2 k = _
      rw [sB_4, if_neg hk.2.2, sB_4, if_neg hk.2.1, sB_4, if_neg hk.1]
      rfl
  unfold F_addSlot B_addSlot_0
  exact wp_if.mpr ⟨fun q => e17 0 (fun _ => q), fun _ => e17 1 (fun z => absurd z (by decide))⟩
end RSlot
