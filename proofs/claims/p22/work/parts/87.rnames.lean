/-! The reference looks names up. -/
section RNames
variable {u w : RSt} {T N : Nat}
theorem x_named {a b : Int64} (hN : 5000000000 ≤ N) (h : (u.1 61).toInt ≤ 180) : wp (F_named N a b u) (fun r w => w = u ∧ (r = -1 ∨ (0 ≤ r.toInt ∧ r.toInt < (u.1 61).toInt))) := by
  have z0 : (0 : Int32).toInt = 0 := by decide
  have e1 : (1 : Int32).toInt = 1 := by decide
  unfold F_named B_named_0 LP_named_3
  refine wp_lp (fun (d : Nat) (x : Int64 × Int64 × Int32 × RSt) => x.2.2.2 = u ∧ 0 ≤ x.2.2.1.toInt ∧ x.2.2.1.toInt ≤ 200 ∧ d = (200 - x.2.2.1.toInt).toNat) ?_ _ ((200 - (0 : Int32).toInt).toNat) _ (by omega) ⟨rfl, by show 0 ≤ (0 : Int32).toInt; omega, by show (0 : Int32).toInt ≤ 200; omega, rfl⟩
  rintro d R ⟨m1, m3, m5, v⟩ ⟨q1, q2, q3, q4⟩ ih
  dsimp only at q1 q2 q3 q4 ⊢
  subst q1
  unfold B_named_3
  refine wp_if.mpr ⟨fun _ => wp_some.mpr ⟨rfl, Or.inl rfl⟩, fun c => ?_⟩
  have c1 := Int32.lt_iff_toInt_lt.mp (Int32.not_le.mp c)
  have hv : vp_in m5 180 := vin_iff.mpr ⟨q2, by omega⟩
  have on : wp (B_named_39 N R m1 m3 m5 v) (fun r w => w = v ∧ (r = -1 ∨ (0 ≤ r.toInt ∧ r.toInt < (v.1 61).toInt))) := by
    unfold B_named_39
    have el : (m5 + 1).toInt = m5.toInt + 1 := by rw [tI_add (by omega) (by omega), e1]
    exact ih ((200 - (m5 + 1).toInt).toNat) (m1, m3, m5 + 1, v) (by omega) ⟨rfl, by show 0 ≤ (m5 + 1).toInt; omega, by show (m5 + 1).toInt ≤ 200; omega, rfl⟩
  exact wp_rd.mpr ⟨hv, wp_if.mpr ⟨fun _ => wp_rd.mpr ⟨hv, wp_if.mpr ⟨fun _ => wp_some.mpr ⟨rfl, Or.inr ⟨q2, c1⟩⟩, fun _ => on⟩⟩, fun _ => on⟩⟩
theorem x_slotOf {a b : Int64} (hN : 5000000000 ≤ N) (h : TABS u) : wp (F_slotOf N a b u) (fun r w => w = u ∧ (r = -1 ∨ (0 ≤ r.toInt ∧ r.toInt < 320 ∧ ¬ u.1 70 ≤ 1))) := by
  obtain ⟨-, -, -, -, -, -, hs, hf, t0, t1⟩ := h
  have z0 : (0 : Int32).toInt = 0 := by decide
  have e1 : (1 : Int32).toInt = 1 := by decide
  have e160 : (160 : Int32).toInt = 160 := by decide
  have v2 : vp_in (u.1 56) 2 := vin_iff.mpr ⟨t0, by omega⟩
  have em : (160 * u.1 56).toInt = 160 * (u.1 56).toInt := by rw [tI_mul (by rw [e160]; omega) (by rw [e160]; omega), e160]
  have b72 := i32_b (u.1 72)
  unfold F_slotOf B_slotOf_0 LP_slotOf_6
  refine wp_lp (fun (d : Nat) (x : Int64 × Int64 × Int32 × RSt) => x.2.2.2 = u ∧ 0 ≤ x.2.2.1.toInt ∧ d = (2147483648 - x.2.2.1.toInt).toNat) ?_ _ ((2147483648 - (u.1 72).toInt).toNat) _ (by omega) ⟨rfl, hf, rfl⟩
  rintro d R ⟨m1, m3, m5, v⟩ ⟨q1, q2, q4⟩ ih
  dsimp only at q1 q2 q4 ⊢
  subst q1
  unfold B_slotOf_6
  refine wp_if.mpr ⟨fun _ => wp_some.mpr ⟨rfl, Or.inl rfl⟩, fun cw => wp_rd.mpr ⟨v2, wp_if.mpr ⟨fun _ => wp_some.mpr ⟨rfl, Or.inl rfl⟩, fun c => ?_⟩⟩⟩
  have c1 := Int32.lt_iff_toInt_lt.mp (Int32.not_le.mp c)
  have hs2 : (v.2.2.1 27 (v.1 56).toNatClampNeg).toInt ≤ 160 := hs
  have ea : (160 * v.1 56 + m5).toInt = 160 * (v.1 56).toInt + m5.toInt := by rw [tI_add (by omega) (by omega), em]
  have hv : vp_in (160 * v.1 56 + m5) 320 := vin_iff.mpr ⟨by omega, by omega⟩
  have on : wp (B_slotOf_82 N R m1 m3 m5 v) (fun r w => w = v ∧ (r = -1 ∨ (0 ≤ r.toInt ∧ r.toInt < 320 ∧ ¬ v.1 70 ≤ 1))) := by
    unfold B_slotOf_82
    have el : (m5 + 1).toInt = m5.toInt + 1 := by rw [tI_add (by omega) (by omega), e1]
    exact ih ((2147483648 - (m5 + 1).toInt).toNat) (m1, m3, m5 + 1, v) (by omega) ⟨rfl, by show 0 ≤ (m5 + 1).toInt; omega, rfl⟩
  exact wp_rd.mpr ⟨hv, wp_if.mpr ⟨fun _ => wp_rd.mpr ⟨hv, wp_if.mpr ⟨fun _ => wp_some.mpr ⟨rfl, Or.inr ⟨by omega, by omega, cw⟩⟩, fun _ => on⟩⟩, fun _ => on⟩⟩
/-- own: NONE, or the number of a name of that sort -/
theorem x_own {s : Int32} (hN : 5000000000 ≤ N) (h : TABS u) (hk : TK2 u T) : wp (F_own N s u) (fun r w => w = u ∧ (r = -1 ∨ (¬ u.1 69 = 0 ∧ 0 ≤ r.toInt ∧ (s = 0 → r.toInt < 160) ∧ (s = 1 → r.toInt < 24 ∧ r.toInt < (u.2.2.1 42 (toN u)).toInt) ∧ (s = 3 → r.toInt < 8) ∧ (s = 4 → r.toInt < 16 ∧ r.toInt < (u.2.2.1 37 (toN u)).toInt) ∧ (s = 5 → r.toInt < 8)))) := by
  have h0 := h
  obtain ⟨-, -, -, -, hg, hm, -⟩ := h
  unfold F_own B_own_0
  refine wp_if.mpr ⟨fun _ => wp_some.mpr ⟨rfl, Or.inl rfl⟩, fun hj => wp_rd.mpr ⟨hk.vin, wp_rd.mpr ⟨hk.vin, ?_⟩⟩⟩
  rw [wp_bn]
  refine wp_mono (x_slotOf hN h0) (fun r w hw => ?_)
  obtain ⟨rfl, -⟩ := hw
  refine wp_if.mpr ⟨fun _ => wp_rd.mpr ⟨hk.vin, wp_rd.mpr ⟨hk.vin, ?_⟩⟩, fun _ => wp_some.mpr ⟨rfl, Or.inl rfl⟩⟩
  rw [wp_bn]
  refine wp_mono (x_named hN hm) (fun r2 w2 hw2 => ?_)
  obtain ⟨rfl, hw2⟩ := hw2
  refine wp_if.mpr ⟨fun _ => wp_some.mpr ⟨rfl, Or.inl rfl⟩, fun c => ?_⟩
  rcases hw2 with q | ⟨q1, q2⟩
  · exact absurd q c
  have hv : vp_in r2 180 := vin_iff.mpr ⟨q1, by omega⟩
  refine wp_rd.mpr ⟨hv, wp_if.mpr ⟨fun c2 => wp_rd.mpr ⟨hv, wp_some.mpr ⟨rfl, Or.inr ⟨hj, ?_⟩⟩⟩, fun _ => wp_some.mpr ⟨rfl, Or.inl rfl⟩⟩⟩
  have hn : r2.toNatClampNeg = r2.toInt.toNat := rfl
  obtain ⟨g0, g1, g2, g3, g4, g5⟩ := hg hj r2.toNatClampNeg (by omega)
  rw [c2] at g1 g2 g3 g4 g5
  exact ⟨g0, g1, g2, g3, g4, g5⟩
theorem x_strength (h : TK2 u T) : wp (F_strength N u) (fun r w => w = u ∧ 0 ≤ r.toInt ∧ r.toInt ≤ 10 ∧ (¬ r.toInt = 0 → u.1 67 = 0 ∧ ¬ isT (tyR u))) := by
  have et : u.2.2.1 2 (u.1 65).toNatClampNeg = tyR u := rfl
  unfold F_strength B_strength_0
  refine wp_if.mpr ⟨fun q => wp_rd.mpr ⟨h.vin, ?_⟩, fun q => wp_some.mpr ⟨rfl, by decide, by decide, fun z => absurd (by decide) z⟩⟩
  rw [et]
  have hit : ∀ {t r : Int32}, tyR u = t → ¬ isT t → 0 ≤ r.toInt → r.toInt ≤ 10 → wp (some (r, u)) (fun r w => w = u ∧ 0 ≤ r.toInt ∧ r.toInt ≤ 10 ∧ (¬ r.toInt = 0 → u.1 67 = 0 ∧ ¬ isT (tyR u))) := fun a b c d => wp_some.mpr ⟨rfl, c, d, fun _ => ⟨q, by rw [a]; exact b⟩⟩
  have h193 : ∀ {t : Int32}, tyR u = t → ¬ isT t → wp (B_strength_193 N u) (fun r w => w = u ∧ 0 ≤ r.toInt ∧ r.toInt ≤ 10 ∧ (¬ r.toInt = 0 → u.1 67 = 0 ∧ ¬ isT (tyR u))) := fun a b => by unfold B_strength_193; exact hit a b (by decide) (by decide)
  have h228 : ∀ {t : Int32}, tyR u = t → ¬ isT t → wp (B_strength_228 N u) (fun r w => w = u ∧ 0 ≤ r.toInt ∧ r.toInt ≤ 10 ∧ (¬ r.toInt = 0 → u.1 67 = 0 ∧ ¬ isT (tyR u))) := fun a b => by unfold B_strength_228; exact hit a b (by decide) (by decide)
  have h278 : ∀ {t : Int32}, tyR u = t → ¬ isT t → wp (B_strength_278 N u) (fun r w => w = u ∧ 0 ≤ r.toInt ∧ r.toInt ≤ 10 ∧ (¬ r.toInt = 0 → u.1 67 = 0 ∧ ¬ isT (tyR u))) := fun a b => by unfold B_strength_278; exact hit a b (by decide) (by decide)
  repeat' (first
    | (refine wp_if.mpr ⟨fun c => ?_, fun _ => ?_⟩; (first | exact hit c (by unfold isT; decide) (by decide) (by decide) | exact h193 c (by unfold isT; decide) | exact h228 c (by unfold isT; decide) | exact h278 c (by unfold isT; decide)))
    | (refine wp_rd.mpr ⟨h.vin, ?_⟩; rw [et])
    | exact wp_some.mpr ⟨rfl, by decide, by decide, fun z => absurd (by decide) z⟩)
end RNames
