/-! Reading the tape. -/
def TPq (u : RSt) : Prop := 0 ≤ (u.1 1).toInt ∧ (u.1 1).toInt ≤ 6000
/-- what stands on the tape at l -/
def seV (u : RSt) (l : Int32) : Int32 := if u.1 1 ≤ l then -1 else u.2.2.1 0 l.toNatClampNeg
section RSee
variable {u v w : RSt} {N : Nat} {l1 l2 l3 : Int32}
theorem x_see (ht : TPq u) (h : 0 ≤ l1.toInt) : wp (F_see N l1 u) (fun r w => w = u ∧ r = seV u l1) := by
  unfold F_see B_see_0 seV
  refine wp_if.mpr ⟨fun c => wp_some.mpr ⟨rfl, by rw [if_pos c]⟩, fun c => ?_⟩
  have c1 := Int32.lt_iff_toInt_lt.mp (Int32.not_le.mp c)
  exact wp_rd.mpr ⟨vin_iff.mpr ⟨h, by have := ht.2; omega⟩, wp_some.mpr ⟨rfl, by rw [if_neg c]⟩⟩
theorem seV_in (h : ¬ seV u l1 = -1) : l1.toInt < (u.1 1).toInt := by
  unfold seV at h
  by_cases c : u.1 1 ≤ l1
  · rw [if_pos c] at h
    exact absurd rfl h
  · exact Int32.lt_iff_toInt_lt.mp (Int32.not_le.mp c)
theorem x_packed (hN : 5000000000 ≤ N) (ht : TPq u) (h1 : 0 ≤ l1.toInt ∧ l1.toInt ≤ 7000) (h3 : 0 ≤ l3.toInt ∧ l3.toInt ≤ 6) : wp (F_packed N l1 l2 l3 u) (fun _ w => w = u) := by
  have e1 : (1 : Int32).toInt = 1 := by decide
  have e6 : (6 : Int32).toInt = 6 := by decide
  have e13 : (l1 + l3).toInt = l1.toInt + l3.toInt := tI_add (by omega) (by omega)
  have e136 : (l1 + l3 + 6).toInt = l1.toInt + l3.toInt + 6 := by rw [tI_add (by rw [e6]; omega) (by rw [e6]; omega), e13, e6]
  unfold F_packed B_packed_0 LP_packed_8
  refine wp_lp (fun (d : Nat) (x : Int32 × Int32 × Int32 × Int64 × Int32 × RSt) => x.1 = l1 ∧ x.2.2.1 = l3 ∧ x.2.2.2.2.2 = u ∧ 0 ≤ x.2.2.2.2.1.toInt ∧ x.2.2.2.2.1.toInt ≤ 7020 ∧ d = (8000 - x.2.2.2.2.1.toInt).toNat) ?_ _ ((8000 - (l1 + l3).toInt).toNat) _ (by omega) ⟨rfl, rfl, rfl, by show 0 ≤ (l1 + l3).toInt; omega, by show (l1 + l3).toInt ≤ 7020; omega, rfl⟩
  rintro d R ⟨m1, m2, m3, m4, m6, v⟩ ⟨q1, q2, q3, q4, q5, q6⟩ ih
  dsimp only at q1 q2 q3 q4 q5 q6 ih ⊢
  subst q1 q2 q3
  unfold B_packed_8
  refine wp_if.mpr ⟨fun _ => wp_some.mpr rfl, fun _ => wp_if.mpr ⟨fun _ => wp_some.mpr rfl, fun c => ?_⟩⟩
  have c1 := Int32.lt_iff_toInt_lt.mp (Int32.not_le.mp c)
  have el : (m6 + 1).toInt = m6.toInt + 1 := by rw [tI_add (by rw [e1]; omega) (by rw [e1]; omega), e1]
  rw [wp_bn]
  refine wp_mono (x_see ht q4) (fun r w hw => ?_)
  obtain ⟨rfl, -⟩ := hw
  exact ih ((8000 - (m6 + 1).toInt).toNat) _ (by omega) ⟨rfl, rfl, rfl, by show 0 ≤ (m6 + 1).toInt; omega, by show (m6 + 1).toInt ≤ 7020; omega, rfl⟩
theorem x_among_3 (hN : 5000000000 ≤ N) (ht : TPq u) (h2 : 0 ≤ l2.toInt ∧ l2.toInt ≤ 7000) : wp (F_among_3 N l2 l3 u) (fun _ w => w = u) := by
  have e1 : (1 : Int32).toInt = 1 := by decide
  have eL : (151 : Int32).toInt = 151 := by decide
  unfold F_among_3 B_among_3_0 LP_among_3_9
  refine wp_lp (fun (d : Nat) (x : Int32 × Int32 × Int32 × Int32 × Int32 × RSt) => x.1 = l2 ∧ x.2.1 = l3 ∧ x.2.2.2.2.2 = u ∧ 0 ≤ x.2.2.2.1.toInt ∧ x.2.2.2.1.toInt ≤ x.2.2.2.2.1.toInt ∧ x.2.2.2.2.1.toInt ≤ 151 ∧ d = (151 - x.2.2.2.2.1.toInt).toNat) ?_ _ 151 _ (by omega) ⟨rfl, rfl, rfl, by show 0 ≤ (0 : Int32).toInt; decide, by show (0 : Int32).toInt ≤ (0 : Int32).toInt; decide, by show (0 : Int32).toInt ≤ 151; decide, rfl⟩
  rintro d R ⟨m2, m3, m4, m5, m6, v⟩ ⟨q1, q2, q3, q4, q5, q6, q7⟩ ih
  dsimp only at q1 q2 q3 q4 q5 q6 q7 ih ⊢
  subst q1 q2 q3
  unfold B_among_3_9
  refine wp_if.mpr ⟨fun _ => wp_some.mpr rfl, fun c => ?_⟩
  have c1 := Int32.lt_iff_toInt_lt.mp (Int32.not_le.mp c)
  rw [eL] at c1
  have el : (m6 + 1).toInt = m6.toInt + 1 := by rw [tI_add (by rw [e1]; omega) (by rw [e1]; omega), e1]
  have ed : (m6 - m5).toInt = m6.toInt - m5.toInt := tI_sub (by omega) (by omega)
  have on : ∀ a b : Int32, 0 ≤ b.toInt → b.toInt ≤ m6.toInt + 1 → wp (B_among_3_112 N R m2 m3 a b m6 v) (fun _ w => w = v) := by
    intro a b hb1 hb2
    unfold B_among_3_112
    exact ih ((151 - (m6 + 1).toInt).toNat) _ (by omega) ⟨rfl, rfl, rfl, hb1, by show b.toInt ≤ (m6 + 1).toInt; omega, by show (m6 + 1).toInt ≤ 151; omega, rfl⟩
  have e46 : ∀ s : Int32, (¬ s = 0 → m6 - m5 = m3) → wp (B_among_3_46 N R m2 m3 m4 m5 m6 s v) (fun _ w => w = v) := by
    intro s hs
    unfold B_among_3_46 LP_among_3_51
    refine wp_lp (fun (d : Nat) (x : Int32 × Int32 × Int32 × Int32 × Int32 × Int32 × Int32 × RSt) => x.1 = m2 ∧ x.2.1 = m3 ∧ x.2.2.1 = m4 ∧ x.2.2.2.1 = m5 ∧ x.2.2.2.2.1 = m6 ∧ (¬ x.2.2.2.2.2.1 = 0 → m6 - m5 = m3) ∧ 0 ≤ x.2.2.2.2.2.2.1.toInt ∧ x.2.2.2.2.2.2.1.toInt ≤ 151 ∧ x.2.2.2.2.2.2.2 = v ∧ d = (151 - x.2.2.2.2.2.2.1.toInt).toNat) ?_ _ 151 _ (by omega) ⟨rfl, rfl, rfl, rfl, rfl, hs, by show 0 ≤ (0 : Int32).toInt; decide, by show (0 : Int32).toInt ≤ 151; decide, rfl, rfl⟩
    rintro d2 R2 ⟨n2, n3, n4, n5, n6, n7, n8, x⟩ ⟨p1, p2, p3, p4, p5, p6, p7, p8, p9, p10⟩ ih2
    dsimp only at p1 p2 p3 p4 p5 p6 p7 p8 p9 p10 ih2 ⊢
    subst p1 p2 p3 p4 p5 p9
    have e95 : wp (B_among_3_95 N R n2 n3 n4 n6 n7 x) (fun _ w => w = x) := by
      unfold B_among_3_95
      exact wp_if.mpr ⟨fun _ => on _ _ (by omega) (by omega), fun _ => wp_some.mpr rfl⟩
    unfold B_among_3_51
    refine wp_if.mpr ⟨fun _ => e95, fun g1 => wp_if.mpr ⟨fun _ => e95, fun g2 => ?_⟩⟩
    have g1 := Int32.lt_iff_toInt_lt.mp (Int32.not_le.mp g1)
    have g3 := p6 g2
    rw [← g3, ed] at g1
    have e58 : (n5 + n8).toInt = n5.toInt + n8.toInt := tI_add (by omega) (by omega)
    have e28 : (n2 + n8).toInt = n2.toInt + n8.toInt := tI_add (by omega) (by omega)
    have e8 : (n8 + 1).toInt = n8.toInt + 1 := by rw [tI_add (by rw [e1]; omega) (by rw [e1]; omega), e1]
    refine wp_rd.mpr ⟨vin_iff.mpr ⟨by omega, by omega⟩, ?_⟩
    rw [wp_bn]
    refine wp_mono (x_see ht (by omega)) (fun r w hw => ?_)
    obtain ⟨rfl, -⟩ := hw
    have nx : ∀ s : Int32, wp (B_among_3_87 N R R2 n2 n3 n4 n5 n6 n8 s w) (fun _ z => z = w) := by
      intro s
      unfold B_among_3_87
      exact ih2 ((151 - (n8 + 1).toInt).toNat) _ (by omega) ⟨rfl, rfl, rfl, rfl, rfl, fun _ => g3, by show 0 ≤ (n8 + 1).toInt; omega, by show (n8 + 1).toInt ≤ 151; omega, rfl, rfl⟩
    exact wp_if.mpr ⟨fun _ => nx 1, fun _ => nx 0⟩
  refine wp_rd.mpr ⟨vin_iff.mpr ⟨by omega, by omega⟩, wp_if.mpr ⟨fun _ => wp_if.mpr ⟨fun q => e46 1 (fun _ => q), fun _ => e46 0 (fun z => absurd rfl z)⟩, fun _ => on _ _ (by omega) (by omega)⟩⟩
theorem x_among_4 (hN : 5000000000 ≤ N) (ht : TPq u) (h2 : 0 ≤ l2.toInt ∧ l2.toInt ≤ 7000) : wp (F_among_4 N l2 l3 u) (fun _ w => w = u) := by
  have e1 : (1 : Int32).toInt = 1 := by decide
  have eL : (122 : Int32).toInt = 122 := by decide
  unfold F_among_4 B_among_4_0 LP_among_4_9
  refine wp_lp (fun (d : Nat) (x : Int32 × Int32 × Int32 × Int32 × Int32 × RSt) => x.1 = l2 ∧ x.2.1 = l3 ∧ x.2.2.2.2.2 = u ∧ 0 ≤ x.2.2.2.1.toInt ∧ x.2.2.2.1.toInt ≤ x.2.2.2.2.1.toInt ∧ x.2.2.2.2.1.toInt ≤ 122 ∧ d = (122 - x.2.2.2.2.1.toInt).toNat) ?_ _ 122 _ (by omega) ⟨rfl, rfl, rfl, by show 0 ≤ (0 : Int32).toInt; decide, by show (0 : Int32).toInt ≤ (0 : Int32).toInt; decide, by show (0 : Int32).toInt ≤ 122; decide, rfl⟩
  rintro d R ⟨m2, m3, m4, m5, m6, v⟩ ⟨q1, q2, q3, q4, q5, q6, q7⟩ ih
  dsimp only at q1 q2 q3 q4 q5 q6 q7 ih ⊢
  subst q1 q2 q3
  unfold B_among_4_9
  refine wp_if.mpr ⟨fun _ => wp_some.mpr rfl, fun c => ?_⟩
  have c1 := Int32.lt_iff_toInt_lt.mp (Int32.not_le.mp c)
  rw [eL] at c1
  have el : (m6 + 1).toInt = m6.toInt + 1 := by rw [tI_add (by rw [e1]; omega) (by rw [e1]; omega), e1]
  have ed : (m6 - m5).toInt = m6.toInt - m5.toInt := tI_sub (by omega) (by omega)
  have on : ∀ a b : Int32, 0 ≤ b.toInt → b.toInt ≤ m6.toInt + 1 → wp (B_among_4_112 N R m2 m3 a b m6 v) (fun _ w => w = v) := by
    intro a b hb1 hb2
    unfold B_among_4_112
    exact ih ((122 - (m6 + 1).toInt).toNat) _ (by omega) ⟨rfl, rfl, rfl, hb1, by show b.toInt ≤ (m6 + 1).toInt; omega, by show (m6 + 1).toInt ≤ 122; omega, rfl⟩
  have e46 : ∀ s : Int32, (¬ s = 0 → m6 - m5 = m3) → wp (B_among_4_46 N R m2 m3 m4 m5 m6 s v) (fun _ w => w = v) := by
    intro s hs
    unfold B_among_4_46 LP_among_4_51
    refine wp_lp (fun (d : Nat) (x : Int32 × Int32 × Int32 × Int32 × Int32 × Int32 × Int32 × RSt) => x.1 = m2 ∧ x.2.1 = m3 ∧ x.2.2.1 = m4 ∧ x.2.2.2.1 = m5 ∧ x.2.2.2.2.1 = m6 ∧ (¬ x.2.2.2.2.2.1 = 0 → m6 - m5 = m3) ∧ 0 ≤ x.2.2.2.2.2.2.1.toInt ∧ x.2.2.2.2.2.2.1.toInt ≤ 122 ∧ x.2.2.2.2.2.2.2 = v ∧ d = (122 - x.2.2.2.2.2.2.1.toInt).toNat) ?_ _ 122 _ (by omega) ⟨rfl, rfl, rfl, rfl, rfl, hs, by show 0 ≤ (0 : Int32).toInt; decide, by show (0 : Int32).toInt ≤ 122; decide, rfl, rfl⟩
    rintro d2 R2 ⟨n2, n3, n4, n5, n6, n7, n8, x⟩ ⟨p1, p2, p3, p4, p5, p6, p7, p8, p9, p10⟩ ih2
    dsimp only at p1 p2 p3 p4 p5 p6 p7 p8 p9 p10 ih2 ⊢
    subst p1 p2 p3 p4 p5 p9
    have e95 : wp (B_among_4_95 N R n2 n3 n4 n6 n7 x) (fun _ w => w = x) := by
      unfold B_among_4_95
      exact wp_if.mpr ⟨fun _ => on _ _ (by omega) (by omega), fun _ => wp_some.mpr rfl⟩
    unfold B_among_4_51
    refine wp_if.mpr ⟨fun _ => e95, fun g1 => wp_if.mpr ⟨fun _ => e95, fun g2 => ?_⟩⟩
    have g1 := Int32.lt_iff_toInt_lt.mp (Int32.not_le.mp g1)
    have g3 := p6 g2
    rw [← g3, ed] at g1
    have e58 : (n5 + n8).toInt = n5.toInt + n8.toInt := tI_add (by omega) (by omega)
    have e28 : (n2 + n8).toInt = n2.toInt + n8.toInt := tI_add (by omega) (by omega)
    have e8 : (n8 + 1).toInt = n8.toInt + 1 := by rw [tI_add (by rw [e1]; omega) (by rw [e1]; omega), e1]
    refine wp_rd.mpr ⟨vin_iff.mpr ⟨by omega, by omega⟩, ?_⟩
    rw [wp_bn]
    refine wp_mono (x_see ht (by omega)) (fun r w hw => ?_)
    obtain ⟨rfl, -⟩ := hw
    have nx : ∀ s : Int32, wp (B_among_4_87 N R R2 n2 n3 n4 n5 n6 n8 s w) (fun _ z => z = w) := by
      intro s
      unfold B_among_4_87
      exact ih2 ((122 - (n8 + 1).toInt).toNat) _ (by omega) ⟨rfl, rfl, rfl, rfl, rfl, fun _ => g3, by show 0 ≤ (n8 + 1).toInt; omega, by show (n8 + 1).toInt ≤ 122; omega, rfl, rfl⟩
    exact wp_if.mpr ⟨fun _ => nx 1, fun _ => nx 0⟩
  refine wp_rd.mpr ⟨vin_iff.mpr ⟨by omega, by omega⟩, wp_if.mpr ⟨fun _ => wp_if.mpr ⟨fun q => e46 1 (fun _ => q), fun _ => e46 0 (fun z => absurd rfl z)⟩, fun _ => on _ _ (by omega) (by omega)⟩⟩
end RSee
