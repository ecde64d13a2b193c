/-! Frames for the calls; what is kept when a text is taken over. -/
/-- nothing but these changes -/
def FX (a b c : List Nat) (u w : RSt) : Prop := (∀ k, k ∉ a → w.1 k = u.1 k) ∧ (∀ k, k ∉ b → w.2.2.1 k = u.2.2.1 k) ∧ (∀ k, k ∉ c → w.2.2.2 k = u.2.2.2 k)
/-- a task stands or it does not -/
def BQ (u : RSt) : Prop := ∀ j, u.2.2.1 88 j = 0 ∨ u.2.2.1 88 j = 1
def FXB (u w : RSt) : Prop := FX [] [88] [82] u w ∧ (BQ u → BQ w)
section RFace
variable {u v w : RSt} {a b c : List Nat} {N k j : Nat} {x l1 l2 l3 : Int32} {y : Int64}
theorem FX.rf : FX a b c u u := ⟨fun _ _ => rfl, fun _ _ => rfl, fun _ _ => rfl⟩
theorem FX.tr (h : FX a b c u v) (h2 : FX a b c v w) : FX a b c u w := ⟨fun k hk => (h2.1 k hk).trans (h.1 k hk), fun k hk => (h2.2.1 k hk).trans (h.2.1 k hk), fun k hk => (h2.2.2 k hk).trans (h.2.2 k hk)⟩
theorem FX.mo {a' b' c' : List Nat} (h : FX a b c u w) (ha : ∀ k, k ∈ a → k ∈ a') (hb : ∀ k, k ∈ b → k ∈ b') (hc : ∀ k, k ∈ c → k ∈ c') : FX a' b' c' u w := ⟨fun k hk => h.1 k (fun z => hk (ha k z)), fun k hk => h.2.1 k (fun z => hk (hb k z)), fun k hk => h.2.2 k (fun z => hk (hc k z))⟩
theorem FX.si (h : FX a b c u w) (hk : k ∈ a) : FX a b c u (sI w k x) := ⟨fun j hj => by rw [sI_1, if_neg (fun z => hj (by rw [z]; exact hk))]; exact h.1 j hj, h.2.1, h.2.2⟩
theorem FX.sl (h : FX a b c u w) : FX a b c u (sL w k y) := h
theorem FX.sa (h : FX a b c u w) (hk : k ∈ b) : FX a b c u (sA w k j x) := ⟨h.1, fun i hi => by rw [sA_3, if_neg (fun z => hi (by rw [z]; exact hk))]; exact h.2.1 i hi, h.2.2⟩
theorem FX.sb (h : FX a b c u w) (hk : k ∈ c) : FX a b c u (sB w k j y) := ⟨h.1, h.2.1, fun i hi => by rw [sB_4, if_neg (fun z => hi (by rw [z]; exact hk))]; exact h.2.2 i hi⟩
/-- the tables stay -/
theorem FX.tb0 (h : FX a b c u w) (ht : TB0 u) (ha : ∀ k, k ∈ [56, 61, 72] → k ∉ a) (hb : ∀ k, k ∈ [10, 11, 12, 13, 15, 19, 20, 21, 23, 27, 28, 29, 30, 31, 33, 36, 37, 38, 39, 42, 48] → k ∉ b) : TB0 w := by
  have h1 : ∀ k, k ∈ [56, 61, 72] → w.1 k = u.1 k := fun k hk => h.1 k (ha k hk)
  have h2 : ∀ k, k ∈ [10, 11, 12, 13, 15, 19, 20, 21, 23, 27, 28, 29, 30, 31, 33, 36, 37, 38, 39, 42, 48] → w.2.2.1 k = u.2.2.1 k := fun k hk => h.2.1 k (hb k hk)
  unfold TB0 VOK SLT PRT INT CNT
  rw [h1 61 (by decide), h1 72 (by decide), h1 56 (by decide), h2 10 (by decide), h2 11 (by decide), h2 12 (by decide), h2 13 (by decide), h2 15 (by decide), h2 20 (by decide), h2 21 (by decide), h2 23 (by decide), h2 28 (by decide), h2 29 (by decide), h2 30 (by decide), h2 31 (by decide), h2 33 (by decide), h2 38 (by decide), h2 39 (by decide), h2 19 (by decide), h2 27 (by decide), h2 42 (by decide), h2 37 (by decide), h2 36 (by decide), h2 48 (by decide)]
  exact ht
theorem x_begin (hN : 5000000000 ≤ N) : wp (F_begin N u) (fun _ w => FX [104] [85] [] u w) := by
  have e1 : (1 : Int32).toInt = 1 := by decide
  have e128 : (128 : Int32).toInt = 128 := by decide
  unfold F_begin B_begin_0
  refine wp_pu.mpr ?_
  unfold LP_begin_7
  refine wp_lp (fun (d : Nat) (x : Int32 × RSt) => 0 ≤ x.1.toInt ∧ x.1.toInt ≤ 128 ∧ FX [104] [85] [] u x.2 ∧ d = (128 - x.1.toInt).toNat) ?_ _ 128 _ (by omega) ⟨by show 0 ≤ (0 : Int32).toInt; decide, by show (0 : Int32).toInt ≤ 128; decide, FX.rf.si (by decide), rfl⟩
  rintro d R ⟨m1, z⟩ ⟨q1, q2, q3, q4⟩ ih
  dsimp only at q1 q2 q3 q4 ih ⊢
  unfold B_begin_7
  refine wp_if.mpr ⟨fun _ => wp_some.mpr q3, fun cc => ?_⟩
  have c1 := Int32.lt_iff_toInt_lt.mp (Int32.not_le.mp cc)
  rw [e128] at c1
  have el : (m1 + 1).toInt = m1.toInt + 1 := by rw [tI_add (by rw [e1]; omega) (by rw [e1]; omega), e1]
  exact wp_wr.mpr ⟨vin_iff.mpr ⟨q1, by omega⟩, ih ((128 - (m1 + 1).toInt).toNat) _ (by omega) ⟨by show 0 ≤ (m1 + 1).toInt; omega, by show (m1 + 1).toInt ≤ 128; omega, q3.sa (by decide), rfl⟩⟩
theorem BQ.of (h : BQ u) (he : w.2.2.1 88 = u.2.2.1 88) : BQ w := by
  unfold BQ
  rw [he]
  exact h
theorem BQ.s88 (h : BQ u) (hx : x = 0 ∨ x = 1) : BQ (sA u 88 j x) := by
  intro i
  show upd (u.2.2.1 88) j x i = 0 ∨ upd (u.2.2.1 88) j x i = 1
  unfold upd
  by_cases c : i = j
  · rw [if_pos c]; exact hx
  · rw [if_neg c]; exact h i
theorem FXB.rf : FXB u u := ⟨FX.rf, fun h => h⟩
theorem FXB.s88 (h : FXB u w) (hx : x = 0 ∨ x = 1) : FXB u (sA w 88 j x) := ⟨h.1.sa (by decide), fun q => (h.2 q).s88 hx⟩
theorem FXB.sb (h : FXB u w) : FXB u (sB w 82 j y) := ⟨h.1.sb (by decide), fun q => h.2 q⟩
theorem x_anew (hN : 5000000000 ≤ N) (ht : TB0 u) (h0 : 0 ≤ (u.1 55).toInt) (h1 : (u.1 55).toInt ≤ 1) : wp (F_anew N u) (fun _ w => FXB u w) := by
  have e1 : (1 : Int32).toInt = 1 := by decide
  have e8 : (8 : Int32).toInt = 8 := by decide
  have e24 : (24 : Int32).toInt = 24 := by decide
  have e160 : (160 : Int32).toInt = 160 := by decide
  obtain ⟨t1, t2, t3, t4, t5, t6, t7, t8, t9, t10⟩ := ht
  have em : (24 * u.1 55).toInt = 24 * (u.1 55).toInt := by rw [tI_mul (by rw [e24]; omega) (by rw [e24]; omega), e24]
  have em6 : (160 * u.1 55).toInt = 160 * (u.1 55).toInt := by rw [tI_mul (by rw [e160]; omega) (by rw [e160]; omega), e160]
  have v2 : vp_in (u.1 55) 2 := vin_iff.mpr ⟨h0, by omega⟩
  have c42 := (t5 (u.1 55).toNatClampNeg).2.2.2.2.1
  have e242 : (24 * u.1 55 + u.2.2.1 42 (u.1 55).toNatClampNeg).toInt = 24 * (u.1 55).toInt + (u.2.2.1 42 (u.1 55).toNatClampNeg).toInt := by rw [tI_add (by omega) (by omega), em]
  unfold F_anew B_anew_0 LP_anew_8
  refine wp_lp (fun (d : Nat) (x : Int32 × RSt) => 0 ≤ x.1.toInt ∧ x.1.toInt ≤ 48 ∧ FXB u x.2 ∧ d = (48 - x.1.toInt).toNat) ?_ _ ((48 - (24 * u.1 55).toInt).toNat) _ (by omega) ⟨by show 0 ≤ (24 * u.1 55).toInt; omega, by show (24 * u.1 55).toInt ≤ 48; omega, FXB.rf, rfl⟩
  rintro d R ⟨m1, z⟩ ⟨q1, q2, q3, q4⟩ ih
  dsimp only at q1 q2 q3 q4 ih ⊢
  have z55 : z.1 55 = u.1 55 := q3.1.1 55 (by decide)
  have zt : ∀ k, k ≠ 88 → z.2.2.1 k = u.2.2.1 k := fun k hk => q3.1.2.1 k (by simp; exact hk)
  unfold B_anew_8
  refine wp_rd.mpr ⟨by rw [z55]; exact v2, ?_⟩
  rw [z55, zt 42 (by decide)]
  refine wp_if.mpr ⟨fun _ => ?_, fun cc => ?_⟩
  · unfold LP_anew_139
    refine wp_lp (fun (d : Nat) (x : Int32 × RSt) => 0 ≤ x.1.toInt ∧ x.1.toInt ≤ 8 ∧ FXB u x.2 ∧ d = (8 - x.1.toInt).toNat) ?_ _ 8 _ (by omega) ⟨by show 0 ≤ (0 : Int32).toInt; decide, by show (0 : Int32).toInt ≤ 8; decide, q3, rfl⟩
    rintro d R ⟨m1, z⟩ ⟨q1, q2, q3, q4⟩ ih
    dsimp only at q1 q2 q3 q4 ih ⊢
    unfold B_anew_139
    refine wp_if.mpr ⟨fun _ => wp_some.mpr q3, fun cc => ?_⟩
    have c1 := Int32.lt_iff_toInt_lt.mp (Int32.not_le.mp cc)
    rw [e8] at c1
    have el : (m1 + 1).toInt = m1.toInt + 1 := by rw [tI_add (by rw [e1]; omega) (by rw [e1]; omega), e1]
    exact wp_wr.mpr ⟨vin_iff.mpr ⟨q1, by omega⟩, ih ((8 - (m1 + 1).toInt).toNat) _ (by omega) ⟨by show 0 ≤ (m1 + 1).toInt; omega, by show (m1 + 1).toInt ≤ 8; omega, q3.s88 (Or.inl vn_0), rfl⟩⟩
  · have c1 := Int32.lt_iff_toInt_lt.mp (Int32.not_le.mp cc)
    rw [e242] at c1
    have el : (m1 + 1).toInt = m1.toInt + 1 := by rw [tI_add (by rw [e1]; omega) (by rw [e1]; omega), e1]
    have vm : vp_in m1 48 := vin_iff.mpr ⟨q1, by omega⟩
    refine wp_rd.mpr ⟨vm, ?_⟩
    rw [zt 38 (by decide)]
    obtain ⟨i1, i2, i3, i4⟩ := t4 m1.toNatClampNeg
    have vb : vp_in (u.2.2.1 38 m1.toNatClampNeg) 48 := vin_iff.mpr ⟨i1, by omega⟩
    refine wp_rd.mpr ⟨vb, ?_⟩
    rw [zt 28 (by decide)]
    generalize eb : u.2.2.1 38 m1.toNatClampNeg = b at vb i1 i2 ⊢
    obtain ⟨p1, p2, p3, p4, p5, p6, p7, p8⟩ := t3 b.toNatClampNeg
    have e28 : (160 * u.1 55 + u.2.2.1 28 b.toNatClampNeg).toInt = 160 * (u.1 55).toInt + (u.2.2.1 28 b.toNatClampNeg).toInt := by rw [tI_add (by omega) (by omega), em6]
    have e29 : (160 * u.1 55 + u.2.2.1 28 b.toNatClampNeg + u.2.2.1 29 b.toNatClampNeg).toInt = 160 * (u.1 55).toInt + (u.2.2.1 28 b.toNatClampNeg).toInt + (u.2.2.1 29 b.toNatClampNeg).toInt := by rw [tI_add (by omega) (by omega), e28]
    unfold LP_anew_52
    refine wp_lp (fun (d : Nat) (x : Int32 × Int32 × Int32 × RSt) => x.1 = m1 ∧ x.2.1 = b ∧ 0 ≤ x.2.2.1.toInt ∧ x.2.2.1.toInt ≤ 320 ∧ FXB u x.2.2.2 ∧ d = (320 - x.2.2.1.toInt).toNat) ?_ _ ((320 - (160 * u.1 55 + u.2.2.1 28 b.toNatClampNeg).toInt).toNat) _ (by omega) ⟨rfl, rfl, by show 0 ≤ (160 * u.1 55 + u.2.2.1 28 b.toNatClampNeg).toInt; omega, by show (160 * u.1 55 + u.2.2.1 28 b.toNatClampNeg).toInt ≤ 320; omega, q3, rfl⟩
    rintro d2 R2 ⟨n1, n2, n3, s⟩ ⟨r1, r2, r3, r4, r5, r6⟩ ih2
    dsimp only at r1 r2 r3 r4 r5 r6 ih2 ⊢
    subst r1 r2
    have s55 : s.1 55 = u.1 55 := r5.1.1 55 (by decide)
    have st : ∀ k, k ≠ 88 → s.2.2.1 k = u.2.2.1 k := fun k hk => r5.1.2.1 k (by simp; exact hk)
    unfold B_anew_52
    refine wp_rd.mpr ⟨vb, wp_rd.mpr ⟨vb, ?_⟩⟩
    rw [st 28 (by decide), st 29 (by decide), s55]
    refine wp_if.mpr ⟨fun _ => ih ((48 - (n1 + 1).toInt).toNat) _ (by omega) ⟨by show 0 ≤ (n1 + 1).toInt; omega, by show (n1 + 1).toInt ≤ 48; omega, r5, rfl⟩, fun cc2 => ?_⟩
    have c2 := Int32.lt_iff_toInt_lt.mp (Int32.not_le.mp cc2)
    rw [e29] at c2
    have el3 : (n3 + 1).toInt = n3.toInt + 1 := by rw [tI_add (by rw [e1]; omega) (by rw [e1]; omega), e1]
    have vn : vp_in n3 320 := vin_iff.mpr ⟨r3, by omega⟩
    obtain ⟨k1, k2, k3, k4, k5, k6⟩ := t2 n3.toNatClampNeg
    unfold LP_anew_81
    refine wp_lp (fun (d : Nat) (x : Int32 × Int32 × Int32 × Int32 × RSt) => x.1 = n1 ∧ x.2.1 = n2 ∧ x.2.2.1 = n3 ∧ 0 ≤ x.2.2.2.1.toInt ∧ x.2.2.2.1.toInt ≤ 100 ∧ FXB u x.2.2.2.2 ∧ d = (100 - x.2.2.2.1.toInt).toNat) ?_ _ 100 _ (by omega) ⟨rfl, rfl, rfl, by show 0 ≤ (0 : Int32).toInt; decide, by show (0 : Int32).toInt ≤ 100; decide, r5, rfl⟩
    rintro d3 R3 ⟨g1, g2, g3, g4, o⟩ ⟨f1, f2, f3, f4, f5, f6, f7⟩ ih3
    dsimp only at f1 f2 f3 f4 f5 f6 f7 ih3 ⊢
    subst f1 f2 f3
    have ot : ∀ k, k ≠ 88 → o.2.2.1 k = u.2.2.1 k := fun k hk => f6.1.2.1 k (by simp; exact hk)
    unfold B_anew_81
    refine wp_rd.mpr ⟨vn, ?_⟩
    rw [ot 21 (by decide)]
    refine wp_if.mpr ⟨fun _ => ih2 ((320 - (g3 + 1).toInt).toNat) _ (by omega) ⟨rfl, rfl, by show 0 ≤ (g3 + 1).toInt; omega, by show (g3 + 1).toInt ≤ 320; omega, f6, rfl⟩, fun cc3 => ?_⟩
    have c3 := Int32.lt_iff_toInt_lt.mp (Int32.not_le.mp cc3)
    have el4 : (g4 + 1).toInt = g4.toInt + 1 := by rw [tI_add (by rw [e1]; omega) (by rw [e1]; omega), e1]
    refine wp_rd.mpr ⟨vm, wp_rd.mpr ⟨vn, wp_rd.mpr ⟨vn, ?_⟩⟩⟩
    rw [ot 39 (by decide), ot 23 (by decide)]
    have ea : (u.2.2.1 39 g1.toNatClampNeg + u.2.2.1 23 g3.toNatClampNeg).toInt = (u.2.2.1 39 g1.toNatClampNeg).toInt + (u.2.2.1 23 g3.toNatClampNeg).toInt := tI_add (by omega) (by omega)
    have ea2 : (u.2.2.1 39 g1.toNatClampNeg + u.2.2.1 23 g3.toNatClampNeg + g4).toInt = (u.2.2.1 39 g1.toNatClampNeg).toInt + (u.2.2.1 23 g3.toNatClampNeg).toInt + g4.toInt := by rw [tI_add (by omega) (by omega), ea]
    exact wp_wr.mpr ⟨vin_iff.mpr ⟨by omega, by omega⟩, ih3 ((100 - (g4 + 1).toInt).toNat) _ (by omega) ⟨rfl, rfl, rfl, by show 0 ≤ (g4 + 1).toInt; omega, by show (g4 + 1).toInt ≤ 100; omega, f6.sb, rfl⟩⟩
end RFace
