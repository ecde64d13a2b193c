/-! The last calls of the reference. -/
section RCalls3
variable {u v w : RSt} {N k j : Nat} {x l1 l2 l3 l4 l5 l6 : Int32} {y y2 : Int64}
theorem dec8 {m : Int32} (h : -2000000000 ≤ m.toInt) : (m + (-8)).toInt = m.toInt - 8 := by
  have em : (-8 : Int32).toInt = -8 := by decide
  have hm : m.toInt ≤ 2147483647 := Int32.toInt_le m
  have e := tI_add (a := m) (b := -8) (by rw [em]; omega) (by rw [em]; omega)
  rw [em] at e
  exact e
theorem x_feed (hN : 5000000000 ≤ N) (h : UB u) : wp (F_feed N l1 l2 l3 l4 l5 u) (fun _ w => UB w) := by
  have z0 : (0 : Int32).toInt = 0 := by decide
  have e1 : (1 : Int32).toInt = 1 := by decide
  have e5 : (5 : Int32).toInt = 5 := by decide
  have e20 : (20 : Int32).toInt = 20 := by decide
  have e24 : (24 : Int32).toInt = 24 := by decide
  have e6 : (6000 : Int32).toInt = 6000 := by decide
  unfold F_feed B_feed_0
  refine wp_pu.mpr ?_
  have h9 := h.s9 (x := 0)
  generalize sI u 9 0 = z at h9 ⊢
  have t := h9.1.2.2.2.2.2.1
  have t0 := t.1
  have t1 := t.2
  refine wp_if.mpr ⟨fun c => ?_, fun _ => wp_some.mpr h9⟩
  have c := Int32.le_iff_toInt_le.mp c
  rw [tI_add (by rw [e20]; omega) (by rw [e20]; omega), e20, e6] at c
  unfold LP_feed_23
  refine wp_lp (fun (d : Nat) (x : Int32 × Int32 × Int32 × Int32 × Int32 × Int32 × RSt) => 0 ≤ x.2.2.2.2.2.1.toInt ∧ x.2.2.2.2.2.1.toInt ≤ 5 ∧ UB x.2.2.2.2.2.2 ∧ (x.2.2.2.2.2.2.1 1).toInt = (z.1 1).toInt + 4 * x.2.2.2.2.2.1.toInt ∧ d = (5 - x.2.2.2.2.2.1.toInt).toNat) ?_ _ 5 _ (by omega) ⟨by show 0 ≤ (0 : Int32).toInt; decide, by show (0 : Int32).toInt ≤ 5; decide, h9, by show (z.1 1).toInt = (z.1 1).toInt + 4 * (0 : Int32).toInt; rw [z0]; omega, rfl⟩
  rintro d R ⟨a1, a2, a3, a4, a5, m6, o⟩ ⟨q1, q2, q3, q4, q5⟩ ih
  dsimp only at q1 q2 q3 q4 q5 ih ⊢
  unfold B_feed_23
  refine wp_if.mpr ⟨fun _ => wp_some.mpr q3, fun cc => ?_⟩
  have c1 := Int32.lt_iff_toInt_lt.mp (Int32.not_le.mp cc)
  rw [e5] at c1
  have el : (m6 + 1).toInt = m6.toInt + 1 := by rw [tI_add (by rw [e1]; omega) (by rw [e1]; omega), e1]
  have e71 : ∀ s : Int32, wp (B_feed_71 N R a1 a2 a3 a4 a5 m6 s o) (fun _ w => UB w) := by
    intro s
    unfold B_feed_71 LP_feed_77
    refine wp_lp (fun (d : Nat) (x : Int32 × Int32 × Int32 × Int32 × Int32 × Int32 × Int32 × Int32 × RSt) => x.1 = a1 ∧ x.2.1 = a2 ∧ x.2.2.1 = a3 ∧ x.2.2.2.1 = a4 ∧ x.2.2.2.2.1 = a5 ∧ x.2.2.2.2.2.1 = m6 ∧ UB x.2.2.2.2.2.2.2.2 ∧ (∃ i : Nat, i ≤ 4 ∧ x.2.2.2.2.2.2.2.1.toInt = 24 - 8 * i ∧ (x.2.2.2.2.2.2.2.2.1 1).toInt = (z.1 1).toInt + 4 * m6.toInt + i ∧ d = 4 - i)) ?_ _ 4 _ (by omega) ⟨rfl, rfl, rfl, rfl, rfl, rfl, q3, 0, by omega, by show (24 : Int32).toInt = _; rw [e24]; rfl, by show (o.1 1).toInt = _; omega, rfl⟩
    rintro d2 R2 ⟨b1, b2, b3, b4, b5, b6, b7, b8, p⟩ ⟨r1, r2, r3, r4, r5, r6, r7, i, i1, i2, i3, i4⟩ ih2
    dsimp only at r1 r2 r3 r4 r5 r6 r7 i2 i3 ih2 ⊢
    subst r1 r2 r3 r4 r5 r6
    unfold B_feed_77
    refine wp_if.mpr ⟨fun g => ?_, fun g => wp_pu.mpr ?_⟩
    · have g := Int32.lt_iff_toInt_lt.mp g
      rw [z0] at g
      have : i = 4 := by omega
      subst this
      exact ih ((5 - (b6 + 1).toInt).toNat) _ (by omega) ⟨by show 0 ≤ (b6 + 1).toInt; omega, by show (b6 + 1).toInt ≤ 5; omega, r7, by show (p.1 1).toInt = (z.1 1).toInt + 4 * (b6 + 1).toInt; omega, rfl⟩
    · have g := Int32.le_iff_toInt_le.mp (Int32.not_lt.mp g)
      rw [z0] at g
      have e11 : (p.1 1 + 1).toInt = (p.1 1).toInt + 1 := by rw [tI_add (by rw [e1]; omega) (by rw [e1]; omega), e1]
      have e8 := dec8 (m := b8) (by omega)
      generalize b8 + (-8) = c8 at e8 ⊢
      refine wp_wr.mpr ⟨vin_iff.mpr ⟨by omega, by omega⟩, ?_⟩
      have up : UB (sA (sI p 1 (p.1 1 + 1)) 0 (p.1 1).toNatClampNeg ((b7 >>> (b8 &&& 31)) &&& 255)) := (r7.tp (x := p.1 1 + 1) ⟨by omega, by omega⟩).fx (FX.rf.sa (a := []) (b := [0]) (c := []) (by decide)) (by simp) (by decide)
      exact ih2 (4 - (i + 1)) (b1, b2, b3, b4, b5, b6, b7, c8, sA (sI p 1 (p.1 1 + 1)) 0 (p.1 1).toNatClampNeg ((b7 >>> (b8 &&& 31)) &&& 255)) (by omega) ⟨rfl, rfl, rfl, rfl, rfl, rfl, up, i + 1, by omega, by show c8.toInt = 24 - 8 * ((i + 1 : Nat) : Int); omega, by show (p.1 1 + 1).toInt = _; omega, rfl⟩
  exact wp_if.mpr ⟨fun _ => e71 _, fun _ => wp_if.mpr ⟨fun _ => e71 _, fun _ => wp_if.mpr ⟨fun _ => e71 _, fun _ => wp_if.mpr ⟨fun _ => e71 _, fun _ => e71 _⟩⟩⟩⟩
theorem x_sum (hN : 5000000000 ≤ N) (h : UB u) : wp (F_sum N u) (fun _ w => UB w) := by
  have z0 : (0 : Int32).toInt = 0 := by decide
  have e1 : (1 : Int32).toInt = 1 := by decide
  have e24 : (24 : Int32).toInt = 24 := by decide
  have e160 : (160 : Int32).toInt = 160 := by decide
  unfold F_sum B_sum_0
  refine wp_pu.mpr ?_
  have h9 := h.s9 (x := 0)
  generalize sI u 9 0 = z at h9 ⊢
  have h55 := h9.1.2.2.1
  obtain ⟨t1, t2, t3, t4, t5, t6, t7, t8, t9, t10⟩ := id h9.1.1
  have v5 : vp_in (z.1 55) 2 := vin_iff.mpr ⟨h55.1, by omega⟩
  have c19 := (t5 (z.1 55).toNatClampNeg).1
  have c42 := (t5 (z.1 55).toNatClampNeg).2.2.2.2.1
  have em : (160 * z.1 55).toInt = 160 * (z.1 55).toInt := by rw [tI_mul (by rw [e160]; omega) (by rw [e160]; omega), e160]
  have em4 : (24 * z.1 55).toInt = 24 * (z.1 55).toInt := by rw [tI_mul (by rw [e24]; omega) (by rw [e24]; omega), e24]
  have ea4 : (24 * z.1 55 + z.2.2.1 42 (z.1 55).toNatClampNeg).toInt = 24 * (z.1 55).toInt + (z.2.2.1 42 (z.1 55).toNatClampNeg).toInt := by rw [tI_add (by omega) (by omega), em4]
  unfold LP_sum_9
  refine wp_lp (fun (d : Nat) (x : Int64 × Int32 × RSt) => x.2.2 = z ∧ 0 ≤ x.2.1.toInt ∧ x.2.1.toInt ≤ 160 ∧ d = (160 - x.2.1.toInt).toNat) ?_ _ 160 _ (by omega) ⟨rfl, by show 0 ≤ (0 : Int32).toInt; decide, by show (0 : Int32).toInt ≤ 160; decide, rfl⟩
  rintro d R ⟨m1, m3, o⟩ ⟨q0, q1, q2, q3⟩ ih
  dsimp only at q0 q1 q2 q3 ih ⊢
  subst q0
  unfold B_sum_9
  refine wp_rd.mpr ⟨v5, wp_if.mpr ⟨fun _ => ?_, fun c => ?_⟩⟩
  · unfold LP_sum_79
    refine wp_lp (fun (d : Nat) (x : Int64 × Int32 × RSt) => x.2.2 = o ∧ 0 ≤ x.2.1.toInt ∧ x.2.1.toInt ≤ 48 ∧ d = (48 - x.2.1.toInt).toNat) ?_ _ ((48 - (24 * o.1 55).toInt).toNat) _ (by omega) ⟨rfl, by show 0 ≤ (24 * o.1 55).toInt; omega, by show (24 * o.1 55).toInt ≤ 48; omega, rfl⟩
    rintro d2 R2 ⟨n1, n3, p⟩ ⟨r0, r1, r2, r3⟩ ih2
    dsimp only at r0 r1 r2 r3 ih2 ⊢
    subst r0
    unfold B_sum_79
    refine wp_rd.mpr ⟨v5, wp_if.mpr ⟨fun _ => wp_some.mpr h9, fun c => ?_⟩⟩
    have c1 := Int32.lt_iff_toInt_lt.mp (Int32.not_le.mp c)
    rw [ea4] at c1
    have el : (n3 + 1).toInt = n3.toInt + 1 := by rw [tI_add (by rw [e1]; omega) (by rw [e1]; omega), e1]
    have vn : vp_in n3 48 := vin_iff.mpr ⟨r1, by omega⟩
    obtain ⟨i1, i2, i3, i4⟩ := t4 n3.toNatClampNeg
    have vb : vp_in (p.2.2.1 38 n3.toNatClampNeg) 48 := vin_iff.mpr ⟨i1, by omega⟩
    have b31 := t6 (p.2.2.1 38 n3.toNatClampNeg).toNatClampNeg
    unfold LP_sum_103
    refine wp_lp (fun (d : Nat) (x : Int64 × Int32 × Int32 × RSt) => x.2.1 = n3 ∧ x.2.2.2 = p ∧ 0 ≤ x.2.2.1.toInt ∧ x.2.2.1.toInt ≤ 100 ∧ d = (100 - x.2.2.1.toInt).toNat) ?_ _ 100 _ (by omega) ⟨rfl, rfl, by show 0 ≤ (0 : Int32).toInt; decide, by show (0 : Int32).toInt ≤ 100; decide, rfl⟩
    rintro d3 R3 ⟨g1, g3, g4, f⟩ ⟨s0, s1, s2, s3, s4⟩ ih3
    dsimp only at s0 s1 s2 s3 s4 ih3 ⊢
    subst s0 s1
    unfold B_sum_103
    refine wp_rd.mpr ⟨vn, wp_rd.mpr ⟨vb, wp_if.mpr ⟨fun _ => ih2 ((48 - (g3 + 1).toInt).toNat) _ (by omega) ⟨rfl, by show 0 ≤ (g3 + 1).toInt; omega, by show (g3 + 1).toInt ≤ 48; omega, rfl⟩, fun c2 => ?_⟩⟩⟩
    have c2 := Int32.lt_iff_toInt_lt.mp (Int32.not_le.mp c2)
    have el4 : (g4 + 1).toInt = g4.toInt + 1 := by rw [tI_add (by rw [e1]; omega) (by rw [e1]; omega), e1]
    have e39 : (f.2.2.1 39 g3.toNatClampNeg + g4).toInt = (f.2.2.1 39 g3.toNatClampNeg).toInt + g4.toInt := tI_add (by omega) (by omega)
    exact wp_rd.mpr ⟨vn, wp_rd.mpr ⟨vin_iff.mpr ⟨by omega, by omega⟩, ih3 ((100 - (g4 + 1).toInt).toNat) _ (by omega) ⟨rfl, rfl, by show 0 ≤ (g4 + 1).toInt; omega, by show (g4 + 1).toInt ≤ 100; omega, rfl⟩⟩⟩
  · have c1 := Int32.lt_iff_toInt_lt.mp (Int32.not_le.mp c)
    have el : (m3 + 1).toInt = m3.toInt + 1 := by rw [tI_add (by rw [e1]; omega) (by rw [e1]; omega), e1]
    have ea : (160 * o.1 55 + m3).toInt = 160 * (o.1 55).toInt + m3.toInt := by rw [tI_add (by omega) (by omega), em]
    have va : vp_in (160 * o.1 55 + m3) 320 := vin_iff.mpr ⟨by omega, by omega⟩
    have v11 := t1 (160 * o.1 55 + m3).toNatClampNeg
    have w3 := v11.2.2.1
    have w4 := v11.2.2.2.1
    unfold LP_sum_25
    refine wp_lp (fun (d : Nat) (x : Int64 × Int32 × Int32 × RSt) => x.2.1 = m3 ∧ x.2.2.2 = o ∧ 0 ≤ x.2.2.1.toInt ∧ x.2.2.1.toInt ≤ 200 ∧ d = (200 - x.2.2.1.toInt).toNat) ?_ _ 200 _ (by omega) ⟨rfl, rfl, by show 0 ≤ (0 : Int32).toInt; decide, by show (0 : Int32).toInt ≤ 200; decide, rfl⟩
    rintro d2 R2 ⟨n1, n3, n4, p⟩ ⟨r0, r1, r2, r3, r4⟩ ih2
    dsimp only at r0 r1 r2 r3 r4 ih2 ⊢
    subst r0 r1
    unfold B_sum_25
    refine wp_rd.mpr ⟨va, wp_if.mpr ⟨fun _ => ih ((160 - (n3 + 1).toInt).toNat) _ (by omega) ⟨rfl, by show 0 ≤ (n3 + 1).toInt; omega, by show (n3 + 1).toInt ≤ 160; omega, rfl⟩, fun c2 => ?_⟩⟩
    have c2 := Int32.lt_iff_toInt_lt.mp (Int32.not_le.mp c2)
    have el4 : (n4 + 1).toInt = n4.toInt + 1 := by rw [tI_add (by rw [e1]; omega) (by rw [e1]; omega), e1]
    rw [wp_bn]
    refine wp_mono (x_numberOf hN h9.1.1 h9.1.2.1 h9.1.2.2.1 ⟨q1, by omega⟩ ⟨r2, by omega⟩) (fun r f hf => ?_)
    subst hf
    exact ih2 ((200 - (n4 + 1).toInt).toNat) _ (by omega) ⟨rfl, rfl, by show 0 ≤ (n4 + 1).toInt; omega, by show (n4 + 1).toInt ≤ 200; omega, rfl⟩
theorem x_find (hN : 5000000000 ≤ N) (h : UB u) : wp (F_find N l1 u) (fun _ w => UB w) := by
  have z0 : (0 : Int32).toInt = 0 := by decide
  have e1 : (1 : Int32).toInt = 1 := by decide
  have e8 : (8 : Int32).toInt = 8 := by decide
  have e24 : (24 : Int32).toInt = 24 := by decide
  have e160 : (160 : Int32).toInt = 160 := by decide
  have main : ∀ (z : RSt) (s : Int32), UB z → wp (B_find_46 N l1 s z) (fun _ w => UB w) := by
    intro z s hz
    have h55 := hz.1.2.2.1
    have ht := hz.1.2.2.2.2.2.1
    have t1 := ht.2
    obtain ⟨b19, b27, b36, b37, b42, b48⟩ := hz.1.1.2.2.2.2.1 (z.1 55).toNatClampNeg
    have v5 : vp_in (z.1 55) 2 := vin_iff.mpr ⟨h55.1, by omega⟩
    have em : (160 * z.1 55).toInt = 160 * (z.1 55).toInt := by rw [tI_mul (by rw [e160]; omega) (by rw [e160]; omega), e160]
    have em4 : (24 * z.1 55).toInt = 24 * (z.1 55).toInt := by rw [tI_mul (by rw [e24]; omega) (by rw [e24]; omega), e24]
    have em8 : (8 * z.1 55).toInt = 8 * (z.1 55).toInt := by rw [tI_mul (by rw [e8]; omega) (by rw [e8]; omega), e8]
    have em48 : (24 * z.1 55 + 8).toInt = 24 * (z.1 55).toInt + 8 := by rw [tI_add (by rw [e8]; omega) (by rw [e8]; omega), em4, e8]
    have e199 : ∀ (a b : Int64) (many : Int32), 0 ≤ many.toInt → many.toInt ≤ 160 → (l1 = 1 → many.toInt ≤ 24) → (l1 = 2 → many.toInt ≤ 8) → (l1 = 3 → many.toInt ≤ 8) → (¬ l1 = 0 → ¬ l1 = 1 → ¬ l1 = 2 → ¬ l1 = 3 → many.toInt ≤ 16) → wp (B_find_199 N l1 a b many z) (fun _ w => UB w) := by
      intro a b many n0 n1 n2 n3 n4 n5
      unfold B_find_199 LP_find_204
      refine wp_lp (fun (d : Nat) (x : Int32 × Int64 × Int64 × Int32 × Int32 × RSt) => x.1 = l1 ∧ x.2.2.2.1 = many ∧ x.2.2.2.2.2 = z ∧ 0 ≤ x.2.2.2.2.1.toInt ∧ x.2.2.2.2.1.toInt ≤ 160 ∧ d = (160 - x.2.2.2.2.1.toInt).toNat) ?_ _ 160 _ (by omega) ⟨rfl, rfl, rfl, by show 0 ≤ (0 : Int32).toInt; decide, by show (0 : Int32).toInt ≤ 160; decide, rfl⟩
      rintro d R ⟨m1, m3, m5, m7, m8, o⟩ ⟨q1, q2, q3, q4, q5, q6⟩ ih
      dsimp only at q1 q2 q3 q4 q5 q6 ih ⊢
      subst q1 q2 q3
      unfold B_find_204
      refine wp_if.mpr ⟨fun _ => wp_some.mpr hz, fun c => ?_⟩
      have c1 := Int32.lt_iff_toInt_lt.mp (Int32.not_le.mp c)
      have el : (m8 + 1).toInt = m8.toInt + 1 := by rw [tI_add (by rw [e1]; omega) (by rw [e1]; omega), e1]
      have e433 : ∀ x y : Int64, wp (B_find_433 N R m1 m3 m5 m7 m8 x y o) (fun _ w => UB w) := by
        intro x y
        have e453 : wp (B_find_453 N R m1 m3 m5 m7 m8 o) (fun _ w => UB w) := by
          unfold B_find_453
          exact ih ((160 - (m8 + 1).toInt).toNat) _ (by omega) ⟨rfl, rfl, rfl, by show 0 ≤ (m8 + 1).toInt; omega, by show (m8 + 1).toInt ≤ 160; omega, rfl⟩
        unfold B_find_433
        exact wp_if.mpr ⟨fun _ => wp_if.mpr ⟨fun _ => wp_some.mpr hz, fun _ => e453⟩, fun _ => e453⟩
      have a0 : (160 * o.1 55 + m8).toInt = 160 * (o.1 55).toInt + m8.toInt := by rw [tI_add (by omega) (by omega), em]
      have a1 : (24 * o.1 55 + m8).toInt = 24 * (o.1 55).toInt + m8.toInt := by rw [tI_add (by omega) (by omega), em4]
      have a2 : (8 * o.1 55 + m8).toInt = 8 * (o.1 55).toInt + m8.toInt := by rw [tI_add (by omega) (by omega), em8]
      have a4 : (24 * o.1 55 + 8 + m8).toInt = 24 * (o.1 55).toInt + 8 + m8.toInt := by rw [tI_add (by omega) (by omega), em48]
      have v0 : vp_in (160 * o.1 55 + m8) 320 := vin_iff.mpr ⟨by omega, by omega⟩
      have v1 : m1 = 1 → vp_in (24 * o.1 55 + m8) 48 := fun q => by have := n2 q; exact vin_iff.mpr ⟨by omega, by omega⟩
      have v2 : m1 = 2 → vp_in (8 * o.1 55 + m8) 16 := fun q => by have := n3 q; exact vin_iff.mpr ⟨by omega, by omega⟩
      have v3 : m1 = 3 → vp_in (24 * o.1 55 + m8) 48 := fun q => by have := n4 q; exact vin_iff.mpr ⟨by omega, by omega⟩
      have v4 : ¬ m1 = 0 → ¬ m1 = 1 → ¬ m1 = 2 → ¬ m1 = 3 → vp_in (24 * o.1 55 + 8 + m8) 48 := fun p0 p1 p2 p3 => by have := n5 p0 p1 p2 p3; exact vin_iff.mpr ⟨by omega, by omega⟩
      have e321 : ∀ x : Int64, wp (B_find_321 N R m1 m3 m5 m7 m8 x o) (fun _ w => UB w) := by
        intro x
        unfold B_find_321
        exact wp_if.mpr ⟨fun _ => wp_rd.mpr ⟨v0, e433 _ _⟩, fun p0 => wp_if.mpr ⟨fun p => wp_rd.mpr ⟨v1 p, e433 _ _⟩, fun p1 => wp_if.mpr ⟨fun p => wp_rd.mpr ⟨v2 p, e433 _ _⟩, fun p2 => wp_if.mpr ⟨fun p => wp_rd.mpr ⟨v3 p, e433 _ _⟩, fun p3 => wp_rd.mpr ⟨v4 p0 p1 p2 p3, e433 _ _⟩⟩⟩⟩⟩
      exact wp_if.mpr ⟨fun _ => wp_rd.mpr ⟨v0, e321 _⟩, fun p0 => wp_if.mpr ⟨fun p => wp_rd.mpr ⟨v1 p, e321 _⟩, fun p1 => wp_if.mpr ⟨fun p => wp_rd.mpr ⟨v2 p, e321 _⟩, fun p2 => wp_if.mpr ⟨fun p => wp_rd.mpr ⟨v3 p, e321 _⟩, fun p3 => wp_rd.mpr ⟨v4 p0 p1 p2 p3, e321 _⟩⟩⟩⟩⟩
    have e82 : ∀ s : Int32, wp (B_find_82 N l1 s z) (fun _ w => UB w) := by
      intro s
      unfold B_find_82
      refine wp_if.mpr ⟨fun _ => wp_if.mpr ⟨fun _ => wp_some.mpr hz, fun _ => wp_some.mpr hz⟩, fun _ => ?_⟩
      rw [wp_bn]
      refine wp_mono (x_packed hN ht (by decide) (by decide)) (fun r o ho => ?_)
      subst ho
      rw [wp_bn]
      refine wp_mono (x_packed hN ht (by decide) (by decide)) (fun r2 o ho => ?_)
      subst ho
      have no : ∀ {a b : Int32} {P : Prop}, l1 = a → ¬ a = b → l1 = b → P := fun p q r => absurd (p.symm.trans r) q
      refine wp_if.mpr ⟨fun p => wp_rd.mpr ⟨v5, e199 _ _ _ b19.1 b19.2 (no p (by decide)) (no p (by decide)) (no p (by decide)) (fun q => absurd p q)⟩, fun p0 => wp_if.mpr ⟨fun p => wp_rd.mpr ⟨v5, e199 _ _ _ b42.1 (by omega) (fun _ => b42.2) (no p (by decide)) (no p (by decide)) (fun _ q => absurd p q)⟩, fun p1 => wp_if.mpr ⟨fun p => wp_rd.mpr ⟨v5, e199 _ _ _ b48.1 (by omega) (no p (by decide)) (fun _ => b48.2) (no p (by decide)) (fun _ _ q => absurd p q)⟩, fun p2 => wp_if.mpr ⟨fun p => wp_rd.mpr ⟨v5, e199 _ _ _ b36.1 (by omega) (no p (by decide)) (no p (by decide)) (fun _ => b36.2) (fun _ _ _ q => absurd p q)⟩, fun p3 => wp_rd.mpr ⟨v5, e199 _ _ _ b37.1 (by omega) (fun q => absurd q p1) (fun q => absurd q p2) (fun q => absurd q p3) (fun _ _ _ _ => b37.2)⟩⟩⟩⟩⟩
    unfold B_find_46 LP_find_49
    refine wp_lp (fun (d : Nat) (x : Int32 × Int32 × Int32 × RSt) => x.1 = l1 ∧ x.2.2.2 = z ∧ 0 ≤ x.2.2.1.toInt ∧ x.2.2.1.toInt ≤ 6000 ∧ d = (6000 - x.2.2.1.toInt).toNat) ?_ _ 6000 _ (by omega) ⟨rfl, rfl, by show 0 ≤ (0 : Int32).toInt; decide, by show (0 : Int32).toInt ≤ 6000; decide, rfl⟩
    rintro d R ⟨m1, m2, m3, o⟩ ⟨q1, q2, q3, q4, q5⟩ ih
    dsimp only at q1 q2 q3 q4 q5 ih ⊢
    subst q1 q2
    unfold B_find_49
    refine wp_if.mpr ⟨fun _ => e82 _, fun c => wp_if.mpr ⟨fun _ => e82 _, fun _ => ?_⟩⟩
    have c1 := Int32.lt_iff_toInt_lt.mp (Int32.not_le.mp c)
    have el : (m3 + 1).toInt = m3.toInt + 1 := by rw [tI_add (by rw [e1]; omega) (by rw [e1]; omega), e1]
    have nx : ∀ s : Int32, wp (B_find_75 N R m1 m3 s o) (fun _ w => UB w) := by
      intro s
      unfold B_find_75
      exact ih ((6000 - (m3 + 1).toInt).toNat) _ (by omega) ⟨rfl, rfl, by show 0 ≤ (m3 + 1).toInt; omega, by show (m3 + 1).toInt ≤ 6000; omega, rfl⟩
    exact wp_rd.mpr ⟨vin_iff.mpr ⟨q3, by omega⟩, wp_if.mpr ⟨fun _ => nx _, fun _ => nx _⟩⟩
  have e15 : ∀ s : Int32, wp (B_find_15 N l1 s u) (fun _ w => UB w) := by
    intro s
    unfold B_find_15 B_find_45
    exact wp_pu.mpr (wp_if.mpr ⟨fun _ => main _ _ h.s9, fun _ => wp_if.mpr ⟨fun _ => main _ _ h.s9, fun _ => wp_if.mpr ⟨fun _ => main _ _ h.s9, fun _ => main _ _ h.s9⟩⟩⟩)
  unfold F_find B_find_0
  exact wp_if.mpr ⟨fun _ => e15 _, fun _ => e15 _⟩
end RCalls3
