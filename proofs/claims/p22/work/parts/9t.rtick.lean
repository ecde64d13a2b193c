/-! Ticks. -/
section RTick
variable {u v w : RSt} {N k j : Nat} {x l1 l2 l3 : Int32} {y : Int64}
theorem sI_fx {u : RSt} {k : Nat} {x : Int32} : FX [k] [] [] u (sI u k x) := FX.rf.si (by simp)
theorem x_numberOf (hN : 5000000000 ≤ N) (ht : TB0 u) (hs : SRT u) (h5 : 0 ≤ (u.1 55).toInt ∧ (u.1 55).toInt ≤ 1) (h1 : 0 ≤ l1.toInt ∧ l1.toInt ≤ 159) (h2 : 0 ≤ l2.toInt ∧ l2.toInt ≤ 199) : wp (F_numberOf N l1 l2 u) (fun _ w => w = u) := by
  have e2 : (2 : Int32).toInt = 2 := by decide
  have e160 : (160 : Int32).toInt = 160 := by decide
  have em : (160 * u.1 55).toInt = 160 * (u.1 55).toInt := by rw [tI_mul (by rw [e160]; omega) (by rw [e160]; omega), e160]
  have ea : (160 * u.1 55 + l1).toInt = 160 * (u.1 55).toInt + l1.toInt := by rw [tI_add (by omega) (by omega), em]
  have va : vp_in (160 * u.1 55 + l1) 320 := vin_iff.mpr ⟨by omega, by omega⟩
  unfold F_numberOf B_numberOf_0
  refine wp_rd.mpr ⟨va, ?_⟩
  obtain ⟨v1, v2, v3, v4, v5, v6⟩ := ht.1 (160 * u.1 55 + l1).toNatClampNeg
  have hi := (hs (160 * u.1 55 + l1).toNatClampNeg).1
  refine wp_if.mpr ⟨fun c => ?_, fun c => ?_⟩
  · have c := Int32.le_iff_toInt_le.mp c
    rw [e2] at c
    refine wp_rd.mpr ⟨va, wp_rd.mpr ⟨va, ?_⟩⟩
    rw [wp_bn]
    refine wp_mono (m_read hN ⟨v1, v2, ?_⟩) (fun _ w hw => wp_some.mpr hw)
    rcases (v6 (by omega)).2 with ⟨-, q1, q2⟩ | ⟨-, q1, q2⟩
    · exact Or.inr (Or.inr ⟨q1, q2⟩)
    · exact Or.inr (Or.inl ⟨q1, q2⟩)
  · have c := Int32.lt_iff_toInt_lt.mp (Int32.not_le.mp c)
    rw [e2] at c
    have q := v5 (by omega)
    have e15 : (u.2.2.1 15 (160 * u.1 55 + l1).toNatClampNeg + l2).toInt = (u.2.2.1 15 (160 * u.1 55 + l1).toNatClampNeg).toInt + l2.toInt := tI_add (by omega) (by omega)
    exact wp_rd.mpr ⟨va, wp_rd.mpr ⟨vin_iff.mpr ⟨by omega, by omega⟩, wp_some.mpr rfl⟩⟩
theorem x_forces (hN : 5000000000 ≤ N) (h : l1.toInt = 0 ∨ l1.toInt = 64) : wp (F_forces N l1 u) (fun _ w => FX [] [85] [] u w) := by
  have e1 : (1 : Int32).toInt = 1 := by decide
  have e64 : (64 : Int32).toInt = 64 := by decide
  have ea : (l1 + 64).toInt = l1.toInt + 64 := by rw [tI_add (by rw [e64]; omega) (by rw [e64]; omega), e64]
  unfold F_forces B_forces_0 LP_forces_2
  refine wp_lp (fun (d : Nat) (x : Int32 × Int32 × RSt) => x.1 = l1 ∧ 0 ≤ x.2.1.toInt ∧ x.2.1.toInt ≤ 128 ∧ FX [] [85] [] u x.2.2 ∧ d = (128 - x.2.1.toInt).toNat) ?_ _ ((128 - l1.toInt).toNat) _ (by omega) ⟨rfl, by show 0 ≤ l1.toInt; omega, by show l1.toInt ≤ 128; omega, FX.rf, rfl⟩
  rintro d R ⟨m1, m2, z⟩ ⟨q0, q1, q2, q3, q4⟩ ih
  dsimp only at q0 q1 q2 q3 q4 ih ⊢
  subst q0
  unfold B_forces_2
  refine wp_if.mpr ⟨fun _ => wp_some.mpr q3, fun cc => ?_⟩
  have c1 := Int32.lt_iff_toInt_lt.mp (Int32.not_le.mp cc)
  have el : (m2 + 1).toInt = m2.toInt + 1 := by rw [tI_add (by rw [e1]; omega) (by rw [e1]; omega), e1]
  have vm : vp_in m2 128 := vin_iff.mpr ⟨q1, by omega⟩
  refine wp_rd.mpr ⟨vm, wp_rd.mpr ⟨vm, wp_rd.mpr ⟨vm, wp_wr.mpr ⟨vm, ?_⟩⟩⟩⟩
  exact ih ((128 - (m2 + 1).toInt).toNat) (m1, m2 + 1, _) (by omega) ⟨rfl, by show 0 ≤ (m2 + 1).toInt; omega, by show (m2 + 1).toInt ≤ 128; omega, q3.sa (by decide), rfl⟩
theorem vn_1 : vp_nar .boolean 1 = 1 := by first | rfl | decide
/-- what a run of tasks may change -/
theorem x_runTask (hN : 100000000000000 ≤ N) (hu : UR u) (h0 : 0 ≤ l1.toInt) (h1 : l1.toInt < (u.2.2.1 48 (sN u)).toInt) : wp (F_runTask N l1 u) (fun _ w => FX [112, 113, 114, 115, 116, 117, 118, 119] [85, 88, 89, 90, 91, 92, 93, 94, 108, 109, 110, 111] [82, 107] u w ∧ (BQ u → BQ w)) := by
  have e8 : (8 : Int32).toInt = 8 := by decide
  obtain ⟨u1, u2, u3, u4, u5, u6, u7⟩ := id hu
  have c48 := (u1.2.2.2.2.1 (sN u)).2.2.2.2.2
  have em : (8 * u.1 55).toInt = 8 * (u.1 55).toInt := by rw [tI_mul (by rw [e8]; omega) (by rw [e8]; omega), e8]
  have ea : (8 * u.1 55 + l1).toInt = 8 * (u.1 55).toInt + l1.toInt := by rw [tI_add (by omega) (by omega), em]
  have sn : (sN u : Int) = (u.1 55).toInt := by show ((u.1 55).toInt.toNat : Int) = _; omega
  have v8 : vp_in l1 8 := vin_iff.mpr ⟨h0, by omega⟩
  unfold F_runTask B_runTask_0
  refine wp_rd.mpr ⟨v8, wp_wr.mpr ⟨v8, ?_⟩⟩
  generalize ev : sA u 89 l1.toNatClampNeg (u.2.2.1 89 l1.toNatClampNeg + 1) = v
  have fv : FX [] [89] [] u v := by rw [← ev]; exact FX.rf.sa (by decide)
  have uv := hu.fx fv (by simp) (by decide)
  have v55 : v.1 55 = u.1 55 := fv.1 55 (by simp)
  have v45 : v.2.2.1 45 = u.2.2.1 45 := fv.2.1 45 (by decide)
  have v48 : v.2.2.1 48 = u.2.2.1 48 := fv.2.1 48 (by decide)
  have sv : sN v = sN u := by unfold sN; rw [v55]
  refine wp_rd.mpr ⟨by rw [v55]; exact vin_iff.mpr ⟨by omega, by omega⟩, ?_⟩
  rw [wp_bn]
  have hl : ∃ k : Nat, (k : Int) < (v.2.2.1 48 (sN v)).toInt ∧ v.2.2.1 45 (8 * v.1 55 + l1).toNatClampNeg = v.2.2.1 45 (8 * sN v + k) := by
    refine ⟨l1.toInt.toNat, by rw [sv, v48]; omega, ?_⟩
    rw [v55, sv]
    have ei : (8 * u.1 55 + l1).toNatClampNeg = 8 * sN u + l1.toInt.toNat := by show (8 * u.1 55 + l1).toInt.toNat = _; omega
    rw [ei]
  refine wp_mono (x_run hN uv hl) (fun _ w hw => ?_)
  have fw : FX [112, 113, 114, 115, 116, 117, 118, 119] [85, 88, 89, 90, 91, 92, 93, 94, 108, 109, 110, 111] [82, 107] u w := (fv.mo (by simp) (by decide) (by simp)).tr (hw.mo (fun k hk => hk) (by decide) (fun k hk => hk))
  have bw : BQ u → BQ w := fun q => q.of (by rw [hw.2.1 88 (by decide), fv.2.1 88 (by decide)])
  refine wp_wr.mpr ⟨v8, wp_if.mpr ⟨fun _ => wp_some.mpr ⟨fw.sa (by decide), fun q => bw q⟩, fun _ => wp_wr.mpr ⟨v8, wp_wr.mpr ⟨v8, wp_wr.mpr ⟨v8, wp_wr.mpr ⟨v8, ?_⟩⟩⟩⟩⟩⟩
  have f5 := ((((fw.sa (k := 90) (j := l1.toNatClampNeg) (x := w.1 117) (by decide)).sa (k := 88) (j := l1.toNatClampNeg) (x := vp_nar .boolean 1) (by decide)).sa (k := 91) (j := l1.toNatClampNeg) (x := w.1 118) (by decide)).sa (k := 92) (j := l1.toNatClampNeg) (x := w.1 119) (by decide)).sa (k := 93) (j := l1.toNatClampNeg) (x := w.1 104) (by decide)
  have b5 : BQ u → BQ (sA w 88 l1.toNatClampNeg (vp_nar .boolean 1)) := fun q => (bw q).s88 (Or.inr vn_1)
  exact wp_if.mpr ⟨fun _ => wp_wr.mpr ⟨v8, wp_some.mpr ⟨f5.sa (by decide), fun q => b5 q⟩⟩, fun _ => wp_wr.mpr ⟨v8, wp_some.mpr ⟨f5.sa (by decide), fun q => b5 q⟩⟩⟩
/-- a tick keeps the invariant -/
def TKF (u w : RSt) : Prop := UR w ∧ w.1 9 = u.1 9 ∧ (BQ u → BQ w)
theorem TKF.fx {a b c : List Nat} (h : TKF u v) (hf : FX a b c v w) (ha : ∀ k, k ∈ [1, 9, 55, 56, 61, 72, 98, 103, 105] → k ∉ a) (hb : ∀ k, k ∈ [10, 11, 12, 13, 15, 19, 20, 21, 23, 27, 28, 29, 30, 31, 32, 33, 36, 37, 38, 39, 42, 43, 45, 48, 49, 50, 51, 54, 95, 96] → k ∉ b) (h8 : BQ v → BQ w) : TKF u w :=
  ⟨h.1.fx hf (fun k hk => ha k (by
    simp only [List.mem_cons, List.not_mem_nil, or_false] at hk ⊢
    omega)) hb, (hf.1 9 (ha 9 (by decide))).trans h.2.1, fun q => h8 (h.2.2 q)⟩
theorem TKF.e103 (h : TKF u v) (hx : 0 ≤ x.toInt ∧ x.toInt ≤ 100) : TKF u (sI v 103 x) := by
  obtain ⟨⟨u1, u2, u3, u4, u5, u6, u7⟩, h9, h8⟩ := h
  refine ⟨⟨u1, u2, u3, ?_, ?_, u6, u7.1, u7.2.1, hx, u7.2.2.2⟩, h9, h8⟩
  · exact (u4.fr (w := sI v 103 x) u5 u1.2.2.2.2.1 (SZq.of (fun _ _ => rfl))).1
  · exact (u4.fr (w := sI v 103 x) u5 u1.2.2.2.2.1 (SZq.of (fun _ _ => rfl))).2
theorem x_ticks (hN : 100000000000000 ≤ N) (hu : UR u) : wp (F_ticks N u) (fun _ w => TKF u w) := by
  have hN5 : 5000000000 ≤ N := by omega
  have e1 : (1 : Int32).toInt = 1 := by decide
  have z0 : (0 : Int32).toInt = 0 := by decide
  have e8 : (8 : Int32).toInt = 8 := by decide
  have e64 : (64 : Int32).toInt = 64 := by decide
  have e100 : (100 : Int32).toInt = 100 := by decide
  have e128 : (128 : Int32).toInt = 128 := by decide
  unfold F_ticks B_ticks_0 LP_ticks_4
  refine wp_lp (fun (d : Nat) (x : Int32 × Int32 × RSt) => 0 ≤ x.2.1.toInt ∧ x.2.1.toInt ≤ 64 ∧ TKF u x.2.2 ∧ d = (64 - x.2.1.toInt).toNat) ?_ _ 64 _ (by omega) ⟨by show 0 ≤ (0 : Int32).toInt; decide, by show (0 : Int32).toInt ≤ 64; decide, ⟨hu, rfl, fun q => q⟩, rfl⟩
  rintro d R ⟨m1, m2, z⟩ ⟨q1, q2, q3, q4⟩ ih
  dsimp only at q1 q2 q3 q4 ih ⊢
  unfold B_ticks_4
  refine wp_if.mpr ⟨fun _ => ?_, fun cc => ?_⟩
  rotate_left
  · have c1 := Int32.lt_iff_toInt_lt.mp (Int32.not_le.mp cc)
    rw [e64] at c1
    have el : (m2 + 1).toInt = m2.toInt + 1 := by rw [tI_add (by rw [e1]; omega) (by rw [e1]; omega), e1]
    have vm : vp_in m2 128 := vin_iff.mpr ⟨q1, by omega⟩
    exact wp_rd.mpr ⟨vm, wp_wr.mpr ⟨vm, ih ((64 - (m2 + 1).toInt).toNat) _ (by omega) ⟨by show 0 ≤ (m2 + 1).toInt; omega, by show (m2 + 1).toInt ≤ 64; omega, q3.fx (FX.rf.sa (a := []) (b := [85]) (c := []) (by decide)) (by simp) (by decide) (fun q => q), rfl⟩⟩⟩
  rw [wp_bn]
  refine wp_mono (x_forces hN5 (Or.inl z0)) (fun _ z1 hz1 => ?_)
  have t1 := q3.fx hz1 (by simp) (by decide) (fun q => q.of (hz1.2.1 88 (by decide)))
  -- the tasks
  unfold LP_ticks_35
  refine wp_lp (fun (d : Nat) (x : Int32 × Int32 × RSt) => 0 ≤ x.2.1.toInt ∧ x.2.1.toInt ≤ 8 ∧ TKF u x.2.2 ∧ d = (8 - x.2.1.toInt).toNat) ?_ _ 8 _ (by omega) ⟨by show 0 ≤ (0 : Int32).toInt; decide, by show (0 : Int32).toInt ≤ 8; decide, t1, rfl⟩
  rintro d2 R2 ⟨n1, n2, s⟩ ⟨r1, r2, r3, r4⟩ ih2
  dsimp only at r1 r2 r3 r4 ih2 ⊢
  obtain ⟨s1, s2, s3, s4, s5, s6, s7⟩ := id r3.1
  have v5 : vp_in (s.1 55) 2 := vin_iff.mpr ⟨s3.1, by have := s3.2; omega⟩
  have c48 := (s1.2.2.2.2.1 (sN s)).2.2.2.2.2
  have em : (8 * s.1 55).toInt = 8 * (s.1 55).toInt := by rw [tI_mul (by rw [e8]; omega) (by rw [e8]; omega), e8]
  have sn : (sN s : Int) = (s.1 55).toInt := by show ((s.1 55).toInt.toNat : Int) = _; omega
  unfold B_ticks_35
  refine wp_rd.mpr ⟨v5, wp_if.mpr ⟨fun _ => ?_, fun cc => ?_⟩⟩
  rotate_left
  · have c1 := Int32.lt_iff_toInt_lt.mp (Int32.not_le.mp cc)
    have c1 : n2.toInt < (s.2.2.1 48 (sN s)).toInt := c1
    have el : (n2 + 1).toInt = n2.toInt + 1 := by rw [tI_add (by rw [e1]; omega) (by rw [e1]; omega), e1]
    have v8 : vp_in n2 8 := vin_iff.mpr ⟨r1, by omega⟩
    have ea : (8 * s.1 55 + n2).toInt = 8 * (s.1 55).toInt + n2.toInt := by rw [tI_add (by omega) (by omega), em]
    have va : vp_in (8 * s.1 55 + n2) 16 := vin_iff.mpr ⟨by omega, by omega⟩
    have e104 : ∀ (a : Int32) (o : RSt), TKF u o → wp (B_ticks_104 N R2 a n2 o) (fun _ w => TKF u w) := by
      intro a o ho
      unfold B_ticks_104
      exact ih2 ((8 - (n2 + 1).toInt).toNat) _ (by omega) ⟨by show 0 ≤ (n2 + 1).toInt; omega, by show (n2 + 1).toInt ≤ 8; omega, ho, rfl⟩
    refine wp_rd.mpr ⟨v8, wp_if.mpr ⟨fun _ => wp_rd.mpr ⟨va, wp_nz.mpr ⟨?_, wp_rd.mpr ⟨va, wp_if.mpr ⟨fun _ => ?_, fun _ => e104 _ _ r3⟩⟩⟩⟩, fun _ => e104 _ _ r3⟩⟩
    · obtain ⟨-, H, -, h4⟩ := s4
      have q := (h4 n2.toInt.toNat (by omega)).2
      have ei : (8 * s.1 55 + n2).toNatClampNeg = 8 * sN s + n2.toInt.toNat := by show (8 * s.1 55 + n2).toInt.toNat = _; omega
      rw [ei]
      intro z
      rw [z, z0] at q
      omega
    · rw [wp_bn]
      exact wp_mono (x_runTask hN r3.1 r1 c1) (fun _ o ho => e104 _ _ (r3.fx ho.1 (by decide) (by decide) ho.2))
  rw [wp_bn]
  refine wp_mono (x_forces hN5 (Or.inr e64)) (fun _ z2 hz2 => ?_)
  have t2 := r3.fx hz2 (by simp) (by decide) (fun q => q.of (hz2.2.1 88 (by decide)))
  -- the outputs
  unfold LP_ticks_119
  refine wp_lp (fun (d : Nat) (x : Int32 × Int32 × RSt) => 0 ≤ x.2.1.toInt ∧ x.2.1.toInt ≤ 128 ∧ TKF u x.2.2 ∧ d = (128 - x.2.1.toInt).toNat) ?_ _ 64 _ (by omega) ⟨by show 0 ≤ (64 : Int32).toInt; decide, by show (64 : Int32).toInt ≤ 128; decide, t2, by show 64 = (128 - (64 : Int32).toInt).toNat; decide⟩
  rintro d3 R3 ⟨k1, k2, p⟩ ⟨g1, g2, g3, g4⟩ ih3
  dsimp only at g1 g2 g3 g4 ih3 ⊢
  unfold B_ticks_119
  refine wp_if.mpr ⟨fun _ => ?_, fun cc => ?_⟩
  rotate_left
  · have c1 := Int32.lt_iff_toInt_lt.mp (Int32.not_le.mp cc)
    rw [e128] at c1
    have el : (k2 + 1).toInt = k2.toInt + 1 := by rw [tI_add (by rw [e1]; omega) (by rw [e1]; omega), e1]
    have vm : vp_in k2 128 := vin_iff.mpr ⟨g1, by omega⟩
    exact wp_rd.mpr ⟨vm, wp_wr.mpr ⟨vm, ih3 ((128 - (k2 + 1).toInt).toNat) _ (by omega) ⟨by show 0 ≤ (k2 + 1).toInt; omega, by show (k2 + 1).toInt ≤ 128; omega, g3.fx (FX.rf.sa (a := []) (b := [84]) (c := []) (by decide)) (by simp) (by decide) (fun q => q), rfl⟩⟩⟩
  -- what is watched
  unfold LP_ticks_146
  refine wp_lp (fun (d : Nat) (x : Int32 × Int32 × RSt) => 0 ≤ x.2.1.toInt ∧ x.2.1.toInt ≤ 16 ∧ TKF u x.2.2 ∧ d = (16 - x.2.1.toInt).toNat) ?_ _ 16 _ (by omega) ⟨by show 0 ≤ (0 : Int32).toInt; decide, by show (0 : Int32).toInt ≤ 16; decide, g3, rfl⟩
  rintro d4 R4 ⟨a1, a2, o⟩ ⟨b1, b2, b3, b4⟩ ih4
  dsimp only at b1 b2 b3 b4 ih4 ⊢
  unfold B_ticks_146
  refine wp_if.mpr ⟨fun _ => wp_pu.mpr (wp_some.mpr (b3.fx (sI_fx (k := 104)) (by decide) (by simp) (fun q => q))), fun cc => ?_⟩
  have c1 := Int32.lt_iff_toInt_lt.mp (Int32.not_le.mp cc)
  obtain ⟨o1, o2, o3, o4, o5, o6, o7⟩ := id b3.1
  have o98 := o7.1
  have el : (a2 + 1).toInt = a2.toInt + 1 := by rw [tI_add (by rw [e1]; omega) (by rw [e1]; omega), e1]
  have va : vp_in a2 16 := vin_iff.mpr ⟨b1, by omega⟩
  have e331 : ∀ f : RSt, TKF u f → wp (B_ticks_331 N R4 a1 a2 f) (fun _ w => TKF u w) := by
    intro f hf
    unfold B_ticks_331
    exact ih4 ((16 - (a2 + 1).toInt).toNat) _ (by omega) ⟨by show 0 ≤ (a2 + 1).toInt; omega, by show (a2 + 1).toInt ≤ 16; omega, hf, rfl⟩
  obtain ⟨w95, w96⟩ := o7.2.1 a2.toNatClampNeg
  refine wp_rd.mpr ⟨va, wp_rd.mpr ⟨va, ?_⟩⟩
  rw [wp_bn]
  refine wp_mono (x_numberOf hN5 o1 o2 o3 w95 w96) (fun r f hf => ?_)
  subst hf
  refine wp_rd.mpr ⟨va, wp_if.mpr ⟨fun _ => e331 f b3, fun _ => wp_wr.mpr ⟨va, ?_⟩⟩⟩
  have t5 : TKF u (sB f 97 a2.toNatClampNeg r) := b3.fx (FX.rf.sb (a := []) (b := []) (c := [97]) (by decide)) (by simp) (by simp) (fun q => q)
  generalize sB f 97 a2.toNatClampNeg r = f1 at t5 ⊢
  unfold LP_ticks_196
  refine wp_lp (fun (d : Nat) (x : Int32 × Int32 × Int64 × Int32 × RSt) => x.1 = a1 ∧ x.2.1 = a2 ∧ 0 ≤ x.2.2.2.1.toInt ∧ x.2.2.2.1.toInt ≤ 99 ∧ TKF u x.2.2.2.2 ∧ d = x.2.2.2.1.toInt.toNat) ?_ _ 99 _ (by omega) ⟨rfl, rfl, by show 0 ≤ (99 : Int32).toInt; decide, by show (99 : Int32).toInt ≤ 99; decide, t5, by show 99 = (99 : Int32).toInt.toNat; decide⟩
  rintro d5 R5 ⟨h1, h2, h3, h5, f2⟩ ⟨i1, i2, i3, i4, i5, i6⟩ ih5
  dsimp only at i1 i2 i3 i4 i5 i6 ih5 ⊢
  subst i1 i2
  unfold B_ticks_196
  have v0 : vp_in (0 : Int32) 100 := vin_iff.mpr ⟨by decide, by decide⟩
  refine wp_if.mpr ⟨fun _ => wp_wr.mpr ⟨v0, wp_rd.mpr ⟨va, wp_wr.mpr ⟨v0, wp_rd.mpr ⟨va, wp_wr.mpr ⟨v0, wp_wr.mpr ⟨v0, ?_⟩⟩⟩⟩⟩⟩, fun cc2 => ?_⟩
  · generalize ef : sB (sA (sA (sA f2 99 _ _) 100 _ _) 101 _ _) 102 _ _ = f3
    have t6 : TKF u f3 := by
      rw [← ef]
      exact i5.fx (((((FX.rf (a := []) (b := [99, 100, 101]) (c := [102])).sa (by decide)).sa (by decide)).sa (by decide)).sb (by decide)) (by simp) (by decide) (fun q => q)
    refine wp_if.mpr ⟨fun _ => e331 f3 t6, fun c9 => wp_pu.mpr (e331 _ (t6.e103 ?_))⟩
    have c9 := Int32.lt_iff_toInt_lt.mp (Int32.not_le.mp c9)
    rw [e100] at c9
    have q := t6.1.2.2.2.2.2.2.2.2.1
    rw [tI_add (by rw [e1]; omega) (by rw [e1]; omega), e1]
    omega
  · have c2 := Int32.lt_iff_toInt_lt.mp (Int32.not_le.mp cc2)
    rw [z0] at c2
    have v5 : vp_in h5 100 := vin_iff.mpr ⟨i3, by omega⟩
    have e5 : (h5 - 1).toInt = h5.toInt - 1 := by rw [tI_sub (by rw [e1]; omega) (by rw [e1]; omega), e1]
    have v51 : vp_in (h5 - 1) 100 := vin_iff.mpr ⟨by omega, by omega⟩
    refine wp_rd.mpr ⟨v51, wp_wr.mpr ⟨v5, wp_rd.mpr ⟨v51, wp_wr.mpr ⟨v5, wp_rd.mpr ⟨v51, wp_wr.mpr ⟨v5, wp_rd.mpr ⟨v51, wp_wr.mpr ⟨v5, ?_⟩⟩⟩⟩⟩⟩⟩⟩
    have e6 := dec1 i3
    generalize h5 + (-1) = h6 at e6 ⊢
    refine ih5 h6.toInt.toNat _ (by omega) ⟨rfl, rfl, by show 0 ≤ h6.toInt; omega, by show h6.toInt ≤ 99; omega, i5.fx (((((FX.rf (a := []) (b := [99, 100, 101]) (c := [102])).sa (by decide)).sa (by decide)).sa (by decide)).sb (by decide)) (by simp) (by decide) (fun q => q), rfl⟩
end RTick
