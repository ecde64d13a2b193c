/-! A text is taken over. -/
section RAcc
variable {u v w : RSt} {N k j : Nat} {x l1 l2 l3 : Int32} {y : Int64}
/-- a variable in memory -/
theorem vok_mem (ht : TB0 u) (hs : SRT u) {i : Nat} (h : (u.2.2.1 12 i).toInt ≤ 1) : 0 ≤ (u.2.2.1 15 i).toInt ∧ (u.2.2.1 15 i).toInt + (u.2.2.1 11 i).toInt ≤ 2600 ∧ 0 ≤ (u.2.2.1 11 i).toInt ∧ (u.2.2.1 11 i).toInt ≤ 200 := by
  obtain ⟨v1, v2, v3, v4, v5, v6⟩ := ht.1 i
  have := (hs i).1
  have := v5 (by omega)
  omega
theorem x_accept (hN : 5000000000 ≤ N) (ht : TB0 u) (hs : SRT u) (h0 : 0 ≤ (u.1 55).toInt) (h1 : (u.1 55).toInt ≤ 1) (h63 : 0 ≤ (u.1 63).toInt ∧ (u.1 63).toInt ≤ 2000) : wp (F_accept N l1 u) (fun _ w => FX [55, 98, 103, 104] [85, 88, 89, 90, 91, 92, 93, 94] [82, 83] u w ∧ w.1 55 = u.1 56 ∧ w.1 98 = 0 ∧ w.1 103 = 0 ∧ (BQ u → BQ w)) := by
  have e1 : (1 : Int32).toInt = 1 := by decide
  have e8 : (8 : Int32).toInt = 8 := by decide
  have e160 : (160 : Int32).toInt = 160 := by decide
  obtain ⟨t1, t2, t3, t4, t5, t6, t7, t8, t9, t10⟩ := id ht
  have em : (160 * u.1 55).toInt = 160 * (u.1 55).toInt := by rw [tI_mul (by rw [e160]; omega) (by rw [e160]; omega), e160]
  have em6 : (160 * u.1 56).toInt = 160 * (u.1 56).toInt := by rw [tI_mul (by rw [e160]; omega) (by rw [e160]; omega), e160]
  have v5 : vp_in (u.1 55) 2 := vin_iff.mpr ⟨h0, by omega⟩
  have v6 : vp_in (u.1 56) 2 := vin_iff.mpr ⟨t9, by omega⟩
  have c5 := (t5 (u.1 55).toNatClampNeg).1
  have c6 := (t5 (u.1 56).toNatClampNeg).1
  have a5 : (160 * u.1 55 + u.2.2.1 19 (u.1 55).toNatClampNeg).toInt = 160 * (u.1 55).toInt + (u.2.2.1 19 (u.1 55).toNatClampNeg).toInt := by rw [tI_add (by omega) (by omega), em]
  have a6 : (160 * u.1 56 + u.2.2.1 19 (u.1 56).toNatClampNeg).toInt = 160 * (u.1 56).toInt + (u.2.2.1 19 (u.1 56).toNatClampNeg).toInt := by rw [tI_add (by omega) (by omega), em6]
  unfold F_accept B_accept_0 LP_accept_9
  refine wp_lp (fun (d : Nat) (x : Int32 × Int32 × RSt) => x.1 = l1 ∧ 0 ≤ x.2.1.toInt ∧ x.2.1.toInt ≤ 320 ∧ FX [] [] [82, 83] u x.2.2 ∧ d = (320 - x.2.1.toInt).toNat) ?_ _ ((320 - (160 * u.1 56).toInt).toNat) _ (by omega) ⟨rfl, by show 0 ≤ (160 * u.1 56).toInt; omega, by show (160 * u.1 56).toInt ≤ 320; omega, FX.rf, rfl⟩
  rintro d R ⟨m1, m2, z⟩ ⟨q0, q1, q2, q3, q4⟩ ih
  dsimp only at q0 q1 q2 q3 q4 ih ⊢
  subst q0
  have zk : ∀ {z : RSt}, FX [] [] [82, 83] u z → ∀ k, z.1 k = u.1 k := fun h k => h.1 k (by simp)
  have zt : ∀ {z : RSt}, FX [] [] [82, 83] u z → ∀ k, z.2.2.1 k = u.2.2.1 k := fun h k => h.2.1 k (by simp)
  unfold B_accept_9
  refine wp_rd.mpr ⟨by rw [zk q3]; exact v6, ?_⟩
  rw [zk q3 56, zt q3 19]
  refine wp_if.mpr ⟨fun _ => ?_, fun cc => ?_⟩
  · unfold LP_accept_243
    refine wp_lp (fun (d : Nat) (x : Int32 × Int32 × RSt) => x.1 = m1 ∧ 0 ≤ x.2.1.toInt ∧ x.2.1.toInt ≤ 2000 ∧ FX [] [] [82, 83] u x.2.2 ∧ d = (2000 - x.2.1.toInt).toNat) ?_ _ 2000 _ (by omega) ⟨rfl, by show 0 ≤ (0 : Int32).toInt; decide, by show (0 : Int32).toInt ≤ 2000; decide, q3, rfl⟩
    rintro d2 R2 ⟨n1, n2, s⟩ ⟨r0, r1, r2, r3, r4⟩ ih2
    dsimp only at r0 r1 r2 r3 r4 ih2 ⊢
    subst r0
    unfold B_accept_243
    rw [zk r3 63]
    refine wp_if.mpr ⟨fun _ => ?_, fun cc => ?_⟩
    · refine wp_pu.mpr ?_
      rw [wp_bn]
      have f0 : FX [55, 98, 103, 104] [85, 88, 89, 90, 91, 92, 93, 94] [82, 83] u (sI s 55 (s.1 56)) := (r3.mo (by simp) (by simp) (fun k hk => hk)).si (by decide)
      have t0 := f0.tb0 ht (by decide) (by decide)
      have s55 : (sI s 55 (s.1 56)).1 55 = u.1 56 := by rw [sI_1, if_pos rfl]; exact zk r3 56
      refine wp_mono (x_anew hN t0 (by rw [s55]; exact t9) (by rw [s55]; exact t10)) (fun _ o ho => ?_)
      have o55 : o.1 55 = u.1 56 := by rw [ho.1.1 55 (by decide)]; exact s55
      have f1 := f0.tr (ho.1.mo (by simp) (by decide) (by decide))
      have bo : BQ u → BQ o := fun q => ho.2 (q.of (by show s.2.2.1 88 = _; exact zt r3 88))
      unfold LP_accept_283
      refine wp_lp (fun (d : Nat) (x : Int32 × Int32 × RSt) => 0 ≤ x.2.1.toInt ∧ x.2.1.toInt ≤ 8 ∧ FX [55, 98, 103, 104] [85, 88, 89, 90, 91, 92, 93, 94] [82, 83] u x.2.2 ∧ x.2.2.1 55 = u.1 56 ∧ (BQ u → BQ x.2.2) ∧ d = (8 - x.2.1.toInt).toNat) ?_ _ 8 _ (by omega) ⟨by show 0 ≤ (0 : Int32).toInt; decide, by show (0 : Int32).toInt ≤ 8; decide, f1, o55, bo, rfl⟩
      rintro d3 R3 ⟨k1, k2, p⟩ ⟨g1, g2, g3, g4, gb, g5⟩ ih3
      dsimp only at g1 g2 g3 g4 gb g5 ih3 ⊢
      unfold B_accept_283
      refine wp_if.mpr ⟨fun _ => wp_pu.mpr (wp_pu.mpr ?_), fun cc => ?_⟩
      · have f2 : FX [55, 98, 103, 104] [85, 88, 89, 90, 91, 92, 93, 94] [82, 83] u (sI (sI p 98 0) 103 0) := (g3.si (by decide)).si (by decide)
        refine wp_if.mpr ⟨fun _ => ?_, fun _ => wp_some.mpr ⟨f2, g4, rfl, rfl, fun q => gb q⟩⟩
        rw [wp_bn]
        refine wp_mono (x_begin hN) (fun _ q hq => wp_some.mpr ⟨f2.tr (hq.mo (by decide) (by decide) (by simp)), ?_, ?_, ?_, fun z => (gb z).of (by rw [hq.2.1 88 (by decide)]; rfl)⟩)
        · rw [hq.1 55 (by decide)]; exact g4
        · rw [hq.1 98 (by decide)]; rfl
        · rw [hq.1 103 (by decide)]; rfl
      · have c1 := Int32.lt_iff_toInt_lt.mp (Int32.not_le.mp cc)
        rw [e8] at c1
        have el : (k2 + 1).toInt = k2.toInt + 1 := by rw [tI_add (by rw [e1]; omega) (by rw [e1]; omega), e1]
        have vk : vp_in k2 8 := vin_iff.mpr ⟨g1, by omega⟩
        exact wp_wr.mpr ⟨vk, wp_wr.mpr ⟨vk, wp_wr.mpr ⟨vk, wp_wr.mpr ⟨vk, wp_wr.mpr ⟨vk, wp_wr.mpr ⟨vk, ih3 ((8 - (k2 + 1).toInt).toNat) _ (by omega) ⟨by show 0 ≤ (k2 + 1).toInt; omega, by show (k2 + 1).toInt ≤ 8; omega, (((((g3.sa (by decide)).sa (by decide)).sa (by decide)).sa (by decide)).sa (by decide)).sa (by decide), g4, fun q => gb q, rfl⟩⟩⟩⟩⟩⟩⟩
    · have c1 := Int32.lt_iff_toInt_lt.mp (Int32.not_le.mp cc)
      have el : (n2 + 1).toInt = n2.toInt + 1 := by rw [tI_add (by rw [e1]; omega) (by rw [e1]; omega), e1]
      have vn : vp_in n2 3000 := vin_iff.mpr ⟨r1, by omega⟩
      exact wp_rd.mpr ⟨vn, wp_wr.mpr ⟨vn, ih2 ((2000 - (n2 + 1).toInt).toNat) _ (by omega) ⟨rfl, by show 0 ≤ (n2 + 1).toInt; omega, by show (n2 + 1).toInt ≤ 2000; omega, r3.sb (by decide), rfl⟩⟩⟩
  · have c1 := Int32.lt_iff_toInt_lt.mp (Int32.not_le.mp cc)
    rw [a6] at c1
    have el : (m2 + 1).toInt = m2.toInt + 1 := by rw [tI_add (by rw [e1]; omega) (by rw [e1]; omega), e1]
    have vm : vp_in m2 320 := vin_iff.mpr ⟨q1, by omega⟩
    have e235 : ∀ s : RSt, FX [] [] [82, 83] u s → wp (B_accept_235 N R m1 m2 s) (fun _ w => FX [55, 98, 103, 104] [85, 88, 89, 90, 91, 92, 93, 94] [82, 83] u w ∧ w.1 55 = u.1 56 ∧ w.1 98 = 0 ∧ w.1 103 = 0 ∧ (BQ u → BQ w)) := by
      intro s hs2
      unfold B_accept_235
      exact ih ((320 - (m2 + 1).toInt).toNat) _ (by omega) ⟨rfl, by show 0 ≤ (m2 + 1).toInt; omega, by show (m2 + 1).toInt ≤ 320; omega, hs2, rfl⟩
    refine wp_rd.mpr ⟨vm, ?_⟩
    rw [zt q3 12]
    refine wp_if.mpr ⟨fun s1 => ?_, fun _ => e235 z q3⟩
    have s1 := Int32.le_iff_toInt_le.mp s1
    rw [e1] at s1
    obtain ⟨k1, k2, k3, k4⟩ := vok_mem ht hs s1
    -- the old program's value
    have e90 : ∀ s : RSt, FX [] [] [82, 83] u s → wp (LP_accept_90 N R N (m1, m2, 160 * u.1 55, s)) (fun _ w => FX [55, 98, 103, 104] [85, 88, 89, 90, 91, 92, 93, 94] [82, 83] u w ∧ w.1 55 = u.1 56 ∧ w.1 98 = 0 ∧ w.1 103 = 0 ∧ (BQ u → BQ w)) := by
      intro s hs2
      unfold LP_accept_90
      refine wp_lp (fun (d : Nat) (x : Int32 × Int32 × Int32 × RSt) => x.1 = m1 ∧ x.2.1 = m2 ∧ 0 ≤ x.2.2.1.toInt ∧ x.2.2.1.toInt ≤ 320 ∧ FX [] [] [82, 83] u x.2.2.2 ∧ d = (320 - x.2.2.1.toInt).toNat) ?_ _ ((320 - (160 * u.1 55).toInt).toNat) _ (by omega) ⟨rfl, rfl, by show 0 ≤ (160 * u.1 55).toInt; omega, by show (160 * u.1 55).toInt ≤ 320; omega, hs2, rfl⟩
      rintro d2 R2 ⟨n1, n2, n3, p⟩ ⟨r0, r1, r2, r3, r4, r5⟩ ih2
      dsimp only at r0 r1 r2 r3 r4 r5 ih2 ⊢
      subst r0 r1
      unfold B_accept_90
      refine wp_if.mpr ⟨fun _ => e235 p r4, fun _ => wp_rd.mpr ⟨by rw [zk r4]; exact v5, ?_⟩⟩
      rw [zk r4 55, zt r4 19]
      refine wp_if.mpr ⟨fun _ => e235 p r4, fun cc2 => ?_⟩
      have c2 := Int32.lt_iff_toInt_lt.mp (Int32.not_le.mp cc2)
      rw [a5] at c2
      have el3 : (n3 + 1).toInt = n3.toInt + 1 := by rw [tI_add (by rw [e1]; omega) (by rw [e1]; omega), e1]
      have vn : vp_in n3 320 := vin_iff.mpr ⟨r2, by omega⟩
      have e229 : ∀ o : RSt, FX [] [] [82, 83] u o → wp (B_accept_229 N R R2 n1 n2 n3 o) (fun _ w => FX [55, 98, 103, 104] [85, 88, 89, 90, 91, 92, 93, 94] [82, 83] u w ∧ w.1 55 = u.1 56 ∧ w.1 98 = 0 ∧ w.1 103 = 0 ∧ (BQ u → BQ w)) := by
        intro o ho
        unfold B_accept_229
        exact ih2 ((320 - (n3 + 1).toInt).toNat) _ (by omega) ⟨rfl, rfl, by show 0 ≤ (n3 + 1).toInt; omega, by show (n3 + 1).toInt ≤ 320; omega, ho, rfl⟩
      refine wp_rd.mpr ⟨vn, ?_⟩
      rw [zt r4 12]
      refine wp_if.mpr ⟨fun _ => e229 p r4, fun o1 => ?_⟩
      have o1 := Int32.le_iff_toInt_le.mp (Int32.not_lt.mp o1)
      rw [e1] at o1
      obtain ⟨j1, j2, j3, j4⟩ := vok_mem ht hs o1
      refine wp_rd.mpr ⟨vn, wp_rd.mpr ⟨vm, wp_if.mpr ⟨fun _ => wp_rd.mpr ⟨vn, wp_rd.mpr ⟨vm, wp_if.mpr ⟨fun _ => ?_, fun _ => e229 p r4⟩⟩⟩, fun _ => e229 p r4⟩⟩⟩
      unfold LP_accept_164
      refine wp_lp (fun (d : Nat) (x : Int32 × Int32 × Int32 × Int32 × RSt) => x.1 = n1 ∧ x.2.1 = n2 ∧ x.2.2.1 = n3 ∧ 0 ≤ x.2.2.2.1.toInt ∧ x.2.2.2.1.toInt ≤ 200 ∧ FX [] [] [82, 83] u x.2.2.2.2 ∧ d = (200 - x.2.2.2.1.toInt).toNat) ?_ _ 200 _ (by omega) ⟨rfl, rfl, rfl, by show 0 ≤ (0 : Int32).toInt; decide, by show (0 : Int32).toInt ≤ 200; decide, r4, rfl⟩
      rintro d3 R3 ⟨g1, g2, g3, g4, o⟩ ⟨f1, f2, f3, f4, f5, f6, f7⟩ ih3
      dsimp only at f1 f2 f3 f4 f5 f6 f7 ih3 ⊢
      subst f1 f2 f3
      unfold B_accept_164
      refine wp_rd.mpr ⟨vm, ?_⟩
      rw [zt f6 11]
      refine wp_if.mpr ⟨fun _ => e229 o f6, fun b1 => wp_rd.mpr ⟨vn, wp_if.mpr ⟨fun _ => e229 o f6, fun b2 => ?_⟩⟩⟩
      have b1 := Int32.lt_iff_toInt_lt.mp (Int32.not_le.mp b1)
      have b2 := Int32.lt_iff_toInt_lt.mp (Int32.not_le.mp b2)
      have el4 : (g4 + 1).toInt = g4.toInt + 1 := by rw [tI_add (by rw [e1]; omega) (by rw [e1]; omega), e1]
      refine wp_rd.mpr ⟨vm, wp_rd.mpr ⟨vm, wp_rd.mpr ⟨vn, ?_⟩⟩⟩
      rw [zt f6 15]
      have ea : (u.2.2.1 15 g2.toNatClampNeg + g4).toInt = (u.2.2.1 15 g2.toNatClampNeg).toInt + g4.toInt := tI_add (by omega) (by omega)
      have ea2 : (u.2.2.1 15 g3.toNatClampNeg + g4).toInt = (u.2.2.1 15 g3.toNatClampNeg).toInt + g4.toInt := tI_add (by omega) (by omega)
      exact wp_rd.mpr ⟨vin_iff.mpr ⟨by omega, by omega⟩, wp_wr.mpr ⟨vin_iff.mpr ⟨by omega, by omega⟩, ih3 ((200 - (g4 + 1).toInt).toNat) _ (by omega) ⟨rfl, rfl, rfl, by show 0 ≤ (g4 + 1).toInt; omega, by show (g4 + 1).toInt ≤ 200; omega, f6.sb (by decide), rfl⟩⟩⟩
    unfold LP_accept_46
    refine wp_lp (fun (d : Nat) (x : Int32 × Int32 × Int32 × RSt) => x.1 = m1 ∧ x.2.1 = m2 ∧ 0 ≤ x.2.2.1.toInt ∧ x.2.2.1.toInt ≤ 200 ∧ FX [] [] [82, 83] u x.2.2.2 ∧ d = (200 - x.2.2.1.toInt).toNat) ?_ _ 200 _ (by omega) ⟨rfl, rfl, by show 0 ≤ (0 : Int32).toInt; decide, by show (0 : Int32).toInt ≤ 200; decide, q3, rfl⟩
    rintro d2 R2 ⟨n1, n2, n3, s⟩ ⟨r0, r1, r2, r3, r4, r5⟩ ih2
    dsimp only at r0 r1 r2 r3 r4 r5 ih2 ⊢
    subst r0 r1
    unfold B_accept_46
    refine wp_rd.mpr ⟨vm, ?_⟩
    rw [zt r4 11, zk r4 55]
    refine wp_if.mpr ⟨fun _ => e90 s r4, fun b1 => ?_⟩
    have b1 := Int32.lt_iff_toInt_lt.mp (Int32.not_le.mp b1)
    have el3 : (n3 + 1).toInt = n3.toInt + 1 := by rw [tI_add (by rw [e1]; omega) (by rw [e1]; omega), e1]
    refine wp_rd.mpr ⟨vm, wp_rd.mpr ⟨vm, ?_⟩⟩
    rw [zt r4 15]
    have ea : (u.2.2.1 15 n2.toNatClampNeg + n3).toInt = (u.2.2.1 15 n2.toNatClampNeg).toInt + n3.toInt := tI_add (by omega) (by omega)
    exact wp_wr.mpr ⟨vin_iff.mpr ⟨by omega, by omega⟩, ih2 ((200 - (n3 + 1).toInt).toNat) _ (by omega) ⟨rfl, rfl, by show 0 ≤ (n3 + 1).toInt; omega, by show (n3 + 1).toInt ≤ 200; omega, r4.sb (by decide), rfl⟩⟩
end RAcc
