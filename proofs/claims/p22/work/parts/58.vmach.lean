set_option maxHeartbeats 4000000 in
theorem v_X7_isDue {N : Nat} {u : CSt} (hN : 5000000000 ≤ N) (U_u : UC u) {l0 : Nat} {l1 : Int32} : wq (F_X7_isDue N l0 l1 u) (VR (fun (r : Int32) => True) u) := by
  have H_u : FR [] u u := FR.rf
  unfold F_X7_isDue
  unfold B_X7_isDue_0
  refine wq_if.mpr ⟨fun h1 => ?_, fun h1 => ?_⟩
  · show wq _ _
    have f2 : (-2147483648 : Int) ≤ (tI u l0 0).toInt ∧ (tI u l0 0).toInt ≤ (2147483647 : Int) := U_u.t l0 0
    have f3 : (0 : Int32).toInt = 0 := by decide
    have g4 := Int32.le_iff_toInt_le.mp h1
    exact wq_some.mpr ⟨rfl, trivial⟩
  · show wq _ _
    have f5 : (-2147483648 : Int) ≤ (tI u l0 0).toInt ∧ (tI u l0 0).toInt ≤ (2147483647 : Int) := U_u.t l0 0
    have f6 : (0 : Int32).toInt = 0 := by decide
    have g7 := Int32.lt_iff_toInt_lt.mp (Int32.not_le.mp h1)
    have f8 := i32_b (l1)
    refine wq_pbU (v_J9_floorMod_7cf53 hN (show ¬ (tI u l0 0).toInt = 0 by omega)) (fun r_2 p9 => ?_)
    refine wq_if.mpr ⟨fun h10 => ?_, fun h10 => ?_⟩
    · show wq _ _
      have f11 := i32_b (r_2)
      have f12 : (-2147483648 : Int) ≤ (tI u l0 1).toInt ∧ (tI u l0 1).toInt ≤ (2147483647 : Int) := U_u.t l0 1
      have g13 := tI_eq.mp h10
      exact wq_some.mpr ⟨rfl, trivial⟩
    · show wq _ _
      have f14 := i32_b (r_2)
      have f15 : (-2147483648 : Int) ≤ (tI u l0 1).toInt ∧ (tI u l0 1).toInt ≤ (2147483647 : Int) := U_u.t l0 1
      have g16 := tI_ne h10
      exact wq_some.mpr ⟨rfl, trivial⟩
set_option maxHeartbeats 4000000 in
theorem v_X6_hasRoomFor {N : Nat} {u : CSt} (hN : 5000000000 ≤ N) (U_u : UC u) {l0 : Nat} {l1 : Int32} (h_0 : l0 < 2) (h_1 : l1.toInt ≤ 4 → 0 ≤ l1.toInt) : wq (F_X6_hasRoomFor N l0 l1 u) (VR (fun (r : Int32) => True) u) := by
  have H_u : FR [] u u := FR.rf
  unfold F_X6_hasRoomFor
  unfold B_X6_hasRoomFor_0
  refine wq_if.mpr ⟨fun h1 => ?_, fun h1 => ?_⟩
  · show wq _ _
    have f2 : (0 : Int) ≤ (pI u l0 12).toInt ∧ (pI u l0 12).toInt ≤ (160 : Int) := U_u.p l0 12
    have f3 : (160 : Int32).toInt = 160 := by decide
    have g4 := Int32.lt_iff_toInt_lt.mp h1
    refine wq_if.mpr ⟨fun h5 => ?_, fun h5 => ?_⟩
    · show wq _ _
      have f6 := i32_b (l1)
      have f7 : (5 : Int32).toInt = 5 := by decide
      have g8 := tI_eq.mp h5
      have f9 : (-2147483648 : Int) ≤ (pI u l0 15).toInt ∧ (pI u l0 15).toInt ≤ (2147483647 : Int) := U_u.p l0 15
      refine wq_bcR (v_X6_name hN U_u (show (l0) < 2 by omega)) (fun r_10 p10 => ?_)
      try dsimp only at p10
      refine wq_ok.mpr ⟨by first | assumption | omega, ?_⟩
      refine wq_if.mpr ⟨fun h11 => ?_, fun h11 => ?_⟩
      · show wq _ _
        have f12 : (6 : Int32).toInt = 6 := by decide
        have f13 : (-2147483648 : Int) ≤ (mI u r_10 11).toInt ∧ (mI u r_10 11).toInt ≤ (2147483647 : Int) := U_u.m r_10 11
        have g14 := Int32.le_iff_toInt_le.mp h11
        exact wq_some.mpr ⟨rfl, trivial⟩
      · show wq _ _
        have f15 : (6 : Int32).toInt = 6 := by decide
        have f16 : (-2147483648 : Int) ≤ (mI u r_10 11).toInt ∧ (mI u r_10 11).toInt ≤ (2147483647 : Int) := U_u.m r_10 11
        have g17 := Int32.lt_iff_toInt_lt.mp (Int32.not_le.mp h11)
        exact wq_some.mpr ⟨rfl, trivial⟩
    · show wq _ _
      have f18 := i32_b (l1)
      have f19 : (5 : Int32).toInt = 5 := by decide
      have g20 := tI_ne h5
      refine wq_if.mpr ⟨fun h21 => ?_, fun h21 => ?_⟩
      · show wq _ _
        have f22 : (4 : Int32).toInt = 4 := by decide
        have g23 := Int32.lt_iff_toInt_lt.mp h21
        unfold B_X6_hasRoomFor_58
        exact wq_some.mpr ⟨rfl, trivial⟩
      · show wq _ _
        have f24 : (4 : Int32).toInt = 4 := by decide
        have g25 := Int32.le_iff_toInt_le.mp (Int32.not_lt.mp h21)
        have x26 : vp_in (l1) 5 := vin_iff.mpr ⟨by omega, by omega⟩
        refine wq_rdU x26 (fun v_5 e_v_5 => ?_)
        have f27 := U_u.s l0 (l1 : Int32)
        rw [← e_v_5] at f27
        have x28 : vp_in (l1) 5 := vin_iff.mpr ⟨by omega, by omega⟩
        refine wq_rdU x28 (fun v_6 e_v_6 => ?_)
        refine wq_if.mpr ⟨fun h29 => ?_, fun h29 => ?_⟩
        · show wq _ _
          have f30 := i32_b (v_6)
          have f31 := i32_b (v_5)
          have g32 := Int32.le_iff_toInt_le.mp h29
          exact wq_some.mpr ⟨rfl, trivial⟩
        · show wq _ _
          have f33 := i32_b (v_6)
          have f34 := i32_b (v_5)
          have g35 := Int32.lt_iff_toInt_lt.mp (Int32.not_le.mp h29)
          unfold B_X6_hasRoomFor_58
          exact wq_some.mpr ⟨rfl, trivial⟩
  · show wq _ _
    have f36 : (0 : Int) ≤ (pI u l0 12).toInt ∧ (pI u l0 12).toInt ≤ (160 : Int) := U_u.p l0 12
    have f37 : (160 : Int32).toInt = 160 := by decide
    have g38 := Int32.le_iff_toInt_le.mp (Int32.not_lt.mp h1)
    exact wq_some.mpr ⟨rfl, trivial⟩
set_option maxHeartbeats 4000000 in
theorem v_X1_takeInputs {N : Nat} {u : CSt} (hN : 5000000000 ≤ N) (U_u : UC u)  : wq (F_X1_takeInputs N  u) (VP [] (fun (r : Int32) (w : CSt) => True) u) := by
  have H_u : FR [] u u := FR.rf
  unfold F_X1_takeInputs
  unfold B_X1_takeInputs_0
  have f2 : (0 : Int32).toInt = 0 := by decide
  unfold LP_X1_takeInputs_2
  refine wq_lp (fun (d : Nat) (a : Int32 × CSt) => UC a.2 ∧ FR [] u a.2 ∧ 0 ≤ a.1.toInt ∧ d = (2147483648 - a.1.toInt).toNat) ?_ _ ((2147483648 - ((0 : Int32)).toInt).toNat) _ (by omega) ⟨U_u, H_u, (show 0 ≤ ((0 : Int32)).toInt by omega), rfl⟩
  rintro d_1 R_1 ⟨l1_1, u_1⟩ ⟨U_1, H_1, i_1_0, m_1⟩ ih_1
  have i_1_0 : 0 ≤ l1_1.toInt := i_1_0
  have m_1 : d_1 = (2147483648 - l1_1.toInt).toNat := m_1
  have U_1 : UC u_1 := U_1
  have H_1 : FR [] u u_1 := H_1
  show wq (B_X1_takeInputs_2 N R_1 (l1_1) u_1) _
  unfold B_X1_takeInputs_2
  refine wq_if.mpr ⟨fun h3 => ?_, fun h3 => ?_⟩
  · show wq _ _
    have f4 : (64 : Int32).toInt = 64 := by decide
    have f5 := i32_b (l1_1)
    have g6 := Int32.le_iff_toInt_le.mp h3
    exact wq_some.mpr ⟨U_1, H_1, trivial⟩
  · show wq _ _
    have f7 : (64 : Int32).toInt = 64 := by decide
    have f8 := i32_b (l1_1)
    have g9 := Int32.lt_iff_toInt_lt.mp (Int32.not_le.mp h3)
    have f10 : (0 : Int32).toInt = 0 := by decide
    have x11 : vp_in ((0 : Int32)) 8 := vin_iff.mpr ⟨by omega, by omega⟩
    refine wq_ix.mpr ⟨x11, ?_⟩
    have x12 : vp_in (l1_1) 64 := vin_iff.mpr ⟨by omega, by omega⟩
    refine wq_rdU x12 (fun v_4 e_v_4 => ?_)
    have f13 : (4 : Int32).toInt = 4 := by decide
    have x14 : vp_in ((4 : Int32)) 8 := vin_iff.mpr ⟨by omega, by omega⟩
    refine wq_ix.mpr ⟨x14, ?_⟩
    have x15 : vp_in (l1_1) 64 := vin_iff.mpr ⟨by omega, by omega⟩
    refine wq_rdU x15 (fun v_7 e_v_7 => ?_)
    have f16 : (2 : Int32).toInt = 2 := by decide
    have x17 : vp_in ((2 : Int32)) 8 := vin_iff.mpr ⟨by omega, by omega⟩
    refine wq_ix.mpr ⟨x17, ?_⟩
    have f18 : (6 : Int32).toInt = 6 := by decide
    have x19 : vp_in ((6 : Int32)) 8 := vin_iff.mpr ⟨by omega, by omega⟩
    refine wq_ix.mpr ⟨x19, ?_⟩
    have x20 : vp_in (l1_1) 64 := vin_iff.mpr ⟨by omega, by omega⟩
    refine wq_rdU x20 (fun v_11 e_v_11 => ?_)
    have x21 : vp_in (l1_1) 64 := vin_iff.mpr ⟨by omega, by omega⟩
    refine wq_wc.mpr ⟨x21, ?_⟩
    have f22 : (2 : Int32).toNatClampNeg = ((2 : Int32)).toInt.toNat := rfl
    have U_u_13 : UC (xA u_1 (211 + ((2 : Int32).toNatClampNeg)) l1_1.toNatClampNeg ((v_4 &&& (v_7 ^^^ (-1))) ||| v_11)) := U_1.xA
    have H_u_13 : FR [] u (xA u_1 (211 + ((2 : Int32).toNatClampNeg)) l1_1.toNatClampNeg ((v_4 &&& (v_7 ^^^ (-1))) ||| v_11)) := H_1.xA (by exact Or.inl ⟨by omega, by omega⟩)
    generalize e_u_13 : xA u_1 (211 + ((2 : Int32).toNatClampNeg)) l1_1.toNatClampNeg ((v_4 &&& (v_7 ^^^ (-1))) ||| v_11) = u_13 at U_u_13 H_u_13 ⊢
    have f23 : (1 : Int32).toInt = 1 := by decide
    have f24 := tI_ad (l1_1) (1)
    have f25 := i32_b (l1_1 + 1)
    exact ih_1 ((2147483648 - (l1_1 + 1).toInt).toNat) (l1_1 + 1, u_13) (by omega) ⟨U_u_13, H_u_13, (show 0 ≤ (l1_1 + 1).toInt by omega), rfl⟩
set_option maxHeartbeats 4000000 in
theorem v_X1_giveOutputs {N : Nat} {u : CSt} (hN : 5000000000 ≤ N) (U_u : UC u)  : wq (F_X1_giveOutputs N  u) (VP [] (fun (r : Int32) (w : CSt) => True) u) := by
  have H_u : FR [] u u := FR.rf
  unfold F_X1_giveOutputs
  unfold B_X1_giveOutputs_0
  have f2 : (0 : Int32).toInt = 0 := by decide
  unfold LP_X1_giveOutputs_2
  refine wq_lp (fun (d : Nat) (a : Int32 × CSt) => UC a.2 ∧ FR [] u a.2 ∧ 0 ≤ a.1.toInt ∧ d = (2147483648 - a.1.toInt).toNat) ?_ _ ((2147483648 - ((0 : Int32)).toInt).toNat) _ (by omega) ⟨U_u, H_u, (show 0 ≤ ((0 : Int32)).toInt by omega), rfl⟩
  rintro d_1 R_1 ⟨l1_1, u_1⟩ ⟨U_1, H_1, i_1_0, m_1⟩ ih_1
  have i_1_0 : 0 ≤ l1_1.toInt := i_1_0
  have m_1 : d_1 = (2147483648 - l1_1.toInt).toNat := m_1
  have U_1 : UC u_1 := U_1
  have H_1 : FR [] u u_1 := H_1
  show wq (B_X1_giveOutputs_2 N R_1 (l1_1) u_1) _
  unfold B_X1_giveOutputs_2
  refine wq_if.mpr ⟨fun h3 => ?_, fun h3 => ?_⟩
  · show wq _ _
    have f4 : (64 : Int32).toInt = 64 := by decide
    have f5 := i32_b (l1_1)
    have g6 := Int32.le_iff_toInt_le.mp h3
    exact wq_some.mpr ⟨U_1, H_1, trivial⟩
  · show wq _ _
    have f7 : (64 : Int32).toInt = 64 := by decide
    have f8 := i32_b (l1_1)
    have g9 := Int32.lt_iff_toInt_lt.mp (Int32.not_le.mp h3)
    have f10 : (3 : Int32).toInt = 3 := by decide
    have x11 : vp_in ((3 : Int32)) 8 := vin_iff.mpr ⟨by omega, by omega⟩
    refine wq_ix.mpr ⟨x11, ?_⟩
    have x12 : vp_in (l1_1) 64 := vin_iff.mpr ⟨by omega, by omega⟩
    refine wq_rdU x12 (fun v_4 e_v_4 => ?_)
    have f13 : (5 : Int32).toInt = 5 := by decide
    have x14 : vp_in ((5 : Int32)) 8 := vin_iff.mpr ⟨by omega, by omega⟩
    refine wq_ix.mpr ⟨x14, ?_⟩
    have x15 : vp_in (l1_1) 64 := vin_iff.mpr ⟨by omega, by omega⟩
    refine wq_rdU x15 (fun v_7 e_v_7 => ?_)
    have x16 : vp_in ((3 : Int32)) 8 := vin_iff.mpr ⟨by omega, by omega⟩
    refine wq_ix.mpr ⟨x16, ?_⟩
    have f17 : (7 : Int32).toInt = 7 := by decide
    have x18 : vp_in ((7 : Int32)) 8 := vin_iff.mpr ⟨by omega, by omega⟩
    refine wq_ix.mpr ⟨x18, ?_⟩
    have x19 : vp_in (l1_1) 64 := vin_iff.mpr ⟨by omega, by omega⟩
    refine wq_rdU x19 (fun v_11 e_v_11 => ?_)
    have x20 : vp_in (l1_1) 64 := vin_iff.mpr ⟨by omega, by omega⟩
    refine wq_wc.mpr ⟨x20, ?_⟩
    have f21 : (3 : Int32).toNatClampNeg = ((3 : Int32)).toInt.toNat := rfl
    have U_u_13 : UC (xA u_1 (211 + ((3 : Int32).toNatClampNeg)) l1_1.toNatClampNeg ((v_4 &&& (v_7 ^^^ (-1))) ||| v_11)) := U_1.xA
    have H_u_13 : FR [] u (xA u_1 (211 + ((3 : Int32).toNatClampNeg)) l1_1.toNatClampNeg ((v_4 &&& (v_7 ^^^ (-1))) ||| v_11)) := H_1.xA (by exact Or.inl ⟨by omega, by omega⟩)
    generalize e_u_13 : xA u_1 (211 + ((3 : Int32).toNatClampNeg)) l1_1.toNatClampNeg ((v_4 &&& (v_7 ^^^ (-1))) ||| v_11) = u_13 at U_u_13 H_u_13 ⊢
    have f22 : (1 : Int32).toInt = 1 := by decide
    have x23 : vp_in ((1 : Int32)) 8 := vin_iff.mpr ⟨by omega, by omega⟩
    refine wq_ix.mpr ⟨x23, ?_⟩
    have x24 : vp_in ((3 : Int32)) 8 := vin_iff.mpr ⟨by omega, by omega⟩
    refine wq_ix.mpr ⟨x24, ?_⟩
    have x25 : vp_in (l1_1) 64 := vin_iff.mpr ⟨by omega, by omega⟩
    refine wq_rdU x25 (fun v_17 e_v_17 => ?_)
    have x26 : vp_in (l1_1) 64 := vin_iff.mpr ⟨by omega, by omega⟩
    refine wq_wc.mpr ⟨x26, ?_⟩
    have f27 : (1 : Int32).toNatClampNeg = ((1 : Int32)).toInt.toNat := rfl
    have U_u_19 : UC (xA u_13 (211 + ((1 : Int32).toNatClampNeg)) l1_1.toNatClampNeg v_17) := U_u_13.xA
    have H_u_19 : FR [] u (xA u_13 (211 + ((1 : Int32).toNatClampNeg)) l1_1.toNatClampNeg v_17) := H_u_13.xA (by exact Or.inl ⟨by omega, by omega⟩)
    generalize e_u_19 : xA u_13 (211 + ((1 : Int32).toNatClampNeg)) l1_1.toNatClampNeg v_17 = u_19 at U_u_19 H_u_19 ⊢
    have f28 := tI_ad (l1_1) (1)
    have f29 := i32_b (l1_1 + 1)
    exact ih_1 ((2147483648 - (l1_1 + 1).toInt).toNat) (l1_1 + 1, u_19) (by omega) ⟨U_u_19, H_u_19, (show 0 ≤ (l1_1 + 1).toInt by omega), rfl⟩
set_option maxHeartbeats 4000000 in
theorem v_X1_wipe {N : Nat} {u : CSt} (hN : 5000000000 ≤ N) (U_u : UC u)  : wq (F_X1_wipe N  u) (VP [] (fun (r : Int32) (w : CSt) => True) u) := by
  have H_u : FR [] u u := FR.rf
  unfold F_X1_wipe
  unfold B_X1_wipe_0
  have f1 : (2 : Int32).toInt = 2 := by decide
  have x2 : vp_in ((2 : Int32)) 8 := vin_iff.mpr ⟨by omega, by omega⟩
  refine wq_ix.mpr ⟨x2, ?_⟩
  refine wq_pc.mpr ?_
  have U_u_2 : UC (xF u 213 (fl (cA u 213) 0 64)) := U_u.xF
  have H_u_2 : FR [] u (xF u 213 (fl (cA u 213) 0 64)) := H_u.xF (by exact Or.inl (by decide))
  generalize e_u_2 : xF u 213 (fl (cA u 213) 0 64) = u_2 at U_u_2 H_u_2 ⊢
  have f3 : (3 : Int32).toInt = 3 := by decide
  have x4 : vp_in ((3 : Int32)) 8 := vin_iff.mpr ⟨by omega, by omega⟩
  refine wq_ix.mpr ⟨x4, ?_⟩
  refine wq_pc.mpr ?_
  have U_u_4 : UC (xF u_2 214 (fl (cA u_2 214) 0 64)) := U_u_2.xF
  have H_u_4 : FR [] u (xF u_2 214 (fl (cA u_2 214) 0 64)) := H_u_2.xF (by exact Or.inl (by decide))
  generalize e_u_4 : xF u_2 214 (fl (cA u_2 214) 0 64) = u_4 at U_u_4 H_u_4 ⊢
  exact wq_some.mpr ⟨U_u_4, H_u_4, trivial⟩
set_option maxHeartbeats 4000000 in
theorem v_X1_get {N : Nat} {u : CSt} (hN : 5000000000 ≤ N) (U_u : UC u) {l1 : Int32} {l2 : Int32} {l3 : Int32} (h_0 : 0 ≤ l1.toInt ∧ l1.toInt < 8) (h_1 : 0 ≤ l3.toInt ∧ l3.toInt ≤ 4) : wq (F_X1_get N l1 l2 l3 u) (VR (fun (r : Int64) => True) u) := by
  have H_u : FR [] u u := FR.rf
  unfold F_X1_get
  unfold B_X1_get_0
  have f2 := i32_b (l1)
  have f3 := i32_b (l2)
  have f4 := i32_b (l3)
  have f5 : (0 : Int32).toInt = 0 := by decide
  unfold LP_X1_get_6
  refine wq_lp (fun (d : Nat) (a : Int32 × Int32 × Int32 × Int64 × Int32 × CSt) => a.2.2.2.2.2 = u ∧ a.1 = l1 ∧ a.2.1 = l2 ∧ a.2.2.1 = l3 ∧ d = (2147483648 - a.2.2.2.2.1.toInt).toNat) ?_ _ ((2147483648 - (l2).toInt).toNat) _ (by omega) ⟨rfl, rfl, rfl, rfl, rfl⟩
  rintro d_1 R_1 ⟨l1_1, l2_1, l3_1, l4_1, l6_1, u_1⟩ ⟨e_1, k_1_0, k_1_1, k_1_2, m_1⟩ ih_1
  have e_1 : u = u_1 := Eq.symm e_1
  subst e_1
  have k_1_0 : l1 = l1_1 := Eq.symm k_1_0
  subst k_1_0
  have k_1_1 : l2 = l2_1 := Eq.symm k_1_1
  subst k_1_1
  have k_1_2 : l3 = l3_1 := Eq.symm k_1_2
  subst k_1_2
  have m_1 : d_1 = (2147483648 - l6_1.toInt).toNat := m_1
  show wq (B_X1_get_6 N R_1 (l1) (l2) (l3) (l4_1) (l6_1) u) _
  unfold B_X1_get_6
  have x6 : vp_in (l3) 5 := vin_iff.mpr ⟨by omega, by omega⟩
  refine wq_rdU x6 (fun v_3 e_v_3 => ?_)
  refine wq_if.mpr ⟨fun h7 => ?_, fun h7 => ?_⟩
  · show wq _ _
    have f8 := i32_b (v_3)
    have f9 : (8 : Int32).toInt = 8 := by decide
    have f10 := i32_b (v_3 / 8)
    have f11 := tI_ad (l2) (v_3 / 8)
    have f12 := i32_b (l2 + (v_3 / 8))
    have f13 := i32_b (l6_1)
    have g14 := Int32.le_iff_toInt_le.mp h7
    unfold B_X1_get_57
    exact wq_some.mpr ⟨rfl, trivial⟩
  · show wq _ _
    have f15 := i32_b (v_3)
    have f16 : (8 : Int32).toInt = 8 := by decide
    have f17 := i32_b (v_3 / 8)
    have f18 := tI_ad (l2) (v_3 / 8)
    have f19 := i32_b (l2 + (v_3 / 8))
    have f20 := i32_b (l6_1)
    have g21 := Int32.lt_iff_toInt_lt.mp (Int32.not_le.mp h7)
    refine wq_if.mpr ⟨fun h22 => ?_, fun h22 => ?_⟩
    · show wq _ _
      have g23 := Int32.lt_iff_toInt_lt.mp h22
      unfold B_X1_get_57
      exact wq_some.mpr ⟨rfl, trivial⟩
    · show wq _ _
      have g24 := Int32.le_iff_toInt_le.mp (Int32.not_lt.mp h22)
      refine wq_if.mpr ⟨fun h25 => ?_, fun h25 => ?_⟩
      · show wq _ _
        have f26 : (64 : Int32).toInt = 64 := by decide
        have g27 := Int32.le_iff_toInt_le.mp h25
        unfold B_X1_get_57
        exact wq_some.mpr ⟨rfl, trivial⟩
      · show wq _ _
        have f28 : (64 : Int32).toInt = 64 := by decide
        have g29 := Int32.lt_iff_toInt_lt.mp (Int32.not_le.mp h25)
        have x30 : vp_in (l1) 8 := vin_iff.mpr ⟨by omega, by omega⟩
        refine wq_ix.mpr ⟨x30, ?_⟩
        have x31 : vp_in (l6_1) 64 := vin_iff.mpr ⟨by omega, by omega⟩
        refine wq_rdU x31 (fun v_10 e_v_10 => ?_)
        have f32 : (1 : Int32).toInt = 1 := by decide
        have f33 := tI_ad (l6_1) (1)
        have f34 := i32_b (l6_1 + 1)
        exact ih_1 ((2147483648 - (l6_1 + 1).toInt).toNat) (l1, l2, l3, (l4_1 <<< (((8 : Int32).toInt64) &&& 63)) ||| v_10.toInt64, l6_1 + 1, u) (by omega) ⟨rfl, rfl, rfl, rfl, rfl⟩
set_option maxHeartbeats 4000000 in
theorem v_X1_set {N : Nat} {u : CSt} (hN : 5000000000 ≤ N) (U_u : UC u) {l1 : Int32} {l2 : Int32} {l3 : Int64} (h_0 : 0 ≤ l2.toInt ∧ l2.toInt ≤ 4) : wq (F_X1_set N l1 l2 l3 u) (VP [] (fun (r : Int32) (w : CSt) => True) u) := by
  have H_u : FR [] u u := FR.rf
  unfold F_X1_set
  unfold B_X1_set_0
  have f1 := i32_b (l2)
  have x2 : vp_in (l2) 5 := vin_iff.mpr ⟨by omega, by omega⟩
  refine wq_rdU x2 (fun v_7 e_v_7 => ?_)
  have f4 := i32_b (v_7)
  have f5 : (8 : Int32).toInt = 8 := by decide
  have f6 := tI_sb (v_7) (8)
  have f7 := i32_b (v_7 - 8)
  have f8 := i32_b (l1)
  unfold LP_X1_set_13
  refine wq_lp (fun (d : Nat) (a : Int64 × Int32 × Int32 × CSt) => UC a.2.2.2 ∧ FR [] u a.2.2.2 ∧ a.1 = l3 ∧ d = (2147483648 - a.2.2.1.toInt).toNat) ?_ _ ((2147483648 - (l1).toInt).toNat) _ (by omega) ⟨U_u, H_u, rfl, rfl⟩
  rintro d_3 R_3 ⟨l3_3, l5_3, l6_3, u_3⟩ ⟨U_3, H_3, k_3_0, m_3⟩ ih_3
  have k_3_0 : l3 = l3_3 := Eq.symm k_3_0
  subst k_3_0
  have m_3 : d_3 = (2147483648 - l6_3.toInt).toNat := m_3
  have U_3 : UC u_3 := U_3
  have H_3 : FR [] u u_3 := H_3
  show wq (B_X1_set_13 N R_3 (l3) (l5_3) (l6_3) u_3) _
  unfold B_X1_set_13
  refine wq_if.mpr ⟨fun h9 => ?_, fun h9 => ?_⟩
  · show wq _ _
    have f10 := i32_b (l5_3)
    have f11 : (0 : Int32).toInt = 0 := by decide
    have g12 := Int32.lt_iff_toInt_lt.mp h9
    exact wq_some.mpr ⟨U_3, H_3, trivial⟩
  · show wq _ _
    have f13 := i32_b (l5_3)
    have f14 : (0 : Int32).toInt = 0 := by decide
    have g15 := Int32.le_iff_toInt_le.mp (Int32.not_lt.mp h9)
    refine wq_if.mpr ⟨fun h16 => ?_, fun h16 => ?_⟩
    · show wq _ _
      have f17 := i32_b (l6_3)
      have g18 := Int32.lt_iff_toInt_lt.mp h16
      exact wq_some.mpr ⟨U_3, H_3, trivial⟩
    · show wq _ _
      have f19 := i32_b (l6_3)
      have g20 := Int32.le_iff_toInt_le.mp (Int32.not_lt.mp h16)
      refine wq_if.mpr ⟨fun h21 => ?_, fun h21 => ?_⟩
      · show wq _ _
        have f22 : (64 : Int32).toInt = 64 := by decide
        have g23 := Int32.le_iff_toInt_le.mp h21
        exact wq_some.mpr ⟨U_3, H_3, trivial⟩
      · show wq _ _
        have f24 : (64 : Int32).toInt = 64 := by decide
        have g25 := Int32.lt_iff_toInt_lt.mp (Int32.not_le.mp h21)
        have f26 : (3 : Int32).toInt = 3 := by decide
        have x27 : vp_in ((3 : Int32)) 8 := vin_iff.mpr ⟨by omega, by omega⟩
        refine wq_ix.mpr ⟨x27, ?_⟩
        have x28 : vp_in (l6_3) 64 := vin_iff.mpr ⟨by omega, by omega⟩
        refine wq_wc.mpr ⟨x28, ?_⟩
        have f29 : (3 : Int32).toNatClampNeg = ((3 : Int32)).toInt.toNat := rfl
        have U_u_6 : UC (xA u_3 (211 + ((3 : Int32).toNatClampNeg)) l6_3.toNatClampNeg (((l3 >>> (l5_3.toInt64 &&& 63)).toInt32) &&& 255)) := U_3.xA
        have H_u_6 : FR [] u (xA u_3 (211 + ((3 : Int32).toNatClampNeg)) l6_3.toNatClampNeg (((l3 >>> (l5_3.toInt64 &&& 63)).toInt32) &&& 255)) := H_3.xA (by exact Or.inl ⟨by omega, by omega⟩)
        generalize e_u_6 : xA u_3 (211 + ((3 : Int32).toNatClampNeg)) l6_3.toNatClampNeg (((l3 >>> (l5_3.toInt64 &&& 63)).toInt32) &&& 255) = u_6 at U_u_6 H_u_6 ⊢
        have f30 := tI_m8 (l5_3)
        have f31 := i32_b (l5_3 + (-8))
        have f32 : (1 : Int32).toInt = 1 := by decide
        have f33 := tI_ad (l6_3) (1)
        have f34 := i32_b (l6_3 + 1)
        have b_z35 := i32_b (l5_3 + (-8))
        have t_z35 := tI_m8 (l5_3)
        generalize l5_3 + (-8) = z35 at t_z35 b_z35 ⊢
        clear f30 f31
        exact ih_3 ((2147483648 - (l6_3 + 1).toInt).toNat) (l3, z35, l6_3 + 1, u_6) (by omega) ⟨U_u_6, H_u_6, rfl, rfl⟩
set_option maxHeartbeats 4000000 in
theorem v_X2_numberAt {N : Nat} {u : CSt} (hN : 5000000000 ≤ N) (U_u : UC u) {l1 : Int32} : wq (F_X2_numberAt N l1 u) (VR (fun (r : Int64) => True) u) := by
  have H_u : FR [] u u := FR.rf
  unfold F_X2_numberAt
  unfold B_X2_numberAt_0
  refine wq_if.mpr ⟨fun h1 => ?_, fun h1 => ?_⟩
  · show wq _ _
    have f2 := i32_b (l1)
    have f3 : (0 : Int32).toInt = 0 := by decide
    have g4 := Int32.lt_iff_toInt_lt.mp h1
    exact wq_some.mpr ⟨rfl, trivial⟩
  · show wq _ _
    have f5 := i32_b (l1)
    have f6 : (0 : Int32).toInt = 0 := by decide
    have g7 := Int32.le_iff_toInt_le.mp (Int32.not_lt.mp h1)
    refine wq_if.mpr ⟨fun h8 => ?_, fun h8 => ?_⟩
    · show wq _ _
      have f9 : (6096 : Int32).toInt = 6096 := by decide
      have g10 := Int32.le_iff_toInt_le.mp h8
      exact wq_some.mpr ⟨rfl, trivial⟩
    · show wq _ _
      have f11 : (6096 : Int32).toInt = 6096 := by decide
      have g12 := Int32.lt_iff_toInt_lt.mp (Int32.not_le.mp h8)
      have x13 : vp_in (l1) 6096 := vin_iff.mpr ⟨by omega, by omega⟩
      refine wq_rdU x13 (fun v_4 e_v_4 => ?_)
      exact wq_some.mpr ⟨rfl, trivial⟩
set_option maxHeartbeats 4000000 in
theorem v_X2_put {N : Nat} {u : CSt} (hN : 5000000000 ≤ N) (U_u : UC u) {l1 : Int32} {l2 : Int64} : wq (F_X2_put N l1 l2 u) (VP [] (fun (r : Int32) (w : CSt) => True) u) := by
  have H_u : FR [] u u := FR.rf
  unfold F_X2_put
  unfold B_X2_put_0
  refine wq_if.mpr ⟨fun h1 => ?_, fun h1 => ?_⟩
  · show wq _ _
    have f2 := i32_b (l1)
    have f3 : (0 : Int32).toInt = 0 := by decide
    have g4 := Int32.lt_iff_toInt_lt.mp h1
    exact wq_some.mpr ⟨U_u, H_u, trivial⟩
  · show wq _ _
    have f5 := i32_b (l1)
    have f6 : (0 : Int32).toInt = 0 := by decide
    have g7 := Int32.le_iff_toInt_le.mp (Int32.not_lt.mp h1)
    refine wq_if.mpr ⟨fun h8 => ?_, fun h8 => ?_⟩
    · show wq _ _
      have f9 : (6096 : Int32).toInt = 6096 := by decide
      have g10 := Int32.le_iff_toInt_le.mp h8
      exact wq_some.mpr ⟨U_u, H_u, trivial⟩
    · show wq _ _
      have f11 : (6096 : Int32).toInt = 6096 := by decide
      have g12 := Int32.lt_iff_toInt_lt.mp (Int32.not_le.mp h8)
      have x13 : vp_in (l1) 6096 := vin_iff.mpr ⟨by omega, by omega⟩
      refine wq_wc.mpr ⟨x13, ?_⟩
      have U_u_4 : UC (xB u 235 l1.toNatClampNeg l2) := U_u.xB
      have H_u_4 : FR [] u (xB u 235 l1.toNatClampNeg l2) := H_u.of rfl rfl
      generalize e_u_4 : xB u 235 l1.toNatClampNeg l2 = u_4 at U_u_4 H_u_4 ⊢
      exact wq_some.mpr ⟨U_u_4, H_u_4, trivial⟩
set_option maxHeartbeats 4000000 in
theorem v_X2_fill {N : Nat} {u : CSt} (hN : 5000000000 ≤ N) (U_u : UC u) {l1 : Int32} {l2 : Int32} {l3 : Int64} : wq (F_X2_fill N l1 l2 l3 u) (VP [] (fun (r : Int32) (w : CSt) => True) u) := by
  have H_u : FR [] u u := FR.rf
  unfold F_X2_fill
  unfold B_X2_fill_0
  have f2 := i32_b (l1)
  have f3 := i32_b (l2)
  have f4 : (0 : Int32).toInt = 0 := by decide
  unfold LP_X2_fill_3
  refine wq_lp (fun (d : Nat) (a : Int32 × Int32 × Int64 × Int32 × CSt) => UC a.2.2.2.2 ∧ FR [] u a.2.2.2.2 ∧ a.1 = l1 ∧ a.2.1 = l2 ∧ a.2.2.1 = l3 ∧ 0 ≤ a.2.2.2.1.toInt ∧ d = (2147483648 - a.2.2.2.1.toInt).toNat) ?_ _ ((2147483648 - ((0 : Int32)).toInt).toNat) _ (by omega) ⟨U_u, H_u, rfl, rfl, rfl, (show 0 ≤ ((0 : Int32)).toInt by omega), rfl⟩
  rintro d_1 R_1 ⟨l1_1, l2_1, l3_1, l5_1, u_1⟩ ⟨U_1, H_1, k_1_0, k_1_1, k_1_2, i_1_0, m_1⟩ ih_1
  have k_1_0 : l1 = l1_1 := Eq.symm k_1_0
  subst k_1_0
  have k_1_1 : l2 = l2_1 := Eq.symm k_1_1
  subst k_1_1
  have k_1_2 : l3 = l3_1 := Eq.symm k_1_2
  subst k_1_2
  have i_1_0 : 0 ≤ l5_1.toInt := i_1_0
  have m_1 : d_1 = (2147483648 - l5_1.toInt).toNat := m_1
  have U_1 : UC u_1 := U_1
  have H_1 : FR [] u u_1 := H_1
  show wq (B_X2_fill_3 N R_1 (l1) (l2) (l3) (l5_1) u_1) _
  unfold B_X2_fill_3
  refine wq_if.mpr ⟨fun h5 => ?_, fun h5 => ?_⟩
  · show wq _ _
    have f6 := i32_b (l2)
    have f7 := i32_b (l5_1)
    have g8 := Int32.le_iff_toInt_le.mp h5
    exact wq_some.mpr ⟨U_1, H_1, trivial⟩
  · show wq _ _
    have f9 := i32_b (l2)
    have f10 := i32_b (l5_1)
    have g11 := Int32.lt_iff_toInt_lt.mp (Int32.not_le.mp h5)
    have f12 := i32_b (l1)
    have f13 := tI_ad (l1) (l5_1)
    have f14 := i32_b (l1 + l5_1)
    refine wq_bcV (v_X2_put hN U_1 ) (fun r15 u_2 U_u_2 G_u_2 p16 => ?_)
    have H_u_2 := H_1.call G_u_2 (show ∀ k ∈ [], k ∈ [] by decide)
    have f17 : (1 : Int32).toInt = 1 := by decide
    have f18 := tI_ad (l5_1) (1)
    have f19 := i32_b (l5_1 + 1)
    exact ih_1 ((2147483648 - (l5_1 + 1).toInt).toNat) (l1, l2, l3, l5_1 + 1, u_2) (by omega) ⟨U_u_2, H_u_2, rfl, rfl, rfl, (show 0 ≤ (l5_1 + 1).toInt by omega), rfl⟩
set_option maxHeartbeats 4000000 in
theorem v_X2_numberOf {N : Nat} {u : CSt} (hN : 5000000000 ≤ N) (U_u : UC u) {l1 : Nat} {l2 : Int32} : wq (F_X2_numberOf N l1 l2 u) (VR (fun (r : Int64) => True) u) := by
  have H_u : FR [] u u := FR.rf
  unfold F_X2_numberOf
  unfold B_X2_numberOf_0
  refine wq_bcR (v_X4_isPlaced hN U_u ) (fun r_4 p1 => ?_)
  try dsimp only at p1
  refine wq_if.mpr ⟨fun h2 => ?_, fun h2 => ?_⟩
  · show wq _ _
    have f3 := i32_b (r_4)
    have f4 : (0 : Int32).toInt = 0 := by decide
    have g5 := tI_eq.mp h2
    have f6 : (0 : Int) ≤ (mI u l1 9).toInt ∧ (mI u l1 9).toInt ≤ (3500 : Int) := U_u.m l1 9
    have f7 := i32_b (l2)
    have f8 := tI_ad (mI u l1 9) (l2)
    have f9 := i32_b ((mI u l1 9) + l2)
    refine wq_bcR (v_X2_numberAt hN U_u ) (fun r_7 p10 => ?_)
    exact wq_some.mpr ⟨rfl, trivial⟩
  · show wq _ _
    have f11 := i32_b (r_4)
    have f12 : (0 : Int32).toInt = 0 := by decide
    have g13 := tI_ne h2
    refine wq_bcR (v_X4_isInput hN U_u ) (fun r_9 p14 => ?_)
    try dsimp only at p14
    refine wq_if.mpr ⟨fun h15 => ?_, fun h15 => ?_⟩
    · show wq _ _
      have f16 := i32_b (r_9)
      have g17 := tI_eq.mp h15
      unfold B_X2_numberOf_23
      have f18 : (3 : Int32).toInt = 3 := by decide
      have f19 : (0 : Int) ≤ (mI u l1 9).toInt ∧ (mI u l1 9).toInt ≤ (3500 : Int) := U_u.m l1 9
      have f20 : (0 : Int) ≤ (mI u l1 5).toInt ∧ (mI u l1 5).toInt ≤ (4 : Int) := U_u.m l1 5
      refine wq_bcR (v_X1_get hN U_u (show 0 ≤ ((3 : Int32)).toInt ∧ ((3 : Int32)).toInt < 8 by omega) (show 0 ≤ (mI u l1 5).toInt ∧ (mI u l1 5).toInt ≤ 4 by omega)) (fun r_2 p21 => ?_)
      exact wq_some.mpr ⟨rfl, trivial⟩
    · show wq _ _
      have f22 := i32_b (r_9)
      have g23 := tI_ne h15
      unfold B_X2_numberOf_23
      have f24 : (2 : Int32).toInt = 2 := by decide
      have f25 : (0 : Int) ≤ (mI u l1 9).toInt ∧ (mI u l1 9).toInt ≤ (3500 : Int) := U_u.m l1 9
      have f26 : (0 : Int) ≤ (mI u l1 5).toInt ∧ (mI u l1 5).toInt ≤ (4 : Int) := U_u.m l1 5
      refine wq_bcR (v_X1_get hN U_u (show 0 ≤ ((2 : Int32)).toInt ∧ ((2 : Int32)).toInt < 8 by omega) (show 0 ≤ (mI u l1 5).toInt ∧ (mI u l1 5).toInt ≤ 4 by omega)) (fun r_2 p27 => ?_)
      exact wq_some.mpr ⟨rfl, trivial⟩
set_option maxHeartbeats 4000000 in
theorem v_X2_change {N : Nat} {u : CSt} (hN : 5000000000 ≤ N) (U_u : UC u) {l1 : Nat} {l2 : Int32} {l3 : Int64} : wq (F_X2_change N l1 l2 l3 u) (VP [] (fun (r : Int32) (w : CSt) => True) u) := by
  have H_u : FR [] u u := FR.rf
  unfold F_X2_change
  unfold B_X2_change_0
  refine wq_bcR (v_X4_isPlaced hN U_u ) (fun r_2 p1 => ?_)
  try dsimp only at p1
  refine wq_if.mpr ⟨fun h2 => ?_, fun h2 => ?_⟩
  · show wq _ _
    have f3 := i32_b (r_2)
    have f4 : (0 : Int32).toInt = 0 := by decide
    have g5 := tI_eq.mp h2
    have f6 : (0 : Int) ≤ (mI u l1 9).toInt ∧ (mI u l1 9).toInt ≤ (3500 : Int) := U_u.m l1 9
    have f7 := i32_b (l2)
    have f8 := tI_ad (mI u l1 9) (l2)
    have f9 := i32_b ((mI u l1 9) + l2)
    refine wq_bcV (v_X2_put hN U_u ) (fun r10 u_6 U_u_6 G_u_6 p11 => ?_)
    have H_u_6 := H_u.call G_u_6 (show ∀ k ∈ [], k ∈ [] by decide)
    exact wq_some.mpr ⟨U_u_6, H_u_6, trivial⟩
  · show wq _ _
    have f12 := i32_b (r_2)
    have f13 : (0 : Int32).toInt = 0 := by decide
    have g14 := tI_ne h2
    have f15 : (0 : Int) ≤ (mI u l1 9).toInt ∧ (mI u l1 9).toInt ≤ (3500 : Int) := U_u.m l1 9
    have f16 : (0 : Int) ≤ (mI u l1 5).toInt ∧ (mI u l1 5).toInt ≤ (4 : Int) := U_u.m l1 5
    refine wq_bcV (v_X1_set hN U_u (show 0 ≤ (mI u l1 5).toInt ∧ (mI u l1 5).toInt ≤ 4 by omega)) (fun r17 u_7 U_u_7 G_u_7 p18 => ?_)
    have H_u_7 := H_u.call G_u_7 (show ∀ k ∈ [], k ∈ [] by decide)
    exact wq_some.mpr ⟨U_u_7, H_u_7, trivial⟩
set_option maxHeartbeats 4000000 in
theorem v_X2_keep {N : Nat} {u : CSt} (hN : 5000000000 ≤ N) (U_u : UC u) {l1 : Nat} {l2 : Nat} : wq (F_X2_keep N l1 l2 u) (VP [] (fun (r : Int32) (w : CSt) => True) u) := by
  have H_u : FR [] u u := FR.rf
  unfold F_X2_keep
  unfold B_X2_keep_0
  refine wq_if.mpr ⟨fun h1 => ?_, fun h1 => ?_⟩
  · show wq _ _
    have f2 : (-2147483648 : Int) ≤ (mI u l2 2).toInt ∧ (mI u l2 2).toInt ≤ (2147483647 : Int) := U_u.m l2 2
    have f3 : (0 : Int32).toInt = 0 := by decide
    have g4 := tI_eq.mp h1
    refine wq_bcR (v_X4_isPlaced hN U_u ) (fun r_11 p5 => ?_)
    try dsimp only at p5
    refine wq_if.mpr ⟨fun h6 => ?_, fun h6 => ?_⟩
    · show wq _ _
      have f7 := i32_b (r_11)
      have g8 := tI_eq.mp h6
      unfold LP_X2_keep_17
      refine wq_lp (fun (d : Nat) (a : Nat × Nat × Int32 × CSt) => UC a.2.2.2 ∧ FR [] u a.2.2.2 ∧ a.1 = l1 ∧ a.2.1 = l2 ∧ 0 ≤ a.2.2.1.toInt ∧ d = (2147483648 - a.2.2.1.toInt).toNat) ?_ _ ((2147483648 - ((0 : Int32)).toInt).toNat) _ (by omega) ⟨U_u, H_u, rfl, rfl, (show 0 ≤ ((0 : Int32)).toInt by omega), rfl⟩
      rintro d_9 R_9 ⟨l1_9, l2_9, l3_9, u_9⟩ ⟨U_9, H_9, k_9_0, k_9_1, i_9_0, m_9⟩ ih_9
      have k_9_0 : l1 = l1_9 := Eq.symm k_9_0
      subst k_9_0
      have k_9_1 : l2 = l2_9 := Eq.symm k_9_1
      subst k_9_1
      have i_9_0 : 0 ≤ l3_9.toInt := i_9_0
      have m_9 : d_9 = (2147483648 - l3_9.toInt).toNat := m_9
      have U_9 : UC u_9 := U_9
      have H_9 : FR [] u u_9 := H_9
      show wq (B_X2_keep_17 N R_9 (l1) (l2) (l3_9) u_9) _
      unfold B_X2_keep_17
      refine wq_if.mpr ⟨fun h10 => ?_, fun h10 => ?_⟩
      · show wq _ _
        have f11 : (0 : Int) ≤ (mI u_9 l1 7).toInt ∧ (mI u_9 l1 7).toInt ≤ (300 : Int) := U_9.m l1 7
        have f12 := i32_b (l3_9)
        have g13 := Int32.le_iff_toInt_le.mp h10
        exact wq_some.mpr ⟨U_9, H_9, trivial⟩
      · show wq _ _
        have f14 : (0 : Int) ≤ (mI u_9 l1 7).toInt ∧ (mI u_9 l1 7).toInt ≤ (300 : Int) := U_9.m l1 7
        have f15 := i32_b (l3_9)
        have g16 := Int32.lt_iff_toInt_lt.mp (Int32.not_le.mp h10)
        refine wq_if.mpr ⟨fun h17 => ?_, fun h17 => ?_⟩
        · show wq _ _
          have f18 : (0 : Int) ≤ (mI u_9 l2 7).toInt ∧ (mI u_9 l2 7).toInt ≤ (300 : Int) := U_9.m l2 7
          have g19 := Int32.le_iff_toInt_le.mp h17
          exact wq_some.mpr ⟨U_9, H_9, trivial⟩
        · show wq _ _
          have f20 : (0 : Int) ≤ (mI u_9 l2 7).toInt ∧ (mI u_9 l2 7).toInt ≤ (300 : Int) := U_9.m l2 7
          have g21 := Int32.lt_iff_toInt_lt.mp (Int32.not_le.mp h17)
          refine wq_if.mpr ⟨fun h22 => ?_, fun h22 => ?_⟩
          · show wq _ _
            have f23 : (2000 : Int32).toInt = 2000 := by decide
            have f24 : (0 : Int) ≤ (mI u_9 l2 9).toInt ∧ (mI u_9 l2 9).toInt ≤ (3500 : Int) := U_9.m l2 9
            have f25 := tI_ad (mI u_9 l2 9) (l3_9)
            have f26 := i32_b ((mI u_9 l2 9) + l3_9)
            have g27 := Int32.le_iff_toInt_le.mp h22
            exact wq_some.mpr ⟨U_9, H_9, trivial⟩
          · show wq _ _
            have f28 : (2000 : Int32).toInt = 2000 := by decide
            have f29 : (0 : Int) ≤ (mI u_9 l2 9).toInt ∧ (mI u_9 l2 9).toInt ≤ (3500 : Int) := U_9.m l2 9
            have f30 := tI_ad (mI u_9 l2 9) (l3_9)
            have f31 := i32_b ((mI u_9 l2 9) + l3_9)
            have g32 := Int32.lt_iff_toInt_lt.mp (Int32.not_le.mp h22)
            have x33 : vp_in ((mI u_9 l2 9) + l3_9) 2000 := vin_iff.mpr ⟨by omega, by omega⟩
            refine wq_rdU x33 (fun v_5 e_v_5 => ?_)
            have f34 : (0 : Int) ≤ (mI u_9 l1 9).toInt ∧ (mI u_9 l1 9).toInt ≤ (3500 : Int) := U_9.m l1 9
            have f35 := tI_ad (mI u_9 l1 9) (l3_9)
            have f36 := i32_b ((mI u_9 l1 9) + l3_9)
            refine wq_bcV (v_X2_put hN U_9 ) (fun r37 u_8 U_u_8 G_u_8 p38 => ?_)
            have H_u_8 := H_9.call G_u_8 (show ∀ k ∈ [], k ∈ [] by decide)
            have f39 : (1 : Int32).toInt = 1 := by decide
            have f40 := tI_ad (l3_9) (1)
            have f41 := i32_b (l3_9 + 1)
            exact ih_9 ((2147483648 - (l3_9 + 1).toInt).toNat) (l1, l2, l3_9 + 1, u_8) (by omega) ⟨U_u_8, H_u_8, rfl, rfl, (show 0 ≤ (l3_9 + 1).toInt by omega), rfl⟩
    · show wq _ _
      have f42 := i32_b (r_11)
      have g43 := tI_ne h6
      exact wq_some.mpr ⟨U_u, H_u, trivial⟩
  · show wq _ _
    have f44 : (-2147483648 : Int) ≤ (mI u l2 2).toInt ∧ (mI u l2 2).toInt ≤ (2147483647 : Int) := U_u.m l2 2
    have f45 : (0 : Int32).toInt = 0 := by decide
    have g46 := tI_ne h1
    exact wq_some.mpr ⟨U_u, H_u, trivial⟩
set_option maxHeartbeats 4000000 in
theorem v_X2_resetInstances {N : Nat} {u : CSt} (hN : 5000000000 ≤ N) (U_u : UC u) {l1 : Nat} (h_0 : l1 < 2) : wq (F_X2_resetInstances N l1 u) (VP [] (fun (r : Int32) (w : CSt) => True) u) := by
  have H_u : FR [] u u := FR.rf
  unfold F_X2_resetInstances
  unfold B_X2_resetInstances_0
  have f2 : (0 : Int32).toInt = 0 := by decide
  unfold LP_X2_resetInstances_2
  refine wq_lp (fun (d : Nat) (a : Nat × Int32 × CSt) => UC a.2.2 ∧ FR [] u a.2.2 ∧ a.1 = l1 ∧ 0 ≤ a.2.1.toInt ∧ d = (2147483648 - a.2.1.toInt).toNat) ?_ _ ((2147483648 - ((0 : Int32)).toInt).toNat) _ (by omega) ⟨U_u, H_u, rfl, (show 0 ≤ ((0 : Int32)).toInt by omega), rfl⟩
  rintro d_1 R_1 ⟨l1_1, l2_1, u_1⟩ ⟨U_1, H_1, k_1_0, i_1_0, m_1⟩ ih_1
  have k_1_0 : l1 = l1_1 := Eq.symm k_1_0
  subst k_1_0
  have i_1_0 : 0 ≤ l2_1.toInt := i_1_0
  have m_1 : d_1 = (2147483648 - l2_1.toInt).toNat := m_1
  have U_1 : UC u_1 := U_1
  have H_1 : FR [] u u_1 := H_1
  show wq (B_X2_resetInstances_2 N R_1 (l1) (l2_1) u_1) _
  unfold B_X2_resetInstances_2
  have f3 : (1 : Int32).toInt = 1 := by decide
  refine wq_bcR (v_X6_ofSort hN U_1 (show 0 ≤ ((1 : Int32)).toInt ∧ ((1 : Int32)).toInt < 5 by omega)) (fun r_7 p4 => ?_)
  try dsimp only at p4
  refine wq_if.mpr ⟨fun h5 => ?_, fun h5 => ?_⟩
  · show wq _ _
    have f6 := i32_b (r_7)
    have f7 := i32_b (l2_1)
    have g8 := Int32.le_iff_toInt_le.mp h5
    exact wq_some.mpr ⟨U_1, H_1, trivial⟩
  · show wq _ _
    have f9 := i32_b (r_7)
    have f10 := i32_b (l2_1)
    have g11 := Int32.lt_iff_toInt_lt.mp (Int32.not_le.mp h5)
    refine wq_bcR (v_X6_nth hN U_1 (show (l1) < 2 by omega) (show 0 ≤ ((1 : Int32)).toInt ∧ ((1 : Int32)).toInt < 5 by omega)) (fun r_10 p12 => ?_)
    try dsimp only at p12
    refine wq_ok.mpr ⟨by first | assumption | omega, ?_⟩
    have f13 : (-2147483648 : Int) ≤ (mI u_1 r_10 14).toInt ∧ (mI u_1 r_10 14).toInt ≤ (2147483647 : Int) := U_1.m r_10 14
    refine wq_bcR (v_X6_name hN U_1 (show (l1) < 2 by omega)) (fun r_13 p14 => ?_)
    try dsimp only at p14
    refine wq_ok.mpr ⟨by first | assumption | omega, ?_⟩
    have f16 : (0 : Int32).toInt = 0 := by decide
    unfold LP_X2_resetInstances_31
    refine wq_lp (fun (d : Nat) (a : Nat × Int32 × Nat × Nat × Int32 × CSt) => UC a.2.2.2.2.2 ∧ FR [] u a.2.2.2.2.2 ∧ a.1 = l1 ∧ a.2.1 = l2_1 ∧ a.2.2.1 = r_10 ∧ a.2.2.2.1 = r_13 ∧ 0 ≤ a.2.2.2.2.1.toInt ∧ d = (2147483648 - a.2.2.2.2.1.toInt).toNat) ?_ _ ((2147483648 - ((0 : Int32)).toInt).toNat) _ (by omega) ⟨U_1, H_1, rfl, rfl, rfl, rfl, (show 0 ≤ ((0 : Int32)).toInt by omega), rfl⟩
    rintro d_15 R_15 ⟨l1_15, l2_15, l3_15, l4_15, l5_15, u_15⟩ ⟨U_15, H_15, k_15_0, k_15_1, k_15_2, k_15_3, i_15_0, m_15⟩ ih_15
    have k_15_0 : l1 = l1_15 := Eq.symm k_15_0
    subst k_15_0
    have k_15_1 : l2_1 = l2_15 := Eq.symm k_15_1
    subst k_15_1
    have k_15_2 : r_10 = l3_15 := Eq.symm k_15_2
    subst k_15_2
    have k_15_3 : r_13 = l4_15 := Eq.symm k_15_3
    subst k_15_3
    have i_15_0 : 0 ≤ l5_15.toInt := i_15_0
    have m_15 : d_15 = (2147483648 - l5_15.toInt).toNat := m_15
    have U_15 : UC u_15 := U_15
    have H_15 : FR [] u u_15 := H_15
    show wq (B_X2_resetInstances_31 N R_1 R_15 (l1) (l2_1) (r_10) (r_13) (l5_15) u_15) _
    unfold B_X2_resetInstances_31
    refine wq_if.mpr ⟨fun h17 => ?_, fun h17 => ?_⟩
    · show wq _ _
      have f18 : (-2147483648 : Int) ≤ (mI u_15 r_13 12).toInt ∧ (mI u_15 r_13 12).toInt ≤ (2147483647 : Int) := U_15.m r_13 12
      have f19 := i32_b (l5_15)
      have g20 := Int32.le_iff_toInt_le.mp h17
      have f21 := i32_b (l2_1)
      have f22 : (1 : Int32).toInt = 1 := by decide
      have f23 := tI_ad (l2_1) (1)
      have f24 := i32_b (l2_1 + 1)
      exact ih_1 ((2147483648 - (l2_1 + 1).toInt).toNat) (l1, l2_1 + 1, u_15) (by omega) ⟨U_15, H_15, rfl, (show 0 ≤ (l2_1 + 1).toInt by omega), rfl⟩
    · show wq _ _
      have f25 : (-2147483648 : Int) ≤ (mI u_15 r_13 12).toInt ∧ (mI u_15 r_13 12).toInt ≤ (2147483647 : Int) := U_15.m r_13 12
      have f26 := i32_b (l5_15)
      have g27 := Int32.lt_iff_toInt_lt.mp (Int32.not_le.mp h17)
      refine wq_bcR (v_X6_local hN U_15 (show (l1) < 2 by omega)) (fun r_3 p28 => ?_)
      try dsimp only at p28
      refine wq_ok.mpr ⟨by first | assumption | omega, ?_⟩
      have f29 : (0 : Int) ≤ (mI u_15 r_10 9).toInt ∧ (mI u_15 r_10 9).toInt ≤ (3500 : Int) := U_15.m r_10 9
      have f30 : (0 : Int) ≤ (mI u_15 r_3 9).toInt ∧ (mI u_15 r_3 9).toInt ≤ (3500 : Int) := U_15.m r_3 9
      have f31 := tI_ad (mI u_15 r_10 9) (mI u_15 r_3 9)
      have f32 := i32_b ((mI u_15 r_10 9) + (mI u_15 r_3 9))
      have f33 : (0 : Int) ≤ (mI u_15 r_3 7).toInt ∧ (mI u_15 r_3 7).toInt ≤ (300 : Int) := U_15.m r_3 7
      refine wq_bcV (v_X2_fill hN U_15 ) (fun r34 u_5 U_u_5 G_u_5 p35 => ?_)
      have H_u_5 := H_15.call G_u_5 (show ∀ k ∈ [], k ∈ [] by decide)
      have f36 : (1 : Int32).toInt = 1 := by decide
      have f37 := tI_ad (l5_15) (1)
      have f38 := i32_b (l5_15 + 1)
      exact ih_15 ((2147483648 - (l5_15 + 1).toInt).toNat) (l1, l2_1, r_10, r_13, l5_15 + 1, u_5) (by omega) ⟨U_u_5, H_u_5, rfl, rfl, rfl, rfl, (show 0 ≤ (l5_15 + 1).toInt by omega), rfl⟩
set_option maxHeartbeats 4000000 in
theorem v_X2_install {N : Nat} {u : CSt} (hN : 5000000000 ≤ N) (U_u : UC u) {l1 : Nat} {l2 : Nat} {l3 : Int32} (h_0 : l1 < 2) (h_1 : l2 < 2) : wq (F_X2_install N l1 l2 l3 u) (VP [] (fun (r : Int32) (w : CSt) => True) u) := by
  have H_u : FR [] u u := FR.rf
  unfold F_X2_install
  unfold B_X2_install_0
  refine wq_pc.mpr ?_
  have U_u_17 : UC (xG u 236 (va_cpy (cB u 235) (cB u 236) ((0 : Int32).toNatClampNeg) ((0 : Int32).toNatClampNeg) ((2000 : Int32).toNatClampNeg))) := U_u.xG
  have H_u_17 : FR [] u (xG u 236 (va_cpy (cB u 235) (cB u 236) ((0 : Int32).toNatClampNeg) ((0 : Int32).toNatClampNeg) ((2000 : Int32).toNatClampNeg))) := H_u.of rfl rfl
  generalize e_u_17 : xG u 236 (va_cpy (cB u 235) (cB u 236) ((0 : Int32).toNatClampNeg) ((0 : Int32).toNatClampNeg) ((2000 : Int32).toNatClampNeg)) = u_17 at U_u_17 H_u_17 ⊢
  have f2 := i32_b (l3)
  have f3 : (0 : Int32).toInt = 0 := by decide
  unfold LP_X2_install_19
  refine wq_lp (fun (d : Nat) (a : Nat × Nat × Int32 × Int32 × CSt) => UC a.2.2.2.2 ∧ FR [] u a.2.2.2.2 ∧ a.1 = l1 ∧ a.2.1 = l2 ∧ a.2.2.1 = l3 ∧ 0 ≤ a.2.2.2.1.toInt ∧ d = (2147483648 - a.2.2.2.1.toInt).toNat) ?_ _ ((2147483648 - ((0 : Int32)).toInt).toNat) _ (by omega) ⟨U_u_17, H_u_17, rfl, rfl, rfl, (show 0 ≤ ((0 : Int32)).toInt by omega), rfl⟩
  rintro d_1 R_1 ⟨l1_1, l2_1, l3_1, l4_1, u_1⟩ ⟨U_1, H_1, k_1_0, k_1_1, k_1_2, i_1_0, m_1⟩ ih_1
  have k_1_0 : l1 = l1_1 := Eq.symm k_1_0
  subst k_1_0
  have k_1_1 : l2 = l2_1 := Eq.symm k_1_1
  subst k_1_1
  have k_1_2 : l3 = l3_1 := Eq.symm k_1_2
  subst k_1_2
  have i_1_0 : 0 ≤ l4_1.toInt := i_1_0
  have m_1 : d_1 = (2147483648 - l4_1.toInt).toNat := m_1
  have U_1 : UC u_1 := U_1
  have H_1 : FR [] u u_1 := H_1
  show wq (B_X2_install_19 N R_1 (l1) (l2) (l3) (l4_1) u_1) _
  unfold B_X2_install_19
  have f4 : (0 : Int32).toInt = 0 := by decide
  refine wq_bcR (v_X6_ofSort hN U_1 (show 0 ≤ ((0 : Int32)).toInt ∧ ((0 : Int32)).toInt < 5 by omega)) (fun r_2 p5 => ?_)
  try dsimp only at p5
  refine wq_if.mpr ⟨fun h6 => ?_, fun h6 => ?_⟩
  · show wq _ _
    have f7 := i32_b (r_2)
    have f8 := i32_b (l4_1)
    have g9 := Int32.le_iff_toInt_le.mp h6
    refine wq_bcV (v_X2_resetInstances hN U_1 (show (l1) < 2 by omega)) (fun r10 u_4 U_u_4 G_u_4 p11 => ?_)
    have H_u_4 := H_1.call G_u_4 (show ∀ k ∈ [], k ∈ [] by decide)
    exact wq_some.mpr ⟨U_u_4, H_u_4, trivial⟩
  · show wq _ _
    have f12 := i32_b (r_2)
    have f13 := i32_b (l4_1)
    have g14 := Int32.lt_iff_toInt_lt.mp (Int32.not_le.mp h6)
    refine wq_bcR (v_X6_nth hN U_1 (show (l1) < 2 by omega) (show 0 ≤ ((0 : Int32)).toInt ∧ ((0 : Int32)).toInt < 5 by omega)) (fun r_6 p15 => ?_)
    try dsimp only at p15
    refine wq_ok.mpr ⟨by first | assumption | omega, ?_⟩
    refine wq_bcR (v_X4_isPlaced hN U_1 ) (fun r_9 p16 => ?_)
    try dsimp only at p16
    refine wq_if.mpr ⟨fun h17 => ?_, fun h17 => ?_⟩
    · show wq _ _
      have f18 := i32_b (r_9)
      have g19 := tI_eq.mp h17
      have f20 : (0 : Int) ≤ (mI u_1 r_6 9).toInt ∧ (mI u_1 r_6 9).toInt ≤ (3500 : Int) := U_1.m r_6 9
      have f21 : (0 : Int) ≤ (mI u_1 r_6 7).toInt ∧ (mI u_1 r_6 7).toInt ≤ (300 : Int) := U_1.m r_6 7
      refine wq_bcV (v_X2_fill hN U_1 ) (fun r22 u_11 U_u_11 G_u_11 p23 => ?_)
      have H_u_11 := H_1.call G_u_11 (show ∀ k ∈ [], k ∈ [] by decide)
      refine wq_if.mpr ⟨fun h24 => ?_, fun h24 => ?_⟩
      · show wq _ _
        have f25 := i32_b (l3)
        have g26 := tI_eq.mp h24
        unfold B_X2_install_89
        have f27 : (1 : Int32).toInt = 1 := by decide
        have f28 := tI_ad (l4_1) (1)
        have f29 := i32_b (l4_1 + 1)
        exact ih_1 ((2147483648 - (l4_1 + 1).toInt).toNat) (l1, l2, l3, l4_1 + 1, u_11) (by omega) ⟨U_u_11, H_u_11, rfl, rfl, rfl, (show 0 ≤ (l4_1 + 1).toInt by omega), rfl⟩
      · show wq _ _
        have f30 := i32_b (l3)
        have g31 := tI_ne h24
        have f32 : (-2147483648 : Int) ≤ (mI u_11 r_6 1).toInt ∧ (mI u_11 r_6 1).toInt ≤ (2147483647 : Int) := U_u_11.m r_6 1
        refine wq_bcR (v_X6_ofText hN U_u_11 (show (l2) < 2 by omega)) (fun r_14 p33 => ?_)
        try dsimp only at p33
        refine wq_ok.mpr ⟨by first | assumption | omega, ?_⟩
        refine wq_bcV (v_X2_keep hN U_u_11 ) (fun r34 u_16 U_u_16 G_u_16 p35 => ?_)
        have H_u_16 := H_u_11.call G_u_16 (show ∀ k ∈ [], k ∈ [] by decide)
        unfold B_X2_install_89
        have f36 : (1 : Int32).toInt = 1 := by decide
        have f37 := tI_ad (l4_1) (1)
        have f38 := i32_b (l4_1 + 1)
        exact ih_1 ((2147483648 - (l4_1 + 1).toInt).toNat) (l1, l2, l3, l4_1 + 1, u_16) (by omega) ⟨U_u_16, H_u_16, rfl, rfl, rfl, (show 0 ≤ (l4_1 + 1).toInt by omega), rfl⟩
    · show wq _ _
      have f39 := i32_b (r_9)
      have g40 := tI_ne h17
      unfold B_X2_install_89
      have f41 : (1 : Int32).toInt = 1 := by decide
      have f42 := tI_ad (l4_1) (1)
      have f43 := i32_b (l4_1 + 1)
      exact ih_1 ((2147483648 - (l4_1 + 1).toInt).toNat) (l1, l2, l3, l4_1 + 1, u_1) (by omega) ⟨U_1, H_1, rfl, rfl, rfl, (show 0 ≤ (l4_1 + 1).toInt by omega), rfl⟩
set_option maxHeartbeats 4000000 in
theorem v_X2_stop {N : Nat} {u : CSt} (hN : 5000000000 ≤ N) (U_u : UC u) {l1 : Int32} {l2 : Int32} : wq (F_X2_stop N l1 l2 u) (VP [25, 26, 27] (fun (r : Int32) (w : CSt) => True) u) := by
  have H_u : FR [25, 26, 27] u u := FR.rf
  unfold F_X2_stop
  unfold B_X2_stop_0
  refine wq_pc.mpr ?_
  have f1 := i32_b (l1)
  have U_u_1 : UC (xI u 26 l1) := U_u.xI (k := 26) (show (-2147483648 : Int) ≤ (l1).toInt by omega) (show (l1).toInt ≤ (2147483647 : Int) by omega)
  have H_u_1 : FR [25, 26, 27] u (xI u 26 l1) := H_u.xI (by decide)
  generalize e_u_1 : xI u 26 l1 = u_1 at U_u_1 H_u_1 ⊢
  refine wq_pc.mpr ?_
  have f2 := i32_b (l2)
  have U_u_2 : UC (xI u_1 27 l2) := U_u_1.xI (k := 27) (show (-2147483648 : Int) ≤ (l2).toInt by omega) (show (l2).toInt ≤ (2147483647 : Int) by omega)
  have H_u_2 : FR [25, 26, 27] u (xI u_1 27 l2) := H_u_1.xI (by decide)
  generalize e_u_2 : xI u_1 27 l2 = u_2 at U_u_2 H_u_2 ⊢
  refine wq_pc.mpr ?_
  have f3 : (0 : Int32).toInt = 0 := by decide
  have U_u_3 : UC (xI u_2 25 0) := U_u_2.xI (k := 25) (show (0 : Int) ≤ ((0 : Int32)).toInt by omega) (show ((0 : Int32)).toInt ≤ (1 : Int) by omega)
  have H_u_3 : FR [25, 26, 27] u (xI u_2 25 0) := H_u_2.xI (by decide)
  generalize e_u_3 : xI u_2 25 0 = u_3 at U_u_3 H_u_3 ⊢
  exact wq_some.mpr ⟨U_u_3, H_u_3, trivial⟩
set_option maxHeartbeats 4000000 in
theorem v_X2_push {N : Nat} {u : CSt} (hN : 5000000000 ≤ N) (U_u : UC u) {l1 : Int64} : wq (F_X2_push N l1 u) (VP [18] (fun (r : Int32) (w : CSt) => True) u) := by
  have H_u : FR [18] u u := FR.rf
  unfold F_X2_push
  unfold B_X2_push_0
  have f1 : (-2147483648 : Int) ≤ (cI u 18).toInt ∧ (cI u 18).toInt ≤ (2147483647 : Int) := U_u.i  18
  refine wq_bcV (v_X2_put hN U_u ) (fun r2 u_1 U_u_1 G_u_1 p3 => ?_)
  have H_u_1 := H_u.call G_u_1 (show ∀ k ∈ [], k ∈ [18] by decide)
  refine wq_pc.mpr ?_
  have f4 : (-2147483648 : Int) ≤ (cI u_1 18).toInt ∧ (cI u_1 18).toInt ≤ (2147483647 : Int) := U_u_1.i  18
  have f5 : (cI u_1 18).toInt = (cI u 18).toInt := by rw [show cI u_1 18 = cI u 18 from G_u_1.1 18 (by decide)]
  have f6 : (1 : Int32).toInt = 1 := by decide
  have f7 := tI_ad (cI u_1 18) (1)
  have f8 := i32_b ((cI u_1 18) + 1)
  have U_u_2 : UC (xI u_1 18 ((cI u_1 18) + 1)) := U_u_1.xI (k := 18) (show (-2147483648 : Int) ≤ ((cI u_1 18) + 1).toInt by omega) (show ((cI u_1 18) + 1).toInt ≤ (2147483647 : Int) by omega)
  have H_u_2 : FR [18] u (xI u_1 18 ((cI u_1 18) + 1)) := H_u_1.xI (by decide)
  generalize e_u_2 : xI u_1 18 ((cI u_1 18) + 1) = u_2 at U_u_2 H_u_2 ⊢
  exact wq_some.mpr ⟨U_u_2, H_u_2, trivial⟩
set_option maxHeartbeats 4000000 in
theorem v_X2_pop {N : Nat} {u : CSt} (hN : 5000000000 ≤ N) (U_u : UC u)  : wq (F_X2_pop N  u) (VP [18] (fun (r : Int64) (w : CSt) => True) u) := by
  have H_u : FR [18] u u := FR.rf
  unfold F_X2_pop
  unfold B_X2_pop_0
  refine wq_pc.mpr ?_
  have f1 : (-2147483648 : Int) ≤ (cI u 18).toInt ∧ (cI u 18).toInt ≤ (2147483647 : Int) := U_u.i  18
  have f2 : (1 : Int32).toInt = 1 := by decide
  have f3 := tI_sb (cI u 18) (1)
  have f4 := i32_b ((cI u 18) - 1)
  have U_u_1 : UC (xI u 18 ((cI u 18) - 1)) := U_u.xI (k := 18) (show (-2147483648 : Int) ≤ ((cI u 18) - 1).toInt by omega) (show ((cI u 18) - 1).toInt ≤ (2147483647 : Int) by omega)
  have H_u_1 : FR [18] u (xI u 18 ((cI u 18) - 1)) := H_u.xI (by decide)
  generalize e_u_1 : xI u 18 ((cI u 18) - 1) = u_1 at U_u_1 H_u_1 ⊢
  have f5 : (-2147483648 : Int) ≤ (cI u_1 18).toInt ∧ (cI u_1 18).toInt ≤ (2147483647 : Int) := U_u_1.i  18
  have f6 : (cI u_1 18).toInt = ((cI u 18) - 1).toInt := by rw [← e_u_1]; simp only [xI_1, if_true]
  refine wq_bcR (v_X2_numberAt hN U_u_1 ) (fun r_3 p7 => ?_)
  exact wq_some.mpr ⟨U_u_1, H_u_1, trivial⟩
set_option maxHeartbeats 4000000 in
theorem v_X2_address {N : Nat} {u : CSt} (hN : 5000000000 ≤ N) (U_u : UC u) {l1 : Int32} {l2 : Int32} {l3 : Int32} : wq (F_X2_address N l1 l2 l3 u) (VP [18, 25, 26, 27] (fun (r : Int32) (w : CSt) => True) u) := by
  have H_u : FR [18, 25, 26, 27] u u := FR.rf
  unfold F_X2_address
  unfold B_X2_address_0
  refine wq_bcV (v_X2_pop hN U_u ) (fun r_3 u_2 U_u_2 G_u_2 p1 => ?_)
  have H_u_2 := H_u.call G_u_2 (show ∀ k ∈ [18], k ∈ [18, 25, 26, 27] by decide)
  refine wq_if.mpr ⟨fun h2 => ?_, fun h2 => ?_⟩
  · show wq _ _
    unfold B_X2_address_21
    have f3 : (2 : Int32).toInt = 2 := by decide
    have f4 := i32_b (l3)
    refine wq_bcV (v_X2_stop hN U_u_2 ) (fun r5 u_1 U_u_1 G_u_1 p6 => ?_)
    have H_u_1 := H_u_2.call G_u_1 (show ∀ k ∈ [25, 26, 27], k ∈ [18, 25, 26, 27] by decide)
    exact wq_some.mpr ⟨U_u_1, H_u_1, trivial⟩
  · show wq _ _
    refine wq_if.mpr ⟨fun h7 => ?_, fun h7 => ?_⟩
    · show wq _ _
      refine wq_bcV (v_X2_push hN U_u_2 ) (fun r8 u_6 U_u_6 G_u_6 p9 => ?_)
      have H_u_6 := H_u_2.call G_u_6 (show ∀ k ∈ [18], k ∈ [18, 25, 26, 27] by decide)
      exact wq_some.mpr ⟨U_u_6, H_u_6, trivial⟩
    · show wq _ _
      unfold B_X2_address_21
      have f10 : (2 : Int32).toInt = 2 := by decide
      have f11 := i32_b (l3)
      refine wq_bcV (v_X2_stop hN U_u_2 ) (fun r12 u_1 U_u_1 G_u_1 p13 => ?_)
      have H_u_1 := H_u_2.call G_u_1 (show ∀ k ∈ [25, 26, 27], k ∈ [18, 25, 26, 27] by decide)
      exact wq_some.mpr ⟨U_u_1, H_u_1, trivial⟩
set_option maxHeartbeats 4000000 in
theorem v_X2_assign {N : Nat} {u : CSt} (hN : 5000000000 ≤ N) (U_u : UC u) {l1 : Int32} : wq (F_X2_assign N l1 u) (VP [18] (fun (r : Int32) (w : CSt) => True) u) := by
  have H_u : FR [18] u u := FR.rf
  unfold F_X2_assign
  unfold B_X2_assign_0
  refine wq_bcV (v_X2_pop hN U_u ) (fun r_2 u_1 U_u_1 G_u_1 p1 => ?_)
  have H_u_1 := H_u.call G_u_1 (show ∀ k ∈ [18], k ∈ [18] by decide)
  refine wq_bcV (v_X2_pop hN U_u_1 ) (fun r_4 u_3 U_u_3 G_u_3 p2 => ?_)
  have H_u_3 := H_u_1.call G_u_3 (show ∀ k ∈ [18], k ∈ [18] by decide)
  have f3 := i32_b (r_4.toInt32)
  refine wq_bcV (v_X2_put hN U_u_3 ) (fun r4 u_7 U_u_7 G_u_7 p5 => ?_)
  have H_u_7 := H_u_3.call G_u_7 (show ∀ k ∈ [], k ∈ [18] by decide)
  exact wq_some.mpr ⟨U_u_7, H_u_7, trivial⟩
set_option maxHeartbeats 4000000 in
theorem v_X2_move {N : Nat} {u : CSt} (hN : 5000000000 ≤ N) (U_u : UC u) {l1 : Int32} {l2 : Int32} {l3 : Int32} {l4 : Int32} (h_0 : (l1.toInt = 5 ∨ l1.toInt = 6 ∨ l1.toInt = 9) → 0 ≤ l3.toInt ∧ l3.toInt ≤ 4) : wq (F_X2_move N l1 l2 l3 l4 u) (VP [18, 25, 26, 27] (fun (r : Int32) (w : CSt) => True) u) := by
  have H_u : FR [18, 25, 26, 27] u u := FR.rf
  unfold F_X2_move
  unfold B_X2_move_0
  refine wq_if.mpr ⟨fun h1 => ?_, fun h1 => ?_⟩
  · show wq _ _
    have f2 := i32_b (l1)
    have f3 : (1 : Int32).toInt = 1 := by decide
    have g4 := tI_eq.mp h1
    refine wq_bcV (v_X2_push hN U_u ) (fun r5 u_2 U_u_2 G_u_2 p6 => ?_)
    have H_u_2 := H_u.call G_u_2 (show ∀ k ∈ [18], k ∈ [18, 25, 26, 27] by decide)
    exact wq_some.mpr ⟨U_u_2, H_u_2, trivial⟩
  · show wq _ _
    have f7 := i32_b (l1)
    have f8 : (1 : Int32).toInt = 1 := by decide
    have g9 := tI_ne h1
    refine wq_if.mpr ⟨fun h10 => ?_, fun h10 => ?_⟩
    · show wq _ _
      have f11 : (2 : Int32).toInt = 2 := by decide
      have g12 := tI_eq.mp h10
      refine wq_bcV (v_X2_push hN U_u ) (fun r13 u_4 U_u_4 G_u_4 p14 => ?_)
      have H_u_4 := H_u.call G_u_4 (show ∀ k ∈ [18], k ∈ [18, 25, 26, 27] by decide)
      exact wq_some.mpr ⟨U_u_4, H_u_4, trivial⟩
    · show wq _ _
      have f15 : (2 : Int32).toInt = 2 := by decide
      have g16 := tI_ne h10
      refine wq_if.mpr ⟨fun h17 => ?_, fun h17 => ?_⟩
      · show wq _ _
        have f18 : (3 : Int32).toInt = 3 := by decide
        have g19 := tI_eq.mp h17
        have f20 := i32_b (l2)
        refine wq_bcR (v_X2_numberAt hN U_u ) (fun r_7 p21 => ?_)
        refine wq_bcV (v_X2_push hN U_u ) (fun r22 u_8 U_u_8 G_u_8 p23 => ?_)
        have H_u_8 := H_u.call G_u_8 (show ∀ k ∈ [18], k ∈ [18, 25, 26, 27] by decide)
        exact wq_some.mpr ⟨U_u_8, H_u_8, trivial⟩
      · show wq _ _
        have f24 : (3 : Int32).toInt = 3 := by decide
        have g25 := tI_ne h17
        refine wq_if.mpr ⟨fun h26 => ?_, fun h26 => ?_⟩
        · show wq _ _
          have f27 : (4 : Int32).toInt = 4 := by decide
          have g28 := tI_eq.mp h26
          have f29 : (-2147483648 : Int) ≤ (cI u 19).toInt ∧ (cI u 19).toInt ≤ (2147483647 : Int) := U_u.i  19
          have f30 := i32_b (l2)
          have f31 := tI_ad (cI u 19) (l2)
          have f32 := i32_b ((cI u 19) + l2)
          refine wq_bcR (v_X2_numberAt hN U_u ) (fun r_11 p33 => ?_)
          refine wq_bcV (v_X2_push hN U_u ) (fun r34 u_12 U_u_12 G_u_12 p35 => ?_)
          have H_u_12 := H_u.call G_u_12 (show ∀ k ∈ [18], k ∈ [18, 25, 26, 27] by decide)
          exact wq_some.mpr ⟨U_u_12, H_u_12, trivial⟩
        · show wq _ _
          have f36 : (4 : Int32).toInt = 4 := by decide
          have g37 := tI_ne h26
          refine wq_if.mpr ⟨fun h38 => ?_, fun h38 => ?_⟩
          · show wq _ _
            have f39 : (5 : Int32).toInt = 5 := by decide
            have g40 := tI_eq.mp h38
            have f41 := i32_b (l2)
            have f42 := i32_b (l3)
            refine wq_bcR (v_X1_get hN U_u (show 0 ≤ ((2 : Int32)).toInt ∧ ((2 : Int32)).toInt < 8 by omega) (show 0 ≤ (l3).toInt ∧ (l3).toInt ≤ 4 by omega)) (fun r_15 p43 => ?_)
            refine wq_bcV (v_X2_push hN U_u ) (fun r44 u_16 U_u_16 G_u_16 p45 => ?_)
            have H_u_16 := H_u.call G_u_16 (show ∀ k ∈ [18], k ∈ [18, 25, 26, 27] by decide)
            exact wq_some.mpr ⟨U_u_16, H_u_16, trivial⟩
          · show wq _ _
            have f46 : (5 : Int32).toInt = 5 := by decide
            have g47 := tI_ne h38
            refine wq_if.mpr ⟨fun h48 => ?_, fun h48 => ?_⟩
            · show wq _ _
              have f49 : (6 : Int32).toInt = 6 := by decide
              have g50 := tI_eq.mp h48
              have f51 := i32_b (l2)
              have f52 := i32_b (l3)
              refine wq_bcR (v_X1_get hN U_u (show 0 ≤ ((3 : Int32)).toInt ∧ ((3 : Int32)).toInt < 8 by omega) (show 0 ≤ (l3).toInt ∧ (l3).toInt ≤ 4 by omega)) (fun r_19 p53 => ?_)
              refine wq_bcV (v_X2_push hN U_u ) (fun r54 u_20 U_u_20 G_u_20 p55 => ?_)
              have H_u_20 := H_u.call G_u_20 (show ∀ k ∈ [18], k ∈ [18, 25, 26, 27] by decide)
              exact wq_some.mpr ⟨U_u_20, H_u_20, trivial⟩
            · show wq _ _
              have f56 : (6 : Int32).toInt = 6 := by decide
              have g57 := tI_ne h48
              refine wq_if.mpr ⟨fun h58 => ?_, fun h58 => ?_⟩
              · show wq _ _
                have f59 : (7 : Int32).toInt = 7 := by decide
                have g60 := tI_eq.mp h58
                refine wq_bcV (v_X2_pop hN U_u ) (fun r_23 u_22 U_u_22 G_u_22 p61 => ?_)
                have H_u_22 := H_u.call G_u_22 (show ∀ k ∈ [18], k ∈ [18, 25, 26, 27] by decide)
                have f62 := i32_b (l2)
                refine wq_bcV (v_X2_put hN U_u_22 ) (fun r63 u_26 U_u_26 G_u_26 p64 => ?_)
                have H_u_26 := H_u_22.call G_u_26 (show ∀ k ∈ [], k ∈ [18, 25, 26, 27] by decide)
                exact wq_some.mpr ⟨U_u_26, H_u_26, trivial⟩
              · show wq _ _
                have f65 : (7 : Int32).toInt = 7 := by decide
                have g66 := tI_ne h58
                refine wq_if.mpr ⟨fun h67 => ?_, fun h67 => ?_⟩
                · show wq _ _
                  have f68 : (8 : Int32).toInt = 8 := by decide
                  have g69 := tI_eq.mp h67
                  refine wq_bcV (v_X2_pop hN U_u ) (fun r_29 u_28 U_u_28 G_u_28 p70 => ?_)
                  have H_u_28 := H_u.call G_u_28 (show ∀ k ∈ [18], k ∈ [18, 25, 26, 27] by decide)
                  have f71 : (-2147483648 : Int) ≤ (cI u 19).toInt ∧ (cI u 19).toInt ≤ (2147483647 : Int) := U_u.i  19
                  have f72 := i32_b (l2)
                  have f73 := tI_ad (cI u 19) (l2)
                  have f74 := i32_b ((cI u 19) + l2)
                  refine wq_bcV (v_X2_put hN U_u_28 ) (fun r75 u_32 U_u_32 G_u_32 p76 => ?_)
                  have H_u_32 := H_u_28.call G_u_32 (show ∀ k ∈ [], k ∈ [18, 25, 26, 27] by decide)
                  exact wq_some.mpr ⟨U_u_32, H_u_32, trivial⟩
                · show wq _ _
                  have f77 : (8 : Int32).toInt = 8 := by decide
                  have g78 := tI_ne h67
                  refine wq_if.mpr ⟨fun h79 => ?_, fun h79 => ?_⟩
                  · show wq _ _
                    have f80 : (9 : Int32).toInt = 9 := by decide
                    have g81 := tI_eq.mp h79
                    refine wq_bcV (v_X2_pop hN U_u ) (fun r_35 u_34 U_u_34 G_u_34 p82 => ?_)
                    have H_u_34 := H_u.call G_u_34 (show ∀ k ∈ [18], k ∈ [18, 25, 26, 27] by decide)
                    have f83 := i32_b (l2)
                    have f84 := i32_b (l3)
                    refine wq_bcV (v_X1_set hN U_u_34 (show 0 ≤ (l3).toInt ∧ (l3).toInt ≤ 4 by omega)) (fun r85 u_36 U_u_36 G_u_36 p86 => ?_)
                    have H_u_36 := H_u_34.call G_u_36 (show ∀ k ∈ [], k ∈ [18, 25, 26, 27] by decide)
                    exact wq_some.mpr ⟨U_u_36, H_u_36, trivial⟩
                  · show wq _ _
                    have f87 : (9 : Int32).toInt = 9 := by decide
                    have g88 := tI_ne h79
                    refine wq_if.mpr ⟨fun h89 => ?_, fun h89 => ?_⟩
                    · show wq _ _
                      have f90 : (10 : Int32).toInt = 10 := by decide
                      have g91 := tI_eq.mp h89
                      have f92 := i32_b (l2)
                      have f93 := i32_b (l3)
                      have f94 := i32_b (l4)
                      refine wq_bcV (v_X2_address hN U_u ) (fun r95 u_38 U_u_38 G_u_38 p96 => ?_)
                      have H_u_38 := H_u.call G_u_38 (show ∀ k ∈ [18, 25, 26, 27], k ∈ [18, 25, 26, 27] by decide)
                      exact wq_some.mpr ⟨U_u_38, H_u_38, trivial⟩
                    · show wq _ _
                      have f97 : (10 : Int32).toInt = 10 := by decide
                      have g98 := tI_ne h89
                      refine wq_if.mpr ⟨fun h99 => ?_, fun h99 => ?_⟩
                      · show wq _ _
                        have f100 : (11 : Int32).toInt = 11 := by decide
                        have g101 := tI_eq.mp h99
                        have f102 : (-2147483648 : Int) ≤ (cI u 19).toInt ∧ (cI u 19).toInt ≤ (2147483647 : Int) := U_u.i  19
                        have f103 := i32_b (l2)
                        have f104 := tI_ad (cI u 19) (l2)
                        have f105 := i32_b ((cI u 19) + l2)
                        have f106 := i32_b (l3)
                        have f107 := i32_b (l4)
                        refine wq_bcV (v_X2_address hN U_u ) (fun r108 u_40 U_u_40 G_u_40 p109 => ?_)
                        have H_u_40 := H_u.call G_u_40 (show ∀ k ∈ [18, 25, 26, 27], k ∈ [18, 25, 26, 27] by decide)
                        exact wq_some.mpr ⟨U_u_40, H_u_40, trivial⟩
                      · show wq _ _
                        have f110 : (11 : Int32).toInt = 11 := by decide
                        have g111 := tI_ne h99
                        refine wq_if.mpr ⟨fun h112 => ?_, fun h112 => ?_⟩
                        · show wq _ _
                          have f113 : (12 : Int32).toInt = 12 := by decide
                          have g114 := tI_eq.mp h112
                          refine wq_bcV (v_X2_pop hN U_u ) (fun r_43 u_42 U_u_42 G_u_42 p115 => ?_)
                          have H_u_42 := H_u.call G_u_42 (show ∀ k ∈ [18], k ∈ [18, 25, 26, 27] by decide)
                          have f116 := i32_b (r_43.toInt32)
                          refine wq_bcR (v_X2_numberAt hN U_u_42 ) (fun r_45 p117 => ?_)
                          refine wq_bcV (v_X2_push hN U_u_42 ) (fun r118 u_46 U_u_46 G_u_46 p119 => ?_)
                          have H_u_46 := H_u_42.call G_u_46 (show ∀ k ∈ [18], k ∈ [18, 25, 26, 27] by decide)
                          exact wq_some.mpr ⟨U_u_46, H_u_46, trivial⟩
                        · show wq _ _
                          have f120 : (12 : Int32).toInt = 12 := by decide
                          have g121 := tI_ne h112
                          refine wq_if.mpr ⟨fun h122 => ?_, fun h122 => ?_⟩
                          · show wq _ _
                            have f123 : (13 : Int32).toInt = 13 := by decide
                            have g124 := tI_eq.mp h122
                            have f125 : (-2147483648 : Int) ≤ (cI u 18).toInt ∧ (cI u 18).toInt ≤ (2147483647 : Int) := U_u.i  18
                            have f126 := tI_sb (cI u 18) (1)
                            have f127 := i32_b ((cI u 18) - 1)
                            refine wq_bcR (v_X2_numberAt hN U_u ) (fun r_49 p128 => ?_)
                            have f129 := i32_b (r_49.toInt32)
                            refine wq_bcR (v_X2_numberAt hN U_u ) (fun r_51 p130 => ?_)
                            refine wq_bcV (v_X2_push hN U_u ) (fun r131 u_52 U_u_52 G_u_52 p132 => ?_)
                            have H_u_52 := H_u.call G_u_52 (show ∀ k ∈ [18], k ∈ [18, 25, 26, 27] by decide)
                            exact wq_some.mpr ⟨U_u_52, H_u_52, trivial⟩
                          · show wq _ _
                            have f133 : (13 : Int32).toInt = 13 := by decide
                            have g134 := tI_ne h122
                            refine wq_if.mpr ⟨fun h135 => ?_, fun h135 => ?_⟩
                            · show wq _ _
                              have f136 : (14 : Int32).toInt = 14 := by decide
                              have g137 := tI_eq.mp h135
                              have f138 : (-2147483648 : Int) ≤ (cI u 18).toInt ∧ (cI u 18).toInt ≤ (2147483647 : Int) := U_u.i  18
                              have f139 := tI_sb (cI u 18) (2)
                              have f140 := i32_b ((cI u 18) - 2)
                              refine wq_bcR (v_X2_numberAt hN U_u ) (fun r_55 p141 => ?_)
                              have f142 := i32_b (r_55.toInt32)
                              refine wq_bcR (v_X2_numberAt hN U_u ) (fun r_57 p143 => ?_)
                              refine wq_bcV (v_X2_push hN U_u ) (fun r144 u_58 U_u_58 G_u_58 p145 => ?_)
                              have H_u_58 := H_u.call G_u_58 (show ∀ k ∈ [18], k ∈ [18, 25, 26, 27] by decide)
                              exact wq_some.mpr ⟨U_u_58, H_u_58, trivial⟩
                            · show wq _ _
                              have f146 : (14 : Int32).toInt = 14 := by decide
                              have g147 := tI_ne h135
                              refine wq_if.mpr ⟨fun h148 => ?_, fun h148 => ?_⟩
                              · show wq _ _
                                have f149 : (15 : Int32).toInt = 15 := by decide
                                have g150 := tI_eq.mp h148
                                have f151 := i32_b (l3)
                                refine wq_bcV (v_X2_assign hN U_u ) (fun r152 u_60 U_u_60 G_u_60 p153 => ?_)
                                have H_u_60 := H_u.call G_u_60 (show ∀ k ∈ [18], k ∈ [18, 25, 26, 27] by decide)
                                exact wq_some.mpr ⟨U_u_60, H_u_60, trivial⟩
                              · show wq _ _
                                have f154 : (15 : Int32).toInt = 15 := by decide
                                have g155 := tI_ne h148
                                refine wq_if.mpr ⟨fun h156 => ?_, fun h156 => ?_⟩
                                · show wq _ _
                                  have f157 : (16 : Int32).toInt = 16 := by decide
                                  have g158 := tI_eq.mp h156
                                  refine wq_bcV (v_X2_pop hN U_u ) (fun r_63 u_62 U_u_62 G_u_62 p159 => ?_)
                                  have H_u_62 := H_u.call G_u_62 (show ∀ k ∈ [18], k ∈ [18, 25, 26, 27] by decide)
                                  exact wq_some.mpr ⟨U_u_62, H_u_62, trivial⟩
                                · show wq _ _
                                  have f160 : (16 : Int32).toInt = 16 := by decide
                                  have g161 := tI_ne h156
                                  exact wq_some.mpr ⟨U_u, H_u, trivial⟩
set_option maxHeartbeats 4000000 in
theorem v_X2_reckon {N : Nat} {u : CSt} (hN : 5000000000 ≤ N) (U_u : UC u) {l1 : Int32} {l2 : Int32} {l3 : Int32} {l4 : Int32} : wq (F_X2_reckon N l1 l2 l3 l4 u) (VP [18, 25, 26, 27] (fun (r : Int32) (w : CSt) => True) u) := by
  have H_u : FR [18, 25, 26, 27] u u := FR.rf
  unfold F_X2_reckon
  unfold B_X2_reckon_0
  refine wq_bcV (v_X2_pop hN U_u ) (fun r_17 u_16 U_u_16 G_u_16 p1 => ?_)
  have H_u_16 := H_u.call G_u_16 (show ∀ k ∈ [18], k ∈ [18, 25, 26, 27] by decide)
  refine wq_if.mpr ⟨fun h2 => ?_, fun h2 => ?_⟩
  · show wq _ _
    have f3 := i32_b (l1)
    have f4 : (20 : Int32).toInt = 20 := by decide
    have g5 := tI_eq.mp h2
    refine wq_bcV (v_X2_push hN U_u_16 ) (fun r6 u_19 U_u_19 G_u_19 p7 => ?_)
    have H_u_19 := H_u_16.call G_u_19 (show ∀ k ∈ [18], k ∈ [18, 25, 26, 27] by decide)
    exact wq_some.mpr ⟨U_u_19, H_u_19, trivial⟩
  · show wq _ _
    have f8 := i32_b (l1)
    have f9 : (20 : Int32).toInt = 20 := by decide
    have g10 := tI_ne h2
    refine wq_if.mpr ⟨fun h11 => ?_, fun h11 => ?_⟩
    · show wq _ _
      have f12 : (21 : Int32).toInt = 21 := by decide
      have g13 := tI_eq.mp h11
      refine wq_bcV (v_X2_pop hN U_u_16 ) (fun r_22 u_21 U_u_21 G_u_21 p14 => ?_)
      have H_u_21 := H_u_16.call G_u_21 (show ∀ k ∈ [18], k ∈ [18, 25, 26, 27] by decide)
      refine wq_bcV (v_X2_push hN U_u_21 ) (fun r15 u_23 U_u_23 G_u_23 p16 => ?_)
      have H_u_23 := H_u_21.call G_u_23 (show ∀ k ∈ [18], k ∈ [18, 25, 26, 27] by decide)
      exact wq_some.mpr ⟨U_u_23, H_u_23, trivial⟩
    · show wq _ _
      have f17 : (21 : Int32).toInt = 21 := by decide
      have g18 := tI_ne h11
      refine wq_if.mpr ⟨fun h19 => ?_, fun h19 => ?_⟩
      · show wq _ _
        have f20 : (23 : Int32).toInt = 23 := by decide
        have g21 := tI_eq.mp h19
        refine wq_if.mpr ⟨fun h22 => ?_, fun h22 => ?_⟩
        · show wq _ _
          have f23 := i32_b (l3)
          have f24 : (0 : Int32).toInt = 0 := by decide
          have g25 := tI_eq.mp h22
          unfold B_X2_reckon_98
          refine wq_bcV (v_X2_pop hN U_u_16 ) (fun r_2 u_1 U_u_1 G_u_1 p26 => ?_)
          have H_u_1 := H_u_16.call G_u_1 (show ∀ k ∈ [18], k ∈ [18, 25, 26, 27] by decide)
          refine wq_bcV (v_X2_push hN U_u_1 ) (fun r27 u_5 U_u_5 G_u_5 p28 => ?_)
          have H_u_5 := H_u_1.call G_u_5 (show ∀ k ∈ [18], k ∈ [18, 25, 26, 27] by decide)
          exact wq_some.mpr ⟨U_u_5, H_u_5, trivial⟩
        · show wq _ _
          have f29 := i32_b (l3)
          have f30 : (0 : Int32).toInt = 0 := by decide
          have g31 := tI_ne h22
          unfold B_X2_reckon_98
          refine wq_bcV (v_X2_pop hN U_u_16 ) (fun r_2 u_1 U_u_1 G_u_1 p32 => ?_)
          have H_u_1 := H_u_16.call G_u_1 (show ∀ k ∈ [18], k ∈ [18, 25, 26, 27] by decide)
          refine wq_bcV (v_X2_push hN U_u_1 ) (fun r33 u_5 U_u_5 G_u_5 p34 => ?_)
          have H_u_5 := H_u_1.call G_u_5 (show ∀ k ∈ [18], k ∈ [18, 25, 26, 27] by decide)
          exact wq_some.mpr ⟨U_u_5, H_u_5, trivial⟩
      · show wq _ _
        have f35 : (23 : Int32).toInt = 23 := by decide
        have g36 := tI_ne h19
        refine wq_if.mpr ⟨fun h37 => ?_, fun h37 => ?_⟩
        · show wq _ _
          have f38 : (24 : Int32).toInt = 24 := by decide
          have g39 := tI_eq.mp h37
          refine wq_if.mpr ⟨fun h40 => ?_, fun h40 => ?_⟩
          · show wq _ _
            have f41 := i32_b (l3)
            have f42 : (0 : Int32).toInt = 0 := by decide
            have g43 := tI_eq.mp h40
            unfold B_X2_reckon_124
            refine wq_bcV (v_X2_push hN U_u_16 ) (fun r44 u_8 U_u_8 G_u_8 p45 => ?_)
            have H_u_8 := H_u_16.call G_u_8 (show ∀ k ∈ [18], k ∈ [18, 25, 26, 27] by decide)
            exact wq_some.mpr ⟨U_u_8, H_u_8, trivial⟩
          · show wq _ _
            have f46 := i32_b (l3)
            have f47 : (0 : Int32).toInt = 0 := by decide
            have g48 := tI_ne h40
            unfold B_X2_reckon_124
            refine wq_bcV (v_X2_push hN U_u_16 ) (fun r49 u_8 U_u_8 G_u_8 p50 => ?_)
            have H_u_8 := H_u_16.call G_u_8 (show ∀ k ∈ [18], k ∈ [18, 25, 26, 27] by decide)
            exact wq_some.mpr ⟨U_u_8, H_u_8, trivial⟩
        · show wq _ _
          have f51 : (24 : Int32).toInt = 24 := by decide
          have g52 := tI_ne h37
          refine wq_if.mpr ⟨fun h53 => ?_, fun h53 => ?_⟩
          · show wq _ _
            have f54 : (25 : Int32).toInt = 25 := by decide
            have g55 := tI_eq.mp h53
            refine wq_bcV (v_X2_push hN U_u_16 ) (fun r56 u_31 U_u_31 G_u_31 p57 => ?_)
            have H_u_31 := H_u_16.call G_u_31 (show ∀ k ∈ [18], k ∈ [18, 25, 26, 27] by decide)
            exact wq_some.mpr ⟨U_u_31, H_u_31, trivial⟩
          · show wq _ _
            have f58 : (25 : Int32).toInt = 25 := by decide
            have g59 := tI_ne h53
            refine wq_if.mpr ⟨fun h60 => ?_, fun h60 => ?_⟩
            · show wq _ _
              have f61 : (26 : Int32).toInt = 26 := by decide
              have g62 := tI_eq.mp h60
              refine wq_if.mpr ⟨fun h63 => ?_, fun h63 => ?_⟩
              · show wq _ _
                unfold B_X2_reckon_162
                refine wq_bcV (v_X2_push hN U_u_16 ) (fun r64 u_9 U_u_9 G_u_9 p65 => ?_)
                have H_u_9 := H_u_16.call G_u_9 (show ∀ k ∈ [18], k ∈ [18, 25, 26, 27] by decide)
                exact wq_some.mpr ⟨U_u_9, H_u_9, trivial⟩
              · show wq _ _
                unfold B_X2_reckon_162
                refine wq_bcV (v_X2_push hN U_u_16 ) (fun r66 u_9 U_u_9 G_u_9 p67 => ?_)
                have H_u_9 := H_u_16.call G_u_9 (show ∀ k ∈ [18], k ∈ [18, 25, 26, 27] by decide)
                exact wq_some.mpr ⟨U_u_9, H_u_9, trivial⟩
            · show wq _ _
              have f68 : (26 : Int32).toInt = 26 := by decide
              have g69 := tI_ne h60
              refine wq_if.mpr ⟨fun h70 => ?_, fun h70 => ?_⟩
              · show wq _ _
                refine wq_if.mpr ⟨fun h71 => ?_, fun h71 => ?_⟩
                · show wq _ _
                  have f72 := i32_b ((n_divides l2))
                  have f73 : (0 : Int32).toInt = 0 := by decide
                  have g74 := tI_eq.mp h71
                  unfold B_X2_reckon_192
                  refine wq_if.mpr ⟨fun h75 => ?_, fun h75 => ?_⟩
                  · show wq _ _
                    have f76 := i32_b (l3)
                    have g77 := tI_eq.mp h75
                    unfold B_X2_reckon_203
                    refine wq_bcV (v_X2_pop hN U_u_16 ) (fun r_11 u_10 U_u_10 G_u_10 p78 => ?_)
                    have H_u_10 := H_u_16.call G_u_10 (show ∀ k ∈ [18], k ∈ [18, 25, 26, 27] by decide)
                    refine wq_bcV (v_X2_push hN U_u_10 ) (fun r79 u_14 U_u_14 G_u_14 p80 => ?_)
                    have H_u_14 := H_u_10.call G_u_14 (show ∀ k ∈ [18], k ∈ [18, 25, 26, 27] by decide)
                    exact wq_some.mpr ⟨U_u_14, H_u_14, trivial⟩
                  · show wq _ _
                    have f81 := i32_b (l3)
                    have g82 := tI_ne h75
                    unfold B_X2_reckon_203
                    refine wq_bcV (v_X2_pop hN U_u_16 ) (fun r_11 u_10 U_u_10 G_u_10 p83 => ?_)
                    have H_u_10 := H_u_16.call G_u_10 (show ∀ k ∈ [18], k ∈ [18, 25, 26, 27] by decide)
                    refine wq_bcV (v_X2_push hN U_u_10 ) (fun r84 u_14 U_u_14 G_u_14 p85 => ?_)
                    have H_u_14 := H_u_10.call G_u_14 (show ∀ k ∈ [18], k ∈ [18, 25, 26, 27] by decide)
                    exact wq_some.mpr ⟨U_u_14, H_u_14, trivial⟩
                · show wq _ _
                  have f86 := i32_b ((n_divides l2))
                  have f87 : (0 : Int32).toInt = 0 := by decide
                  have g88 := tI_ne h71
                  have f89 : (1 : Int32).toInt = 1 := by decide
                  have f90 := i32_b (l4)
                  refine wq_bcV (v_X2_stop hN U_u_16 ) (fun r91 u_38 U_u_38 G_u_38 p92 => ?_)
                  have H_u_38 := H_u_16.call G_u_38 (show ∀ k ∈ [25, 26, 27], k ∈ [18, 25, 26, 27] by decide)
                  exact wq_some.mpr ⟨U_u_38, H_u_38, trivial⟩
              · show wq _ _
                unfold B_X2_reckon_192
                refine wq_if.mpr ⟨fun h93 => ?_, fun h93 => ?_⟩
                · show wq _ _
                  have f94 := i32_b (l3)
                  have f95 : (0 : Int32).toInt = 0 := by decide
                  have g96 := tI_eq.mp h93
                  unfold B_X2_reckon_203
                  refine wq_bcV (v_X2_pop hN U_u_16 ) (fun r_11 u_10 U_u_10 G_u_10 p97 => ?_)
                  have H_u_10 := H_u_16.call G_u_10 (show ∀ k ∈ [18], k ∈ [18, 25, 26, 27] by decide)
                  refine wq_bcV (v_X2_push hN U_u_10 ) (fun r98 u_14 U_u_14 G_u_14 p99 => ?_)
                  have H_u_14 := H_u_10.call G_u_14 (show ∀ k ∈ [18], k ∈ [18, 25, 26, 27] by decide)
                  exact wq_some.mpr ⟨U_u_14, H_u_14, trivial⟩
                · show wq _ _
                  have f100 := i32_b (l3)
                  have f101 : (0 : Int32).toInt = 0 := by decide
                  have g102 := tI_ne h93
                  unfold B_X2_reckon_203
                  refine wq_bcV (v_X2_pop hN U_u_16 ) (fun r_11 u_10 U_u_10 G_u_10 p103 => ?_)
                  have H_u_10 := H_u_16.call G_u_10 (show ∀ k ∈ [18], k ∈ [18, 25, 26, 27] by decide)
                  refine wq_bcV (v_X2_push hN U_u_10 ) (fun r104 u_14 U_u_14 G_u_14 p105 => ?_)
                  have H_u_14 := H_u_10.call G_u_14 (show ∀ k ∈ [18], k ∈ [18, 25, 26, 27] by decide)
                  exact wq_some.mpr ⟨U_u_14, H_u_14, trivial⟩
set_option maxHeartbeats 4000000 in
theorem v_X2_decide {N : Nat} {u : CSt} (hN : 5000000000 ≤ N) (U_u : UC u) {l1 : Int32} {l2 : Int32} : wq (F_X2_decide N l1 l2 u) (VP [18, 20] (fun (r : Int32) (w : CSt) => True) u) := by
  have H_u : FR [18, 20] u u := FR.rf
  unfold F_X2_decide
  unfold B_X2_decide_0
  refine wq_bcV (v_X2_pop hN U_u ) (fun r_6 u_5 U_u_5 G_u_5 p1 => ?_)
  have H_u_5 := H_u.call G_u_5 (show ∀ k ∈ [18], k ∈ [18, 20] by decide)
  refine wq_if.mpr ⟨fun h2 => ?_, fun h2 => ?_⟩
  · show wq _ _
    unfold B_X2_decide_14
    refine wq_if.mpr ⟨fun h3 => ?_, fun h3 => ?_⟩
    · show wq _ _
      have f4 : (0 : Int32).toInt = 0 := by decide
      have f5 := i32_b (l1)
      have g6 := tI_eq.mp h3
      refine wq_if.mpr ⟨fun h7 => ?_, fun h7 => ?_⟩
      · show wq _ _
        have g8 := tI_eq.mp h7
        unfold B_X2_decide_28
        refine wq_bcV (v_X2_push hN U_u_5 ) (fun r9 u_1 U_u_1 G_u_1 p10 => ?_)
        have H_u_1 := H_u_5.call G_u_1 (show ∀ k ∈ [18], k ∈ [18, 20] by decide)
        refine wq_pc.mpr ?_
        have f11 := i32_b (l2)
        have U_u_2 : UC (xI u_1 20 l2) := U_u_1.xI (k := 20) (show (-2147483648 : Int) ≤ (l2).toInt by omega) (show (l2).toInt ≤ (2147483647 : Int) by omega)
        have H_u_2 : FR [18, 20] u (xI u_1 20 l2) := H_u_1.xI (by decide)
        generalize e_u_2 : xI u_1 20 l2 = u_2 at U_u_2 H_u_2 ⊢
        exact wq_some.mpr ⟨U_u_2, H_u_2, trivial⟩
      · show wq _ _
        have g12 := tI_ne h7
        unfold B_X2_decide_28
        refine wq_bcV (v_X2_push hN U_u_5 ) (fun r13 u_1 U_u_1 G_u_1 p14 => ?_)
        have H_u_1 := H_u_5.call G_u_1 (show ∀ k ∈ [18], k ∈ [18, 20] by decide)
        refine wq_pc.mpr ?_
        have f15 := i32_b (l2)
        have U_u_2 : UC (xI u_1 20 l2) := U_u_1.xI (k := 20) (show (-2147483648 : Int) ≤ (l2).toInt by omega) (show (l2).toInt ≤ (2147483647 : Int) by omega)
        have H_u_2 : FR [18, 20] u (xI u_1 20 l2) := H_u_1.xI (by decide)
        generalize e_u_2 : xI u_1 20 l2 = u_2 at U_u_2 H_u_2 ⊢
        exact wq_some.mpr ⟨U_u_2, H_u_2, trivial⟩
    · show wq _ _
      have f16 : (0 : Int32).toInt = 0 := by decide
      have f17 := i32_b (l1)
      have g18 := tI_ne h3
      exact wq_some.mpr ⟨U_u_5, H_u_5, trivial⟩
  · show wq _ _
    unfold B_X2_decide_14
    refine wq_if.mpr ⟨fun h19 => ?_, fun h19 => ?_⟩
    · show wq _ _
      have f20 : (1 : Int32).toInt = 1 := by decide
      have f21 := i32_b (l1)
      have g22 := tI_eq.mp h19
      refine wq_if.mpr ⟨fun h23 => ?_, fun h23 => ?_⟩
      · show wq _ _
        have f24 : (0 : Int32).toInt = 0 := by decide
        have g25 := tI_eq.mp h23
        unfold B_X2_decide_28
        refine wq_bcV (v_X2_push hN U_u_5 ) (fun r26 u_1 U_u_1 G_u_1 p27 => ?_)
        have H_u_1 := H_u_5.call G_u_1 (show ∀ k ∈ [18], k ∈ [18, 20] by decide)
        refine wq_pc.mpr ?_
        have f28 := i32_b (l2)
        have U_u_2 : UC (xI u_1 20 l2) := U_u_1.xI (k := 20) (show (-2147483648 : Int) ≤ (l2).toInt by omega) (show (l2).toInt ≤ (2147483647 : Int) by omega)
        have H_u_2 : FR [18, 20] u (xI u_1 20 l2) := H_u_1.xI (by decide)
        generalize e_u_2 : xI u_1 20 l2 = u_2 at U_u_2 H_u_2 ⊢
        exact wq_some.mpr ⟨U_u_2, H_u_2, trivial⟩
      · show wq _ _
        have f29 : (0 : Int32).toInt = 0 := by decide
        have g30 := tI_ne h23
        unfold B_X2_decide_28
        refine wq_bcV (v_X2_push hN U_u_5 ) (fun r31 u_1 U_u_1 G_u_1 p32 => ?_)
        have H_u_1 := H_u_5.call G_u_1 (show ∀ k ∈ [18], k ∈ [18, 20] by decide)
        refine wq_pc.mpr ?_
        have f33 := i32_b (l2)
        have U_u_2 : UC (xI u_1 20 l2) := U_u_1.xI (k := 20) (show (-2147483648 : Int) ≤ (l2).toInt by omega) (show (l2).toInt ≤ (2147483647 : Int) by omega)
        have H_u_2 : FR [18, 20] u (xI u_1 20 l2) := H_u_1.xI (by decide)
        generalize e_u_2 : xI u_1 20 l2 = u_2 at U_u_2 H_u_2 ⊢
        exact wq_some.mpr ⟨U_u_2, H_u_2, trivial⟩
    · show wq _ _
      have f34 : (1 : Int32).toInt = 1 := by decide
      have f35 := i32_b (l1)
      have g36 := tI_ne h19
      exact wq_some.mpr ⟨U_u_5, H_u_5, trivial⟩
set_option maxHeartbeats 4000000 in
theorem v_X2_turn {N : Nat} {u : CSt} (hN : 5000000000 ≤ N) (U_u : UC u) {l1 : Int32} {l2 : Int32} {l3 : Int32} : wq (F_X2_turn N l1 l2 l3 u) (VP [18, 20] (fun (r : Int32) (w : CSt) => True) u) := by
  have H_u : FR [18, 20] u u := FR.rf
  unfold F_X2_turn
  unfold B_X2_turn_0
  refine wq_if.mpr ⟨fun h1 => ?_, fun h1 => ?_⟩
  · show wq _ _
    have f2 := i32_b (l1)
    have f3 : (30 : Int32).toInt = 30 := by decide
    have g4 := tI_eq.mp h1
    refine wq_pc.mpr ?_
    have f5 := i32_b (l2)
    have U_u_5 : UC (xI u 20 l2) := U_u.xI (k := 20) (show (-2147483648 : Int) ≤ (l2).toInt by omega) (show (l2).toInt ≤ (2147483647 : Int) by omega)
    have H_u_5 : FR [18, 20] u (xI u 20 l2) := H_u.xI (by decide)
    generalize e_u_5 : xI u 20 l2 = u_5 at U_u_5 H_u_5 ⊢
    exact wq_some.mpr ⟨U_u_5, H_u_5, trivial⟩
  · show wq _ _
    have f6 := i32_b (l1)
    have f7 : (30 : Int32).toInt = 30 := by decide
    have g8 := tI_ne h1
    refine wq_if.mpr ⟨fun h9 => ?_, fun h9 => ?_⟩
    · show wq _ _
      have f10 : (31 : Int32).toInt = 31 := by decide
      have g11 := tI_eq.mp h9
      refine wq_bcV (v_X2_pop hN U_u ) (fun r_8 u_7 U_u_7 G_u_7 p12 => ?_)
      have H_u_7 := H_u.call G_u_7 (show ∀ k ∈ [18], k ∈ [18, 20] by decide)
      refine wq_if.mpr ⟨fun h13 => ?_, fun h13 => ?_⟩
      · show wq _ _
        unfold B_X2_turn_66
        refine wq_pc.mpr ?_
        have f14 := i32_b (l2)
        have U_u_1 : UC (xI u_7 20 l2) := U_u_7.xI (k := 20) (show (-2147483648 : Int) ≤ (l2).toInt by omega) (show (l2).toInt ≤ (2147483647 : Int) by omega)
        have H_u_1 : FR [18, 20] u (xI u_7 20 l2) := H_u_7.xI (by decide)
        generalize e_u_1 : xI u_7 20 l2 = u_1 at U_u_1 H_u_1 ⊢
        exact wq_some.mpr ⟨U_u_1, H_u_1, trivial⟩
      · show wq _ _
        unfold B_X2_turn_66
        refine wq_pc.mpr ?_
        have f15 : (-2147483648 : Int) ≤ (cI u_7 20).toInt ∧ (cI u_7 20).toInt ≤ (2147483647 : Int) := U_u_7.i  20
        have f16 : (cI u_7 20).toInt = (cI u 20).toInt := by rw [show cI u_7 20 = cI u 20 from G_u_7.1 20 (by decide)]
        have f17 : (-2147483648 : Int) ≤ (cI u 20).toInt ∧ (cI u 20).toInt ≤ (2147483647 : Int) := U_u.i  20
        have U_u_1 : UC (xI u_7 20 (cI u_7 20)) := U_u_7.xI (k := 20) (show (-2147483648 : Int) ≤ ((cI u_7 20)).toInt by omega) (show ((cI u_7 20)).toInt ≤ (2147483647 : Int) by omega)
        have H_u_1 : FR [18, 20] u (xI u_7 20 (cI u_7 20)) := H_u_7.xI (by decide)
        generalize e_u_1 : xI u_7 20 (cI u_7 20) = u_1 at U_u_1 H_u_1 ⊢
        exact wq_some.mpr ⟨U_u_1, H_u_1, trivial⟩
    · show wq _ _
      have f18 : (31 : Int32).toInt = 31 := by decide
      have g19 := tI_ne h9
      refine wq_if.mpr ⟨fun h20 => ?_, fun h20 => ?_⟩
      · show wq _ _
        have f21 : (32 : Int32).toInt = 32 := by decide
        have g22 := tI_eq.mp h20
        have f23 : (0 : Int32).toInt = 0 := by decide
        have f24 := i32_b (l2)
        refine wq_bcV (v_X2_decide hN U_u ) (fun r25 u_11 U_u_11 G_u_11 p26 => ?_)
        have H_u_11 := H_u.call G_u_11 (show ∀ k ∈ [18, 20], k ∈ [18, 20] by decide)
        exact wq_some.mpr ⟨U_u_11, H_u_11, trivial⟩
      · show wq _ _
        have f27 : (32 : Int32).toInt = 32 := by decide
        have g28 := tI_ne h20
        refine wq_if.mpr ⟨fun h29 => ?_, fun h29 => ?_⟩
        · show wq _ _
          have f30 : (33 : Int32).toInt = 33 := by decide
          have g31 := tI_eq.mp h29
          have f32 : (1 : Int32).toInt = 1 := by decide
          have f33 := i32_b (l2)
          refine wq_bcV (v_X2_decide hN U_u ) (fun r34 u_13 U_u_13 G_u_13 p35 => ?_)
          have H_u_13 := H_u.call G_u_13 (show ∀ k ∈ [18, 20], k ∈ [18, 20] by decide)
          exact wq_some.mpr ⟨U_u_13, H_u_13, trivial⟩
        · show wq _ _
          have f36 : (33 : Int32).toInt = 33 := by decide
          have g37 := tI_ne h29
          refine wq_if.mpr ⟨fun h38 => ?_, fun h38 => ?_⟩
          · show wq _ _
            have f39 : (34 : Int32).toInt = 34 := by decide
            have g40 := tI_eq.mp h38
            refine wq_bcV (v_X2_pop hN U_u ) (fun r_16 u_15 U_u_15 G_u_15 p41 => ?_)
            have H_u_15 := H_u.call G_u_15 (show ∀ k ∈ [18], k ∈ [18, 20] by decide)
            have f42 : (-2147483648 : Int) ≤ (cI u_15 18).toInt ∧ (cI u_15 18).toInt ≤ (2147483647 : Int) := U_u_15.i  18
            have f43 : (1 : Int32).toInt = 1 := by decide
            have f44 := tI_sb (cI u_15 18) (1)
            have f45 := i32_b ((cI u_15 18) - 1)
            refine wq_bcR (v_X2_numberAt hN U_u_15 ) (fun r_18 p46 => ?_)
            refine wq_if.mpr ⟨fun h47 => ?_, fun h47 => ?_⟩
            · show wq _ _
              unfold B_X2_turn_117
              refine wq_pc.mpr ?_
              have f48 : (-2147483648 : Int) ≤ (cI u_15 20).toInt ∧ (cI u_15 20).toInt ≤ (2147483647 : Int) := U_u_15.i  20
              have f49 : (cI u_15 20).toInt = (cI u 20).toInt := by rw [show cI u_15 20 = cI u 20 from G_u_15.1 20 (by decide)]
              have f50 : (-2147483648 : Int) ≤ (cI u 20).toInt ∧ (cI u 20).toInt ≤ (2147483647 : Int) := U_u.i  20
              have U_u_2 : UC (xI u_15 20 (cI u_15 20)) := U_u_15.xI (k := 20) (show (-2147483648 : Int) ≤ ((cI u_15 20)).toInt by omega) (show ((cI u_15 20)).toInt ≤ (2147483647 : Int) by omega)
              have H_u_2 : FR [18, 20] u (xI u_15 20 (cI u_15 20)) := H_u_15.xI (by decide)
              generalize e_u_2 : xI u_15 20 (cI u_15 20) = u_2 at U_u_2 H_u_2 ⊢
              exact wq_some.mpr ⟨U_u_2, H_u_2, trivial⟩
            · show wq _ _
              unfold B_X2_turn_117
              refine wq_pc.mpr ?_
              have f51 := i32_b (l2)
              have U_u_2 : UC (xI u_15 20 l2) := U_u_15.xI (k := 20) (show (-2147483648 : Int) ≤ (l2).toInt by omega) (show (l2).toInt ≤ (2147483647 : Int) by omega)
              have H_u_2 : FR [18, 20] u (xI u_15 20 l2) := H_u_15.xI (by decide)
              generalize e_u_2 : xI u_15 20 l2 = u_2 at U_u_2 H_u_2 ⊢
              exact wq_some.mpr ⟨U_u_2, H_u_2, trivial⟩
          · show wq _ _
            have f52 : (34 : Int32).toInt = 34 := by decide
            have g53 := tI_ne h38
            refine wq_if.mpr ⟨fun h54 => ?_, fun h54 => ?_⟩
            · show wq _ _
              have f55 : (35 : Int32).toInt = 35 := by decide
              have g56 := tI_eq.mp h54
              refine wq_bcV (v_X2_pop hN U_u ) (fun r_22 u_21 U_u_21 G_u_21 p57 => ?_)
              have H_u_21 := H_u.call G_u_21 (show ∀ k ∈ [18], k ∈ [18, 20] by decide)
              have f58 : (-2147483648 : Int) ≤ (cI u_21 18).toInt ∧ (cI u_21 18).toInt ≤ (2147483647 : Int) := U_u_21.i  18
              have f59 : (1 : Int32).toInt = 1 := by decide
              have f60 := tI_sb (cI u_21 18) (1)
              have f61 := i32_b ((cI u_21 18) - 1)
              refine wq_bcR (v_X2_numberAt hN U_u_21 ) (fun r_24 p62 => ?_)
              refine wq_if.mpr ⟨fun h63 => ?_, fun h63 => ?_⟩
              · show wq _ _
                unfold B_X2_turn_150
                refine wq_pc.mpr ?_
                have f64 := i32_b (l2)
                have U_u_3 : UC (xI u_21 20 l2) := U_u_21.xI (k := 20) (show (-2147483648 : Int) ≤ (l2).toInt by omega) (show (l2).toInt ≤ (2147483647 : Int) by omega)
                have H_u_3 : FR [18, 20] u (xI u_21 20 l2) := H_u_21.xI (by decide)
                generalize e_u_3 : xI u_21 20 l2 = u_3 at U_u_3 H_u_3 ⊢
                exact wq_some.mpr ⟨U_u_3, H_u_3, trivial⟩
              · show wq _ _
                unfold B_X2_turn_150
                refine wq_pc.mpr ?_
                have f65 : (-2147483648 : Int) ≤ (cI u_21 20).toInt ∧ (cI u_21 20).toInt ≤ (2147483647 : Int) := U_u_21.i  20
                have f66 : (cI u_21 20).toInt = (cI u 20).toInt := by rw [show cI u_21 20 = cI u 20 from G_u_21.1 20 (by decide)]
                have f67 : (-2147483648 : Int) ≤ (cI u 20).toInt ∧ (cI u 20).toInt ≤ (2147483647 : Int) := U_u.i  20
                have U_u_3 : UC (xI u_21 20 (cI u_21 20)) := U_u_21.xI (k := 20) (show (-2147483648 : Int) ≤ ((cI u_21 20)).toInt by omega) (show ((cI u_21 20)).toInt ≤ (2147483647 : Int) by omega)
                have H_u_3 : FR [18, 20] u (xI u_21 20 (cI u_21 20)) := H_u_21.xI (by decide)
                generalize e_u_3 : xI u_21 20 (cI u_21 20) = u_3 at U_u_3 H_u_3 ⊢
                exact wq_some.mpr ⟨U_u_3, H_u_3, trivial⟩
            · show wq _ _
              have f68 : (35 : Int32).toInt = 35 := by decide
              have g69 := tI_ne h54
              have f70 : cR u 4 < 2 := U_u.r 4
              refine wq_ok.mpr ⟨by first | assumption | omega, ?_⟩
              have f71 : (-2147483648 : Int) ≤ (cI u 18).toInt ∧ (cI u 18).toInt ≤ (2147483647 : Int) := U_u.i  18
              have f72 : (1 : Int32).toInt = 1 := by decide
              have f73 := tI_sb (cI u 18) (1)
              have f74 := i32_b ((cI u 18) - 1)
              refine wq_bcR (v_X2_numberAt hN U_u ) (fun r_28 p75 => ?_)
              have f76 := i32_b (l2)
              have f77 := i32_b (l3)
              refine wq_bcR (v_X6_liesIn hN U_u ) (fun r_30 p78 => ?_)
              refine wq_if.mpr ⟨fun h79 => ?_, fun h79 => ?_⟩
              · show wq _ _
                have f80 := i32_b (r_30)
                have f81 : (0 : Int32).toInt = 0 := by decide
                have g82 := tI_eq.mp h79
                refine wq_pc.mpr ?_
                have f83 : (-2147483648 : Int) ≤ (cI u 20).toInt ∧ (cI u 20).toInt ≤ (2147483647 : Int) := U_u.i  20
                have f84 := tI_ad (cI u 20) (0)
                have f85 := i32_b ((cI u 20) + 0)
                have U_u_32 : UC (xI u 20 ((cI u 20) + 0)) := U_u.xI (k := 20) (show (-2147483648 : Int) ≤ ((cI u 20) + 0).toInt by omega) (show ((cI u 20) + 0).toInt ≤ (2147483647 : Int) by omega)
                have H_u_32 : FR [18, 20] u (xI u 20 ((cI u 20) + 0)) := H_u.xI (by decide)
                generalize e_u_32 : xI u 20 ((cI u 20) + 0) = u_32 at U_u_32 H_u_32 ⊢
                exact wq_some.mpr ⟨U_u_32, H_u_32, trivial⟩
              · show wq _ _
                have f86 := i32_b (r_30)
                have f87 : (0 : Int32).toInt = 0 := by decide
                have g88 := tI_ne h79
                refine wq_pc.mpr ?_
                have f89 : (-2147483648 : Int) ≤ (cI u 20).toInt ∧ (cI u 20).toInt ≤ (2147483647 : Int) := U_u.i  20
                have f90 := tI_ad (cI u 20) (1)
                have f91 := i32_b ((cI u 20) + 1)
                have U_u_33 : UC (xI u 20 ((cI u 20) + 1)) := U_u.xI (k := 20) (show (-2147483648 : Int) ≤ ((cI u 20) + 1).toInt by omega) (show ((cI u 20) + 1).toInt ≤ (2147483647 : Int) by omega)
                have H_u_33 : FR [18, 20] u (xI u 20 ((cI u 20) + 1)) := H_u.xI (by decide)
                generalize e_u_33 : xI u 20 ((cI u 20) + 1) = u_33 at U_u_33 H_u_33 ⊢
                exact wq_some.mpr ⟨U_u_33, H_u_33, trivial⟩
set_option maxHeartbeats 4000000 in
theorem v_X2_remember {N : Nat} {u : CSt} (hN : 5000000000 ≤ N) (U_u : UC u) {l1 : Int32} (h_0 : (cI u 21).toInt < 8) : wq (F_X2_remember N l1 u) (VP [21] (fun (r : Int32) (w : CSt) => True) u) := by
  have H_u : FR [21] u u := FR.rf
  unfold F_X2_remember
  unfold B_X2_remember_0
  have f1 : (0 : Int) ≤ (cI u 21).toInt ∧ (cI u 21).toInt ≤ (8 : Int) := U_u.i  21
  have x2 : vp_in (cI u 21) 8 := vin_iff.mpr ⟨by omega, by omega⟩
  refine wq_wc.mpr ⟨x2, ?_⟩
  have U_u_2 : UC (xA u 237 ((cI u 21).toNatClampNeg) (cI u 20)) := U_u.xA
  have H_u_2 : FR [21] u (xA u 237 ((cI u 21).toNatClampNeg) (cI u 20)) := H_u.xA (by exact Or.inl (by decide))
  generalize e_u_2 : xA u 237 ((cI u 21).toNatClampNeg) (cI u 20) = u_2 at U_u_2 H_u_2 ⊢
  have f3 : (0 : Int) ≤ (cI u_2 21).toInt ∧ (cI u_2 21).toInt ≤ (8 : Int) := U_u_2.i  21
  have f4 : (cI u_2 21).toInt = (cI u 21).toInt := by rw [← e_u_2]; rfl
  have x5 : vp_in (cI u_2 21) 8 := vin_iff.mpr ⟨by omega, by omega⟩
  refine wq_wc.mpr ⟨x5, ?_⟩
  have U_u_4 : UC (xA u_2 238 ((cI u_2 21).toNatClampNeg) (cI u_2 19)) := U_u_2.xA
  have H_u_4 : FR [21] u (xA u_2 238 ((cI u_2 21).toNatClampNeg) (cI u_2 19)) := H_u_2.xA (by exact Or.inl (by decide))
  generalize e_u_4 : xA u_2 238 ((cI u_2 21).toNatClampNeg) (cI u_2 19) = u_4 at U_u_4 H_u_4 ⊢
  have f6 : (0 : Int) ≤ (cI u_4 21).toInt ∧ (cI u_4 21).toInt ≤ (8 : Int) := U_u_4.i  21
  have f7 : (cI u_4 21).toInt = (cI u_2 21).toInt := by rw [← e_u_4]; rfl
  have x8 : vp_in (cI u_4 21) 8 := vin_iff.mpr ⟨by omega, by omega⟩
  refine wq_wc.mpr ⟨x8, ?_⟩
  have U_u_6 : UC (xA u_4 239 ((cI u_4 21).toNatClampNeg) l1) := U_u_4.xA
  have H_u_6 : FR [21] u (xA u_4 239 ((cI u_4 21).toNatClampNeg) l1) := H_u_4.xA (by exact Or.inl (by decide))
  generalize e_u_6 : xA u_4 239 ((cI u_4 21).toNatClampNeg) l1 = u_6 at U_u_6 H_u_6 ⊢
  refine wq_pc.mpr ?_
  have f9 : (0 : Int) ≤ (cI u_6 21).toInt ∧ (cI u_6 21).toInt ≤ (8 : Int) := U_u_6.i  21
  have f10 : (cI u_6 21).toInt = (cI u_4 21).toInt := by rw [← e_u_6]; rfl
  have f11 : (1 : Int32).toInt = 1 := by decide
  have f12 := tI_ad (cI u_6 21) (1)
  have f13 := i32_b ((cI u_6 21) + 1)
  have U_u_7 : UC (xI u_6 21 ((cI u_6 21) + 1)) := U_u_6.xI (k := 21) (show (0 : Int) ≤ ((cI u_6 21) + 1).toInt by omega) (show ((cI u_6 21) + 1).toInt ≤ (8 : Int) by omega)
  have H_u_7 : FR [21] u (xI u_6 21 ((cI u_6 21) + 1)) := H_u_6.xI (by decide)
  generalize e_u_7 : xI u_6 21 ((cI u_6 21) + 1) = u_7 at U_u_7 H_u_7 ⊢
  exact wq_some.mpr ⟨U_u_7, H_u_7, trivial⟩
set_option maxHeartbeats 4000000 in
theorem v_X2_comeBack {N : Nat} {u : CSt} (hN : 5000000000 ≤ N) (U_u : UC u)  : wq (F_X2_comeBack N  u) (VP [18, 19, 20, 21, 25] (fun (r : Int32) (w : CSt) => True) u) := by
  have H_u : FR [18, 19, 20, 21, 25] u u := FR.rf
  unfold F_X2_comeBack
  unfold B_X2_comeBack_0
  refine wq_if.mpr ⟨fun h1 => ?_, fun h1 => ?_⟩
  · show wq _ _
    have f2 : (0 : Int32).toInt = 0 := by decide
    have f3 : (0 : Int) ≤ (cI u 21).toInt ∧ (cI u 21).toInt ≤ (8 : Int) := U_u.i  21
    have g4 := Int32.lt_iff_toInt_lt.mp h1
    refine wq_pc.mpr ?_
    have f5 : (1 : Int32).toInt = 1 := by decide
    have f6 := tI_sb (cI u 21) (1)
    have f7 := i32_b ((cI u 21) - 1)
    have U_u_2 : UC (xI u 21 ((cI u 21) - 1)) := U_u.xI (k := 21) (show (0 : Int) ≤ ((cI u 21) - 1).toInt by omega) (show ((cI u 21) - 1).toInt ≤ (8 : Int) by omega)
    have H_u_2 : FR [18, 19, 20, 21, 25] u (xI u 21 ((cI u 21) - 1)) := H_u.xI (by decide)
    generalize e_u_2 : xI u 21 ((cI u 21) - 1) = u_2 at U_u_2 H_u_2 ⊢
    have f8 : (0 : Int) ≤ (cI u_2 21).toInt ∧ (cI u_2 21).toInt ≤ (8 : Int) := U_u_2.i  21
    have f9 : (cI u_2 21).toInt = ((cI u 21) - 1).toInt := by rw [← e_u_2]; simp only [xI_1, if_true]
    have x10 : vp_in (cI u_2 21) 8 := vin_iff.mpr ⟨by omega, by omega⟩
    refine wq_rdU x10 (fun v_4 e_v_4 => ?_)
    refine wq_pc.mpr ?_
    have f11 := i32_b (v_4)
    have U_u_5 : UC (xI u_2 20 v_4) := U_u_2.xI (k := 20) (show (-2147483648 : Int) ≤ (v_4).toInt by omega) (show (v_4).toInt ≤ (2147483647 : Int) by omega)
    have H_u_5 : FR [18, 19, 20, 21, 25] u (xI u_2 20 v_4) := H_u_2.xI (by decide)
    generalize e_u_5 : xI u_2 20 v_4 = u_5 at U_u_5 H_u_5 ⊢
    have f12 : (0 : Int) ≤ (cI u_5 21).toInt ∧ (cI u_5 21).toInt ≤ (8 : Int) := U_u_5.i  21
    have f13 : (cI u_5 21).toInt = (cI u_2 21).toInt := by rw [← e_u_5]; rfl
    have x14 : vp_in (cI u_5 21) 8 := vin_iff.mpr ⟨by omega, by omega⟩
    refine wq_rdU x14 (fun v_7 e_v_7 => ?_)
    refine wq_pc.mpr ?_
    have f15 := i32_b (v_7)
    have U_u_8 : UC (xI u_5 19 v_7) := U_u_5.xI (k := 19) (show (-2147483648 : Int) ≤ (v_7).toInt by omega) (show (v_7).toInt ≤ (2147483647 : Int) by omega)
    have H_u_8 : FR [18, 19, 20, 21, 25] u (xI u_5 19 v_7) := H_u_5.xI (by decide)
    generalize e_u_8 : xI u_5 19 v_7 = u_8 at U_u_8 H_u_8 ⊢
    have f16 : (0 : Int) ≤ (cI u_8 21).toInt ∧ (cI u_8 21).toInt ≤ (8 : Int) := U_u_8.i  21
    have f17 : (cI u_8 21).toInt = (cI u_5 21).toInt := by rw [← e_u_8]; rfl
    have x18 : vp_in (cI u_8 21) 8 := vin_iff.mpr ⟨by omega, by omega⟩
    refine wq_rdU x18 (fun v_10 e_v_10 => ?_)
    refine wq_pc.mpr ?_
    have f19 := i32_b (v_10)
    have U_u_11 : UC (xI u_8 18 v_10) := U_u_8.xI (k := 18) (show (-2147483648 : Int) ≤ (v_10).toInt by omega) (show (v_10).toInt ≤ (2147483647 : Int) by omega)
    have H_u_11 : FR [18, 19, 20, 21, 25] u (xI u_8 18 v_10) := H_u_8.xI (by decide)
    generalize e_u_11 : xI u_8 18 v_10 = u_11 at U_u_11 H_u_11 ⊢
    exact wq_some.mpr ⟨U_u_11, H_u_11, trivial⟩
  · show wq _ _
    have f20 : (0 : Int32).toInt = 0 := by decide
    have f21 : (0 : Int) ≤ (cI u 21).toInt ∧ (cI u 21).toInt ≤ (8 : Int) := U_u.i  21
    have g22 := Int32.le_iff_toInt_le.mp (Int32.not_lt.mp h1)
    refine wq_pc.mpr ?_
    have U_u_12 : UC (xI u 25 0) := U_u.xI (k := 25) (show (0 : Int) ≤ ((0 : Int32)).toInt by omega) (show ((0 : Int32)).toInt ≤ (1 : Int) by omega)
    have H_u_12 : FR [18, 19, 20, 21, 25] u (xI u 25 0) := H_u.xI (by decide)
    generalize e_u_12 : xI u 25 0 = u_12 at U_u_12 H_u_12 ⊢
    exact wq_some.mpr ⟨U_u_12, H_u_12, trivial⟩
set_option maxHeartbeats 4000000 in
theorem v_X2_enterFunction {N : Nat} {u : CSt} (hN : 5000000000 ≤ N) (U_u : UC u) {l1 : Nat} {l2 : Int32} : wq (F_X2_enterFunction N l1 l2 u) (VP [18, 19, 20, 21, 25, 26, 27] (fun (r : Int32) (w : CSt) => True) u) := by
  have H_u : FR [18, 19, 20, 21, 25, 26, 27] u u := FR.rf
  unfold F_X2_enterFunction
  unfold B_X2_enterFunction_0
  refine wq_if.mpr ⟨fun h1 => ?_, fun h1 => ?_⟩
  · show wq _ _
    have f2 : (0 : Int) ≤ (cI u 21).toInt ∧ (cI u 21).toInt ≤ (8 : Int) := U_u.i  21
    have f3 : (8 : Int32).toInt = 8 := by decide
    have g4 := Int32.lt_iff_toInt_lt.mp h1
    have f5 : (-2147483648 : Int) ≤ (cI u 18).toInt ∧ (cI u 18).toInt ≤ (2147483647 : Int) := U_u.i  18
    have f6 : (-2147483648 : Int) ≤ (mI u l1 11).toInt ∧ (mI u l1 11).toInt ≤ (2147483647 : Int) := U_u.m l1 11
    have f7 := tI_sb (cI u 18) (mI u l1 11)
    have f8 := i32_b ((cI u 18) - (mI u l1 11))
    refine wq_bcV (v_X2_remember hN U_u (show (cI u 21).toInt < 8 by omega)) (fun r9 u_9 U_u_9 G_u_9 p10 => ?_)
    have H_u_9 := H_u.call G_u_9 (show ∀ k ∈ [21], k ∈ [18, 19, 20, 21, 25, 26, 27] by decide)
    refine wq_pc.mpr ?_
    have U_u_10 : UC (xI u_9 19 ((cI u 18) - (mI u l1 11))) := U_u_9.xI (k := 19) (show (-2147483648 : Int) ≤ ((cI u 18) - (mI u l1 11)).toInt by omega) (show ((cI u 18) - (mI u l1 11)).toInt ≤ (2147483647 : Int) by omega)
    have H_u_10 : FR [18, 19, 20, 21, 25, 26, 27] u (xI u_9 19 ((cI u 18) - (mI u l1 11))) := H_u_9.xI (by decide)
    generalize e_u_10 : xI u_9 19 ((cI u 18) - (mI u l1 11)) = u_10 at U_u_10 H_u_10 ⊢
    refine wq_pc.mpr ?_
    have f11 : (0 : Int) ≤ (mI u_10 l1 7).toInt ∧ (mI u_10 l1 7).toInt ≤ (300 : Int) := U_u_10.m l1 7
    have f12 : (mI u_10 l1 7).toInt = (mI u_9 l1 7).toInt := by rw [← e_u_10]; rfl
    have f13 : (0 : Int) ≤ (mI u_9 l1 7).toInt ∧ (mI u_9 l1 7).toInt ≤ (300 : Int) := U_u_9.m l1 7
    have f14 := tI_ad ((cI u 18) - (mI u l1 11)) (mI u_10 l1 7)
    have f15 := i32_b (((cI u 18) - (mI u l1 11)) + (mI u_10 l1 7))
    have U_u_11 : UC (xI u_10 18 (((cI u 18) - (mI u l1 11)) + (mI u_10 l1 7))) := U_u_10.xI (k := 18) (show (-2147483648 : Int) ≤ (((cI u 18) - (mI u l1 11)) + (mI u_10 l1 7)).toInt by omega) (show (((cI u 18) - (mI u l1 11)) + (mI u_10 l1 7)).toInt ≤ (2147483647 : Int) by omega)
    have H_u_11 : FR [18, 19, 20, 21, 25, 26, 27] u (xI u_10 18 (((cI u 18) - (mI u l1 11)) + (mI u_10 l1 7))) := H_u_10.xI (by decide)
    generalize e_u_11 : xI u_10 18 (((cI u 18) - (mI u l1 11)) + (mI u_10 l1 7)) = u_11 at U_u_11 H_u_11 ⊢
    have f17 : (-2147483648 : Int) ≤ (mI u_11 l1 11).toInt ∧ (mI u_11 l1 11).toInt ≤ (2147483647 : Int) := U_u_11.m l1 11
    have f18 : (mI u_11 l1 11).toInt = (mI u_10 l1 11).toInt := by rw [← e_u_11]; rfl
    have f19 : (-2147483648 : Int) ≤ (mI u_10 l1 11).toInt ∧ (mI u_10 l1 11).toInt ≤ (2147483647 : Int) := U_u_10.m l1 11
    have f20 : (mI u_10 l1 11).toInt = (mI u_9 l1 11).toInt := by rw [← e_u_10]; rfl
    have f21 : (-2147483648 : Int) ≤ (mI u_9 l1 11).toInt ∧ (mI u_9 l1 11).toInt ≤ (2147483647 : Int) := U_u_9.m l1 11
    unfold LP_X2_enterFunction_52
    refine wq_lp (fun (d : Nat) (a : Nat × Int32 × Int32 × CSt) => UC a.2.2.2 ∧ FR [18, 19, 20, 21, 25, 26, 27] u a.2.2.2 ∧ a.1 = l1 ∧ a.2.1 = (cI u 18) - (mI u l1 11) ∧ d = (2147483648 - a.2.2.1.toInt).toNat) ?_ _ ((2147483648 - (mI u_11 l1 11).toInt).toNat) _ (by omega) ⟨U_u_11, H_u_11, rfl, rfl, rfl⟩
    rintro d_16 R_16 ⟨l1_16, l3_16, l4_16, u_16⟩ ⟨U_16, H_16, k_16_0, k_16_1, m_16⟩ ih_16
    have k_16_0 : l1 = l1_16 := Eq.symm k_16_0
    subst k_16_0
    have k_16_1 : (cI u 18) - (mI u l1 11) = l3_16 := Eq.symm k_16_1
    subst k_16_1
    have m_16 : d_16 = (2147483648 - l4_16.toInt).toNat := m_16
    have U_16 : UC u_16 := U_16
    have H_16 : FR [18, 19, 20, 21, 25, 26, 27] u u_16 := H_16
    show wq (B_X2_enterFunction_52 N R_16 (l1) ((cI u 18) - (mI u l1 11)) (l4_16) u_16) _
    unfold B_X2_enterFunction_52
    refine wq_if.mpr ⟨fun h22 => ?_, fun h22 => ?_⟩
    · show wq _ _
      have f23 : (-2147483648 : Int) ≤ (mI u_16 l1 12).toInt ∧ (mI u_16 l1 12).toInt ≤ (2147483647 : Int) := U_16.m l1 12
      have f24 := i32_b (l4_16)
      have g25 := Int32.le_iff_toInt_le.mp h22
      refine wq_pc.mpr ?_
      have f26 : (-2147483648 : Int) ≤ (mI u_16 l1 13).toInt ∧ (mI u_16 l1 13).toInt ≤ (2147483647 : Int) := U_16.m l1 13
      have U_u_2 : UC (xI u_16 20 (mI u_16 l1 13)) := U_16.xI (k := 20) (show (-2147483648 : Int) ≤ (mI u_16 l1 13).toInt by omega) (show (mI u_16 l1 13).toInt ≤ (2147483647 : Int) by omega)
      have H_u_2 : FR [18, 19, 20, 21, 25, 26, 27] u (xI u_16 20 (mI u_16 l1 13)) := H_16.xI (by decide)
      generalize e_u_2 : xI u_16 20 (mI u_16 l1 13) = u_2 at U_u_2 H_u_2 ⊢
      exact wq_some.mpr ⟨U_u_2, H_u_2, trivial⟩
    · show wq _ _
      have f27 : (-2147483648 : Int) ≤ (mI u_16 l1 12).toInt ∧ (mI u_16 l1 12).toInt ≤ (2147483647 : Int) := U_16.m l1 12
      have f28 := i32_b (l4_16)
      have g29 := Int32.lt_iff_toInt_lt.mp (Int32.not_le.mp h22)
      have f30 : cR u_16 4 < 2 := U_16.r 4
      refine wq_ok.mpr ⟨by first | assumption | omega, ?_⟩
      refine wq_bcR (v_X6_local hN U_16 (show (cR u_16 4) < 2 by omega)) (fun r_5 p31 => ?_)
      try dsimp only at p31
      refine wq_ok.mpr ⟨by first | assumption | omega, ?_⟩
      have f32 : (-2147483648 : Int) ≤ (cI u 18).toInt ∧ (cI u 18).toInt ≤ (2147483647 : Int) := U_u.i  18
      have f33 : (-2147483648 : Int) ≤ (mI u l1 11).toInt ∧ (mI u l1 11).toInt ≤ (2147483647 : Int) := U_u.m l1 11
      have f34 := tI_sb (cI u 18) (mI u l1 11)
      have f35 := i32_b ((cI u 18) - (mI u l1 11))
      have f36 : (0 : Int) ≤ (mI u_16 r_5 9).toInt ∧ (mI u_16 r_5 9).toInt ≤ (3500 : Int) := U_16.m r_5 9
      have f37 := tI_ad (((cI u 18) - (mI u l1 11))) (mI u_16 r_5 9)
      have f38 := i32_b (((cI u 18) - (mI u l1 11)) + (mI u_16 r_5 9))
      have f39 : (0 : Int) ≤ (mI u_16 r_5 7).toInt ∧ (mI u_16 r_5 7).toInt ≤ (300 : Int) := U_16.m r_5 7
      refine wq_bcV (v_X2_fill hN U_16 ) (fun r40 u_7 U_u_7 G_u_7 p41 => ?_)
      have H_u_7 := H_16.call G_u_7 (show ∀ k ∈ [], k ∈ [18, 19, 20, 21, 25, 26, 27] by decide)
      have f42 : (1 : Int32).toInt = 1 := by decide
      have f43 := tI_ad (l4_16) (1)
      have f44 := i32_b (l4_16 + 1)
      exact ih_16 ((2147483648 - (l4_16 + 1).toInt).toNat) (l1, ((cI u 18) - (mI u l1 11)), l4_16 + 1, u_7) (by omega) ⟨U_u_7, H_u_7, rfl, rfl, rfl⟩
  · show wq _ _
    have f45 : (0 : Int) ≤ (cI u 21).toInt ∧ (cI u 21).toInt ≤ (8 : Int) := U_u.i  21
    have f46 : (8 : Int32).toInt = 8 := by decide
    have g47 := Int32.le_iff_toInt_le.mp (Int32.not_lt.mp h1)
    have f48 : (4 : Int32).toInt = 4 := by decide
    have f49 := i32_b (l2)
    refine wq_bcV (v_X2_stop hN U_u ) (fun r50 u_12 U_u_12 G_u_12 p51 => ?_)
    have H_u_12 := H_u.call G_u_12 (show ∀ k ∈ [25, 26, 27], k ∈ [18, 19, 20, 21, 25, 26, 27] by decide)
    exact wq_some.mpr ⟨U_u_12, H_u_12, trivial⟩
set_option maxHeartbeats 4000000 in
theorem v_X2_enterInstance {N : Nat} {u : CSt} (hN : 5000000000 ≤ N) (U_u : UC u) {l1 : Nat} {l2 : Int32} : wq (F_X2_enterInstance N l1 l2 u) (VP [19, 20, 21, 25, 26, 27] (fun (r : Int32) (w : CSt) => True) u) := by
  have H_u : FR [19, 20, 21, 25, 26, 27] u u := FR.rf
  unfold F_X2_enterInstance
  unfold B_X2_enterInstance_0
  refine wq_if.mpr ⟨fun h1 => ?_, fun h1 => ?_⟩
  · show wq _ _
    have f2 : (0 : Int) ≤ (cI u 21).toInt ∧ (cI u 21).toInt ≤ (8 : Int) := U_u.i  21
    have f3 : (8 : Int32).toInt = 8 := by decide
    have g4 := Int32.lt_iff_toInt_lt.mp h1
    have f5 : (-2147483648 : Int) ≤ (cI u 18).toInt ∧ (cI u 18).toInt ≤ (2147483647 : Int) := U_u.i  18
    refine wq_bcV (v_X2_remember hN U_u (show (cI u 21).toInt < 8 by omega)) (fun r6 u_2 U_u_2 G_u_2 p7 => ?_)
    have H_u_2 := H_u.call G_u_2 (show ∀ k ∈ [21], k ∈ [19, 20, 21, 25, 26, 27] by decide)
    refine wq_pc.mpr ?_
    have f8 : (0 : Int) ≤ (mI u_2 l1 9).toInt ∧ (mI u_2 l1 9).toInt ≤ (3500 : Int) := U_u_2.m l1 9
    have U_u_3 : UC (xI u_2 19 (mI u_2 l1 9)) := U_u_2.xI (k := 19) (show (-2147483648 : Int) ≤ (mI u_2 l1 9).toInt by omega) (show (mI u_2 l1 9).toInt ≤ (2147483647 : Int) by omega)
    have H_u_3 : FR [19, 20, 21, 25, 26, 27] u (xI u_2 19 (mI u_2 l1 9)) := H_u_2.xI (by decide)
    generalize e_u_3 : xI u_2 19 (mI u_2 l1 9) = u_3 at U_u_3 H_u_3 ⊢
    have f9 : cR u_3 4 < 2 := U_u_3.r 4
    refine wq_ok.mpr ⟨by first | assumption | omega, ?_⟩
    have f10 : (-2147483648 : Int) ≤ (mI u_3 l1 14).toInt ∧ (mI u_3 l1 14).toInt ≤ (2147483647 : Int) := U_u_3.m l1 14
    have f11 : (mI u_3 l1 14).toInt = (mI u_2 l1 14).toInt := by rw [← e_u_3]; rfl
    have f12 : (-2147483648 : Int) ≤ (mI u_2 l1 14).toInt ∧ (mI u_2 l1 14).toInt ≤ (2147483647 : Int) := U_u_2.m l1 14
    refine wq_bcR (v_X6_name hN U_u_3 (show (cR u_3 4) < 2 by omega)) (fun r_6 p13 => ?_)
    try dsimp only at p13
    refine wq_ok.mpr ⟨by first | assumption | omega, ?_⟩
    refine wq_pc.mpr ?_
    have f14 : (-2147483648 : Int) ≤ (mI u_3 r_6 13).toInt ∧ (mI u_3 r_6 13).toInt ≤ (2147483647 : Int) := U_u_3.m r_6 13
    have f15 : (mI u_3 r_6 13).toInt = (mI u_2 r_6 13).toInt := by rw [← e_u_3]; rfl
    have f16 : (-2147483648 : Int) ≤ (mI u_2 r_6 13).toInt ∧ (mI u_2 r_6 13).toInt ≤ (2147483647 : Int) := U_u_2.m r_6 13
    have U_u_8 : UC (xI u_3 20 (mI u_3 r_6 13)) := U_u_3.xI (k := 20) (show (-2147483648 : Int) ≤ (mI u_3 r_6 13).toInt by omega) (show (mI u_3 r_6 13).toInt ≤ (2147483647 : Int) by omega)
    have H_u_8 : FR [19, 20, 21, 25, 26, 27] u (xI u_3 20 (mI u_3 r_6 13)) := H_u_3.xI (by decide)
    generalize e_u_8 : xI u_3 20 (mI u_3 r_6 13) = u_8 at U_u_8 H_u_8 ⊢
    exact wq_some.mpr ⟨U_u_8, H_u_8, trivial⟩
  · show wq _ _
    have f17 : (0 : Int) ≤ (cI u 21).toInt ∧ (cI u 21).toInt ≤ (8 : Int) := U_u.i  21
    have f18 : (8 : Int32).toInt = 8 := by decide
    have g19 := Int32.le_iff_toInt_le.mp (Int32.not_lt.mp h1)
    have f20 : (4 : Int32).toInt = 4 := by decide
    have f21 := i32_b (l2)
    refine wq_bcV (v_X2_stop hN U_u ) (fun r22 u_9 U_u_9 G_u_9 p23 => ?_)
    have H_u_9 := H_u.call G_u_9 (show ∀ k ∈ [25, 26, 27], k ∈ [19, 20, 21, 25, 26, 27] by decide)
    exact wq_some.mpr ⟨U_u_9, H_u_9, trivial⟩
set_option maxHeartbeats 4000000 in
theorem v_X2_call {N : Nat} {u : CSt} (hN : 5000000000 ≤ N) (U_u : UC u) {l1 : Int32} {l2 : Int32} {l3 : Int32} : wq (F_X2_call N l1 l2 l3 u) (VP [18, 19, 20, 21, 25, 26, 27, 28] (fun (r : Int32) (w : CSt) => True) u) := by
  have H_u : FR [18, 19, 20, 21, 25, 26, 27, 28] u u := FR.rf
  unfold F_X2_call
  unfold B_X2_call_0
  refine wq_if.mpr ⟨fun h1 => ?_, fun h1 => ?_⟩
  · show wq _ _
    have f2 := i32_b (l1)
    have f3 : (37 : Int32).toInt = 37 := by decide
    have g4 := tI_eq.mp h1
    have f5 : cR u 4 < 2 := U_u.r 4
    refine wq_ok.mpr ⟨by first | assumption | omega, ?_⟩
    have f6 := i32_b (l2)
    refine wq_bcR (v_X6_name hN U_u (show (cR u 4) < 2 by omega)) (fun r_4 p7 => ?_)
    try dsimp only at p7
    refine wq_ok.mpr ⟨by first | assumption | omega, ?_⟩
    have f8 := i32_b (l3)
    refine wq_bcV (v_X2_enterFunction hN U_u ) (fun r9 u_6 U_u_6 G_u_6 p10 => ?_)
    have H_u_6 := H_u.call G_u_6 (show ∀ k ∈ [18, 19, 20, 21, 25, 26, 27], k ∈ [18, 19, 20, 21, 25, 26, 27, 28] by decide)
    exact wq_some.mpr ⟨U_u_6, H_u_6, trivial⟩
  · show wq _ _
    have f11 := i32_b (l1)
    have f12 : (37 : Int32).toInt = 37 := by decide
    have g13 := tI_ne h1
    refine wq_if.mpr ⟨fun h14 => ?_, fun h14 => ?_⟩
    · show wq _ _
      have f15 : (38 : Int32).toInt = 38 := by decide
      have g16 := tI_eq.mp h14
      have f17 : cR u 4 < 2 := U_u.r 4
      refine wq_ok.mpr ⟨by first | assumption | omega, ?_⟩
      have f18 := i32_b (l2)
      refine wq_bcR (v_X6_name hN U_u (show (cR u 4) < 2 by omega)) (fun r_10 p19 => ?_)
      try dsimp only at p19
      refine wq_ok.mpr ⟨by first | assumption | omega, ?_⟩
      have f20 := i32_b (l3)
      refine wq_bcV (v_X2_enterInstance hN U_u ) (fun r21 u_12 U_u_12 G_u_12 p22 => ?_)
      have H_u_12 := H_u.call G_u_12 (show ∀ k ∈ [19, 20, 21, 25, 26, 27], k ∈ [18, 19, 20, 21, 25, 26, 27, 28] by decide)
      exact wq_some.mpr ⟨U_u_12, H_u_12, trivial⟩
    · show wq _ _
      have f23 : (38 : Int32).toInt = 38 := by decide
      have g24 := tI_ne h14
      refine wq_if.mpr ⟨fun h25 => ?_, fun h25 => ?_⟩
      · show wq _ _
        have f26 : (39 : Int32).toInt = 39 := by decide
        have g27 := tI_eq.mp h25
        refine wq_bcV (v_X2_pop hN U_u ) (fun r_15 u_14 U_u_14 G_u_14 p28 => ?_)
        have H_u_14 := H_u.call G_u_14 (show ∀ k ∈ [18], k ∈ [18, 19, 20, 21, 25, 26, 27, 28] by decide)
        refine wq_bcV (v_X2_comeBack hN U_u_14 ) (fun r29 u_18 U_u_18 G_u_18 p30 => ?_)
        have H_u_18 := H_u_14.call G_u_18 (show ∀ k ∈ [18, 19, 20, 21, 25], k ∈ [18, 19, 20, 21, 25, 26, 27, 28] by decide)
        refine wq_bcV (v_X2_push hN U_u_18 ) (fun r31 u_19 U_u_19 G_u_19 p32 => ?_)
        have H_u_19 := H_u_18.call G_u_19 (show ∀ k ∈ [18], k ∈ [18, 19, 20, 21, 25, 26, 27, 28] by decide)
        exact wq_some.mpr ⟨U_u_19, H_u_19, trivial⟩
      · show wq _ _
        have f33 : (39 : Int32).toInt = 39 := by decide
        have g34 := tI_ne h25
        refine wq_if.mpr ⟨fun h35 => ?_, fun h35 => ?_⟩
        · show wq _ _
          have f36 : (40 : Int32).toInt = 40 := by decide
          have g37 := tI_eq.mp h35
          refine wq_bcV (v_X2_comeBack hN U_u ) (fun r38 u_21 U_u_21 G_u_21 p39 => ?_)
          have H_u_21 := H_u.call G_u_21 (show ∀ k ∈ [18, 19, 20, 21, 25], k ∈ [18, 19, 20, 21, 25, 26, 27, 28] by decide)
          exact wq_some.mpr ⟨U_u_21, H_u_21, trivial⟩
        · show wq _ _
          have f40 : (40 : Int32).toInt = 40 := by decide
          have g41 := tI_ne h35
          refine wq_bcV (v_X2_pop hN U_u ) (fun r_23 u_22 U_u_22 G_u_22 p42 => ?_)
          have H_u_22 := H_u.call G_u_22 (show ∀ k ∈ [18], k ∈ [18, 19, 20, 21, 25, 26, 27, 28] by decide)
          refine wq_pc.mpr ?_
          have f43 := i32_b (r_23.toInt32)
          have U_u_24 : UC (xI u_22 28 r_23.toInt32) := U_u_22.xI (k := 28) (show (-2147483648 : Int) ≤ (r_23.toInt32).toInt by omega) (show (r_23.toInt32).toInt ≤ (2147483647 : Int) by omega)
          have H_u_24 : FR [18, 19, 20, 21, 25, 26, 27, 28] u (xI u_22 28 r_23.toInt32) := H_u_22.xI (by decide)
          generalize e_u_24 : xI u_22 28 r_23.toInt32 = u_24 at U_u_24 H_u_24 ⊢
          have f44 : (5 : Int32).toInt = 5 := by decide
          have f45 := i32_b (l3)
          refine wq_bcV (v_X2_stop hN U_u_24 ) (fun r46 u_25 U_u_25 G_u_25 p47 => ?_)
          have H_u_25 := H_u_24.call G_u_25 (show ∀ k ∈ [25, 26, 27], k ∈ [18, 19, 20, 21, 25, 26, 27, 28] by decide)
          exact wq_some.mpr ⟨U_u_25, H_u_25, trivial⟩
set_option maxHeartbeats 4000000 in
theorem v_X2_go {N : Nat} {u : CSt} (hN : 5000000000 ≤ N) (U_u : UC u)  : wq (F_X2_go N  u) (VP [18, 19, 20, 21, 24, 25, 26, 27, 28] (fun (r : Int32) (w : CSt) => True) u) := by
  have H_u : FR [18, 19, 20, 21, 24, 25, 26, 27, 28] u u := FR.rf
  unfold F_X2_go
  unfold B_X2_go_0
  refine wq_if.mpr ⟨fun h1 => ?_, fun h1 => ?_⟩
  · show wq _ _
    have f2 : (-2147483648 : Int) ≤ (cI u 20).toInt ∧ (cI u 20).toInt ≤ (2147483647 : Int) := U_u.i  20
    have f3 : (0 : Int32).toInt = 0 := by decide
    have g4 := Int32.lt_iff_toInt_lt.mp h1
    refine wq_pc.mpr ?_
    have U_u_9 : UC (xI u 25 0) := U_u.xI (k := 25) (show (0 : Int) ≤ ((0 : Int32)).toInt by omega) (show ((0 : Int32)).toInt ≤ (1 : Int) by omega)
    have H_u_9 : FR [18, 19, 20, 21, 24, 25, 26, 27, 28] u (xI u 25 0) := H_u.xI (by decide)
    generalize e_u_9 : xI u 25 0 = u_9 at U_u_9 H_u_9 ⊢
    exact wq_some.mpr ⟨U_u_9, H_u_9, trivial⟩
  · show wq _ _
    have f5 : (-2147483648 : Int) ≤ (cI u 20).toInt ∧ (cI u 20).toInt ≤ (2147483647 : Int) := U_u.i  20
    have f6 : (0 : Int32).toInt = 0 := by decide
    have g7 := Int32.le_iff_toInt_le.mp (Int32.not_lt.mp h1)
    have f8 : cR u 4 < 2 := U_u.r 4
    refine wq_ok.mpr ⟨by first | assumption | omega, ?_⟩
    refine wq_if.mpr ⟨fun h9 => ?_, fun h9 => ?_⟩
    · show wq _ _
      have f10 : (0 : Int) ≤ (pI u (cR u 4) 13).toInt ∧ (pI u (cR u 4) 13).toInt ≤ (3200 : Int) := U_u.p (cR u 4) 13
      have g11 := Int32.lt_iff_toInt_lt.mp h9
      have x12 : vp_in (cI u 20) 3200 := vin_iff.mpr ⟨by omega, by omega⟩
      refine wq_rdU x12 (fun v_13 e_v_13 => ?_)
      have x13 : vp_in (cI u 20) 3200 := vin_iff.mpr ⟨by omega, by omega⟩
      refine wq_rdU x13 (fun v_15 e_v_15 => ?_)
      have x14 : vp_in (cI u 20) 3200 := vin_iff.mpr ⟨by omega, by omega⟩
      refine wq_rdU x14 (fun v_17 e_v_17 => ?_)
      have im := U_u.g (cR u 4) (cI u 20).toNatClampNeg; rw [← e_v_13, ← e_v_17] at im
      have x15 : vp_in (cI u 20) 3200 := vin_iff.mpr ⟨by omega, by omega⟩
      refine wq_rdU x15 (fun v_19 e_v_19 => ?_)
      refine wq_pc.mpr ?_
      have f16 : (1 : Int32).toInt = 1 := by decide
      have f17 := tI_ad (cI u 20) (1)
      have f18 := i32_b ((cI u 20) + 1)
      have U_u_20 : UC (xI u 20 ((cI u 20) + 1)) := U_u.xI (k := 20) (show (-2147483648 : Int) ≤ ((cI u 20) + 1).toInt by omega) (show ((cI u 20) + 1).toInt ≤ (2147483647 : Int) by omega)
      have H_u_20 : FR [18, 19, 20, 21, 24, 25, 26, 27, 28] u (xI u 20 ((cI u 20) + 1)) := H_u.xI (by decide)
      generalize e_u_20 : xI u 20 ((cI u 20) + 1) = u_20 at U_u_20 H_u_20 ⊢
      refine wq_if.mpr ⟨fun h19 => ?_, fun h19 => ?_⟩
      · show wq _ _
        have f20 := i32_b (v_13)
        have f21 : (64 : Int32).toInt = 64 := by decide
        have g22 := Int32.lt_iff_toInt_lt.mp h19
        unfold B_X2_go_128
        refine wq_if.mpr ⟨fun h23 => ?_, fun h23 => ?_⟩
        · show wq _ _
          have f24 : (20 : Int32).toInt = 20 := by decide
          have g25 := Int32.le_iff_toInt_le.mp h23
          refine wq_if.mpr ⟨fun h26 => ?_, fun h26 => ?_⟩
          · show wq _ _
            have f27 : (30 : Int32).toInt = 30 := by decide
            have g28 := Int32.le_iff_toInt_le.mp h26
            refine wq_if.mpr ⟨fun h29 => ?_, fun h29 => ?_⟩
            · show wq _ _
              have f30 : (37 : Int32).toInt = 37 := by decide
              have g31 := Int32.le_iff_toInt_le.mp h29
              have f32 := i32_b (v_15)
              have f33 := i32_b (v_19)
              refine wq_bcV (v_X2_call hN U_u_20 ) (fun r34 u_4 U_u_4 G_u_4 p35 => ?_)
              have H_u_4 := H_u_20.call G_u_4 (show ∀ k ∈ [18, 19, 20, 21, 25, 26, 27, 28], k ∈ [18, 19, 20, 21, 24, 25, 26, 27, 28] by decide)
              exact wq_some.mpr ⟨U_u_4, H_u_4, trivial⟩
            · show wq _ _
              have f36 : (37 : Int32).toInt = 37 := by decide
              have g37 := Int32.lt_iff_toInt_lt.mp (Int32.not_le.mp h29)
              have f38 := i32_b (v_15)
              have f39 := i32_b (v_17)
              refine wq_bcV (v_X2_turn hN U_u_20 ) (fun r40 u_5 U_u_5 G_u_5 p41 => ?_)
              have H_u_5 := H_u_20.call G_u_5 (show ∀ k ∈ [18, 20], k ∈ [18, 19, 20, 21, 24, 25, 26, 27, 28] by decide)
              exact wq_some.mpr ⟨U_u_5, H_u_5, trivial⟩
          · show wq _ _
            have f42 : (30 : Int32).toInt = 30 := by decide
            have g43 := Int32.lt_iff_toInt_lt.mp (Int32.not_le.mp h26)
            have f44 := i32_b (v_15)
            have f45 := i32_b (v_17)
            have f46 := i32_b (v_19)
            refine wq_bcV (v_X2_reckon hN U_u_20 ) (fun r47 u_6 U_u_6 G_u_6 p48 => ?_)
            have H_u_6 := H_u_20.call G_u_6 (show ∀ k ∈ [18, 25, 26, 27], k ∈ [18, 19, 20, 21, 24, 25, 26, 27, 28] by decide)
            exact wq_some.mpr ⟨U_u_6, H_u_6, trivial⟩
        · show wq _ _
          have f49 : (20 : Int32).toInt = 20 := by decide
          have g50 := Int32.lt_iff_toInt_lt.mp (Int32.not_le.mp h23)
          have f51 := i32_b (v_15)
          have f52 := i32_b (v_17)
          have f53 := i32_b (v_19)
          refine wq_bcV (v_X2_move hN U_u_20 (show ((v_13).toInt = 5 ∨ (v_13).toInt = 6 ∨ (v_13).toInt = 9) → 0 ≤ (v_17).toInt ∧ (v_17).toInt ≤ 4 by exact fun hh => im (im_of hh))) (fun r54 u_7 U_u_7 G_u_7 p55 => ?_)
          have H_u_7 := H_u_20.call G_u_7 (show ∀ k ∈ [18, 25, 26, 27], k ∈ [18, 19, 20, 21, 24, 25, 26, 27, 28] by decide)
          exact wq_some.mpr ⟨U_u_7, H_u_7, trivial⟩
      · show wq _ _
        have f56 := i32_b (v_13)
        have f57 : (64 : Int32).toInt = 64 := by decide
        have g58 := Int32.le_iff_toInt_le.mp (Int32.not_lt.mp h19)
        refine wq_if.mpr ⟨fun h59 => ?_, fun h59 => ?_⟩
        · show wq _ _
          have f60 : (-2147483648 : Int) ≤ (cI u_20 24).toInt ∧ (cI u_20 24).toInt ≤ (2147483647 : Int) := U_u_20.i  24
          have f61 : (cI u_20 24).toInt = (cI u 24).toInt := by rw [← e_u_20]; rfl
          have f62 : (-2147483648 : Int) ≤ (cI u 24).toInt ∧ (cI u 24).toInt ≤ (2147483647 : Int) := U_u.i  24
          have f63 : (-2147483648 : Int) ≤ (cI u_20 23).toInt ∧ (cI u_20 23).toInt ≤ (2147483647 : Int) := U_u_20.i  23
          have f64 : (cI u_20 23).toInt = (cI u 23).toInt := by rw [← e_u_20]; rfl
          have f65 : (-2147483648 : Int) ≤ (cI u 23).toInt ∧ (cI u 23).toInt ≤ (2147483647 : Int) := U_u.i  23
          have g66 := Int32.lt_iff_toInt_lt.mp h59
          refine wq_pc.mpr ?_
          have f67 := tI_ad (cI u_20 24) (1)
          have f68 := i32_b ((cI u_20 24) + 1)
          have U_u_23 : UC (xI u_20 24 ((cI u_20 24) + 1)) := U_u_20.xI (k := 24) (show (-2147483648 : Int) ≤ ((cI u_20 24) + 1).toInt by omega) (show ((cI u_20 24) + 1).toInt ≤ (2147483647 : Int) by omega)
          have H_u_23 : FR [18, 19, 20, 21, 24, 25, 26, 27, 28] u (xI u_20 24 ((cI u_20 24) + 1)) := H_u_20.xI (by decide)
          generalize e_u_23 : xI u_20 24 ((cI u_20 24) + 1) = u_23 at U_u_23 H_u_23 ⊢
          unfold B_X2_go_128
          refine wq_if.mpr ⟨fun h69 => ?_, fun h69 => ?_⟩
          · show wq _ _
            have f70 : (20 : Int32).toInt = 20 := by decide
            have f71 := tI_m64 (v_13)
            have f72 := i32_b (v_13 + (-64))
            have g73 := Int32.le_iff_toInt_le.mp h69
            refine wq_if.mpr ⟨fun h74 => ?_, fun h74 => ?_⟩
            · show wq _ _
              have f75 : (30 : Int32).toInt = 30 := by decide
              have g76 := Int32.le_iff_toInt_le.mp h74
              refine wq_if.mpr ⟨fun h77 => ?_, fun h77 => ?_⟩
              · show wq _ _
                have f78 : (37 : Int32).toInt = 37 := by decide
                have g79 := Int32.le_iff_toInt_le.mp h77
                have f80 := i32_b (v_15)
                have f81 := i32_b (v_19)
                refine wq_bcV (v_X2_call hN U_u_23 ) (fun r82 u_4 U_u_4 G_u_4 p83 => ?_)
                have H_u_4 := H_u_23.call G_u_4 (show ∀ k ∈ [18, 19, 20, 21, 25, 26, 27, 28], k ∈ [18, 19, 20, 21, 24, 25, 26, 27, 28] by decide)
                exact wq_some.mpr ⟨U_u_4, H_u_4, trivial⟩
              · show wq _ _
                have f84 : (37 : Int32).toInt = 37 := by decide
                have g85 := Int32.lt_iff_toInt_lt.mp (Int32.not_le.mp h77)
                have f86 := i32_b (v_15)
                have f87 := i32_b (v_17)
                refine wq_bcV (v_X2_turn hN U_u_23 ) (fun r88 u_5 U_u_5 G_u_5 p89 => ?_)
                have H_u_5 := H_u_23.call G_u_5 (show ∀ k ∈ [18, 20], k ∈ [18, 19, 20, 21, 24, 25, 26, 27, 28] by decide)
                exact wq_some.mpr ⟨U_u_5, H_u_5, trivial⟩
            · show wq _ _
              have f90 : (30 : Int32).toInt = 30 := by decide
              have g91 := Int32.lt_iff_toInt_lt.mp (Int32.not_le.mp h74)
              have f92 := i32_b (v_15)
              have f93 := i32_b (v_17)
              have f94 := i32_b (v_19)
              refine wq_bcV (v_X2_reckon hN U_u_23 ) (fun r95 u_6 U_u_6 G_u_6 p96 => ?_)
              have H_u_6 := H_u_23.call G_u_6 (show ∀ k ∈ [18, 25, 26, 27], k ∈ [18, 19, 20, 21, 24, 25, 26, 27, 28] by decide)
              exact wq_some.mpr ⟨U_u_6, H_u_6, trivial⟩
          · show wq _ _
            have f97 : (20 : Int32).toInt = 20 := by decide
            have f98 := tI_m64 (v_13)
            have f99 := i32_b (v_13 + (-64))
            have g100 := Int32.lt_iff_toInt_lt.mp (Int32.not_le.mp h69)
            have f101 := i32_b (v_15)
            have f102 := i32_b (v_17)
            have f103 := i32_b (v_19)
            refine wq_bcV (v_X2_move hN U_u_23 (show (((v_13 + (-64))).toInt = 5 ∨ ((v_13 + (-64))).toInt = 6 ∨ ((v_13 + (-64))).toInt = 9) → 0 ≤ (v_17).toInt ∧ (v_17).toInt ≤ 4 by exact fun hh => im (im_sub (v := v_13) (by omega) hh))) (fun r104 u_7 U_u_7 G_u_7 p105 => ?_)
            have H_u_7 := H_u_23.call G_u_7 (show ∀ k ∈ [18, 25, 26, 27], k ∈ [18, 19, 20, 21, 24, 25, 26, 27, 28] by decide)
            exact wq_some.mpr ⟨U_u_7, H_u_7, trivial⟩
        · show wq _ _
          have f106 : (-2147483648 : Int) ≤ (cI u_20 24).toInt ∧ (cI u_20 24).toInt ≤ (2147483647 : Int) := U_u_20.i  24
          have f107 : (cI u_20 24).toInt = (cI u 24).toInt := by rw [← e_u_20]; rfl
          have f108 : (-2147483648 : Int) ≤ (cI u 24).toInt ∧ (cI u 24).toInt ≤ (2147483647 : Int) := U_u.i  24
          have f109 : (-2147483648 : Int) ≤ (cI u_20 23).toInt ∧ (cI u_20 23).toInt ≤ (2147483647 : Int) := U_u_20.i  23
          have f110 : (cI u_20 23).toInt = (cI u 23).toInt := by rw [← e_u_20]; rfl
          have f111 : (-2147483648 : Int) ≤ (cI u 23).toInt ∧ (cI u 23).toInt ≤ (2147483647 : Int) := U_u.i  23
          have g112 := Int32.le_iff_toInt_le.mp (Int32.not_lt.mp h59)
          have f113 : (3 : Int32).toInt = 3 := by decide
          have f114 := i32_b (v_19)
          refine wq_bcV (v_X2_stop hN U_u_20 ) (fun r115 u_24 U_u_24 G_u_24 p116 => ?_)
          have H_u_24 := H_u_20.call G_u_24 (show ∀ k ∈ [25, 26, 27], k ∈ [18, 19, 20, 21, 24, 25, 26, 27, 28] by decide)
          exact wq_some.mpr ⟨U_u_24, H_u_24, trivial⟩
    · show wq _ _
      have f117 : (0 : Int) ≤ (pI u (cR u 4) 13).toInt ∧ (pI u (cR u 4) 13).toInt ≤ (3200 : Int) := U_u.p (cR u 4) 13
      have g118 := Int32.le_iff_toInt_le.mp (Int32.not_lt.mp h9)
      refine wq_pc.mpr ?_
      have U_u_25 : UC (xI u 25 0) := U_u.xI (k := 25) (show (0 : Int) ≤ ((0 : Int32)).toInt by omega) (show ((0 : Int32)).toInt ≤ (1 : Int) by omega)
      have H_u_25 : FR [18, 19, 20, 21, 24, 25, 26, 27, 28] u (xI u 25 0) := H_u.xI (by decide)
      generalize e_u_25 : xI u 25 0 = u_25 at U_u_25 H_u_25 ⊢
      exact wq_some.mpr ⟨U_u_25, H_u_25, trivial⟩
set_option maxHeartbeats 4000000 in
theorem v_X2_run {N : Nat} {u : CSt} (hN : 5000000000 ≤ N) (U_u : UC u) {l1 : Nat} {l2 : Int32} {l3 : Int32} {l4 : Int32} (h_0 : l1 < 2) : wq (F_X2_run N l1 l2 l3 l4 u) (VP [18, 19, 20, 21, 22, 23, 24, 25, 26, 27, 28] (fun (r : Int32) (w : CSt) => True) u) := by
  have H_u : FR [18, 19, 20, 21, 22, 23, 24, 25, 26, 27, 28] u u := FR.rf
  unfold F_X2_run
  unfold B_X2_run_0
  refine wq_pc.mpr ?_
  have U_u_4 : UC (xR u 4 l1) := U_u.xR (by omega)
  have H_u_4 : FR [18, 19, 20, 21, 22, 23, 24, 25, 26, 27, 28] u (xR u 4 l1) := H_u.of rfl rfl
  generalize e_u_4 : xR u 4 l1 = u_4 at U_u_4 H_u_4 ⊢
  refine wq_pc.mpr ?_
  have f1 := i32_b (l2)
  have U_u_5 : UC (xI u_4 20 l2) := U_u_4.xI (k := 20) (show (-2147483648 : Int) ≤ (l2).toInt by omega) (show (l2).toInt ≤ (2147483647 : Int) by omega)
  have H_u_5 : FR [18, 19, 20, 21, 22, 23, 24, 25, 26, 27, 28] u (xI u_4 20 l2) := H_u_4.xI (by decide)
  generalize e_u_5 : xI u_4 20 l2 = u_5 at U_u_5 H_u_5 ⊢
  refine wq_pc.mpr ?_
  have f2 := i32_b (l3)
  have U_u_6 : UC (xI u_5 23 l3) := U_u_5.xI (k := 23) (show (-2147483648 : Int) ≤ (l3).toInt by omega) (show (l3).toInt ≤ (2147483647 : Int) by omega)
  have H_u_6 : FR [18, 19, 20, 21, 22, 23, 24, 25, 26, 27, 28] u (xI u_5 23 l3) := H_u_5.xI (by decide)
  generalize e_u_6 : xI u_5 23 l3 = u_6 at U_u_6 H_u_6 ⊢
  refine wq_pc.mpr ?_
  have f3 := i32_b (l4)
  have U_u_7 : UC (xI u_6 22 l4) := U_u_6.xI (k := 22) (show (-2147483648 : Int) ≤ (l4).toInt by omega) (show (l4).toInt ≤ (2147483647 : Int) by omega)
  have H_u_7 : FR [18, 19, 20, 21, 22, 23, 24, 25, 26, 27, 28] u (xI u_6 22 l4) := H_u_6.xI (by decide)
  generalize e_u_7 : xI u_6 22 l4 = u_7 at U_u_7 H_u_7 ⊢
  refine wq_pc.mpr ?_
  have f4 : (2000 : Int32).toInt = 2000 := by decide
  have U_u_8 : UC (xI u_7 18 2000) := U_u_7.xI (k := 18) (show (-2147483648 : Int) ≤ ((2000 : Int32)).toInt by omega) (show ((2000 : Int32)).toInt ≤ (2147483647 : Int) by omega)
  have H_u_8 : FR [18, 19, 20, 21, 22, 23, 24, 25, 26, 27, 28] u (xI u_7 18 2000) := H_u_7.xI (by decide)
  generalize e_u_8 : xI u_7 18 2000 = u_8 at U_u_8 H_u_8 ⊢
  refine wq_pc.mpr ?_
  have U_u_9 : UC (xI u_8 19 2000) := U_u_8.xI (k := 19) (show (-2147483648 : Int) ≤ ((2000 : Int32)).toInt by omega) (show ((2000 : Int32)).toInt ≤ (2147483647 : Int) by omega)
  have H_u_9 : FR [18, 19, 20, 21, 22, 23, 24, 25, 26, 27, 28] u (xI u_8 19 2000) := H_u_8.xI (by decide)
  generalize e_u_9 : xI u_8 19 2000 = u_9 at U_u_9 H_u_9 ⊢
  refine wq_pc.mpr ?_
  have f5 : (0 : Int32).toInt = 0 := by decide
  have U_u_10 : UC (xI u_9 21 0) := U_u_9.xI (k := 21) (show (0 : Int) ≤ ((0 : Int32)).toInt by omega) (show ((0 : Int32)).toInt ≤ (8 : Int) by omega)
  have H_u_10 : FR [18, 19, 20, 21, 22, 23, 24, 25, 26, 27, 28] u (xI u_9 21 0) := H_u_9.xI (by decide)
  generalize e_u_10 : xI u_9 21 0 = u_10 at U_u_10 H_u_10 ⊢
  refine wq_pc.mpr ?_
  have U_u_11 : UC (xI u_10 24 0) := U_u_10.xI (k := 24) (show (-2147483648 : Int) ≤ ((0 : Int32)).toInt by omega) (show ((0 : Int32)).toInt ≤ (2147483647 : Int) by omega)
  have H_u_11 : FR [18, 19, 20, 21, 22, 23, 24, 25, 26, 27, 28] u (xI u_10 24 0) := H_u_10.xI (by decide)
  generalize e_u_11 : xI u_10 24 0 = u_11 at U_u_11 H_u_11 ⊢
  refine wq_pc.mpr ?_
  have U_u_12 : UC (xI u_11 26 0) := U_u_11.xI (k := 26) (show (-2147483648 : Int) ≤ ((0 : Int32)).toInt by omega) (show ((0 : Int32)).toInt ≤ (2147483647 : Int) by omega)
  have H_u_12 : FR [18, 19, 20, 21, 22, 23, 24, 25, 26, 27, 28] u (xI u_11 26 0) := H_u_11.xI (by decide)
  generalize e_u_12 : xI u_11 26 0 = u_12 at U_u_12 H_u_12 ⊢
  refine wq_pc.mpr ?_
  have U_u_13 : UC (xI u_12 27 0) := U_u_12.xI (k := 27) (show (-2147483648 : Int) ≤ ((0 : Int32)).toInt by omega) (show ((0 : Int32)).toInt ≤ (2147483647 : Int) by omega)
  have H_u_13 : FR [18, 19, 20, 21, 22, 23, 24, 25, 26, 27, 28] u (xI u_12 27 0) := H_u_12.xI (by decide)
  generalize e_u_13 : xI u_12 27 0 = u_13 at U_u_13 H_u_13 ⊢
  refine wq_pc.mpr ?_
  have U_u_14 : UC (xI u_13 28 0) := U_u_13.xI (k := 28) (show (-2147483648 : Int) ≤ ((0 : Int32)).toInt by omega) (show ((0 : Int32)).toInt ≤ (2147483647 : Int) by omega)
  have H_u_14 : FR [18, 19, 20, 21, 22, 23, 24, 25, 26, 27, 28] u (xI u_13 28 0) := H_u_13.xI (by decide)
  generalize e_u_14 : xI u_13 28 0 = u_14 at U_u_14 H_u_14 ⊢
  refine wq_pc.mpr ?_
  have f6 : (1 : Int32).toInt = 1 := by decide
  have U_u_15 : UC (xI u_14 25 1) := U_u_14.xI (k := 25) (show (0 : Int) ≤ ((1 : Int32)).toInt by omega) (show ((1 : Int32)).toInt ≤ (1 : Int) by omega)
  have H_u_15 : FR [18, 19, 20, 21, 22, 23, 24, 25, 26, 27, 28] u (xI u_14 25 1) := H_u_14.xI (by decide)
  generalize e_u_15 : xI u_14 25 1 = u_15 at U_u_15 H_u_15 ⊢
  unfold LP_X2_run_68
  refine wq_lp (fun (d : Nat) (a : Int32 × CSt) => UC a.2 ∧ FR [18, 19, 20, 21, 22, 23, 24, 25, 26, 27, 28] u a.2 ∧ 0 ≤ a.1.toInt ∧ d = (2147483648 - a.1.toInt).toNat) ?_ _ ((2147483648 - ((0 : Int32)).toInt).toNat) _ (by omega) ⟨U_u_15, H_u_15, (show 0 ≤ ((0 : Int32)).toInt by omega), rfl⟩
  rintro d_7 R_7 ⟨l5_7, u_7⟩ ⟨U_7, H_7, i_7_0, m_7⟩ ih_7
  have i_7_0 : 0 ≤ l5_7.toInt := i_7_0
  have m_7 : d_7 = (2147483648 - l5_7.toInt).toNat := m_7
  have U_7 : UC u_7 := U_7
  have H_7 : FR [18, 19, 20, 21, 22, 23, 24, 25, 26, 27, 28] u u_7 := H_7
  show wq (B_X2_run_68 N R_7 (l5_7) u_7) _
  unfold B_X2_run_68
  refine wq_if.mpr ⟨fun h8 => ?_, fun h8 => ?_⟩
  · show wq _ _
    have f9 : (50000000 : Int32).toInt = 50000000 := by decide
    have f10 := i32_b (l5_7)
    have g11 := Int32.le_iff_toInt_le.mp h8
    exact wq_some.mpr ⟨U_7, H_7, trivial⟩
  · show wq _ _
    have f12 : (50000000 : Int32).toInt = 50000000 := by decide
    have f13 := i32_b (l5_7)
    have g14 := Int32.lt_iff_toInt_lt.mp (Int32.not_le.mp h8)
    refine wq_if.mpr ⟨fun h15 => ?_, fun h15 => ?_⟩
    · show wq _ _
      have f16 : (0 : Int) ≤ (cI u_7 25).toInt ∧ (cI u_7 25).toInt ≤ (1 : Int) := U_7.i  25
      have f17 : (0 : Int32).toInt = 0 := by decide
      have g18 := tI_eq.mp h15
      exact wq_some.mpr ⟨U_7, H_7, trivial⟩
    · show wq _ _
      have f19 : (0 : Int) ≤ (cI u_7 25).toInt ∧ (cI u_7 25).toInt ≤ (1 : Int) := U_7.i  25
      have f20 : (0 : Int32).toInt = 0 := by decide
      have g21 := tI_ne h15
      refine wq_bcV (v_X2_go hN U_7 ) (fun r22 u_3 U_u_3 G_u_3 p23 => ?_)
      have H_u_3 := H_7.call G_u_3 (show ∀ k ∈ [18, 19, 20, 21, 24, 25, 26, 27, 28], k ∈ [18, 19, 20, 21, 22, 23, 24, 25, 26, 27, 28] by decide)
      have f24 : (1 : Int32).toInt = 1 := by decide
      have f25 := tI_ad (l5_7) (1)
      have f26 := i32_b (l5_7 + 1)
      exact ih_7 ((2147483648 - (l5_7 + 1).toInt).toNat) (l5_7 + 1, u_3) (by omega) ⟨U_u_3, H_u_3, (show 0 ≤ (l5_7 + 1).toInt by omega), rfl⟩
set_option maxHeartbeats 4000000 in
theorem v_X7_note {N : Nat} {u : CSt} (hN : 5000000000 ≤ N) (U_u : UC u) {l0 : Nat} {l2 : Int32} : wq (F_X7_note N l0 l2 u) (VP [] (fun (r : Int32) (w : CSt) => True) u) := by
  have H_u : FR [] u u := FR.rf
  unfold F_X7_note
  unfold B_X7_note_0
  refine wq_pc.mpr ?_
  have f1 : (-2147483648 : Int) ≤ (tI u l0 4).toInt ∧ (tI u l0 4).toInt ≤ (2147483647 : Int) := U_u.t l0 4
  have f2 : (1 : Int32).toInt = 1 := by decide
  have f3 := tI_ad (tI u l0 4) (1)
  have f4 := i32_b ((tI u l0 4) + 1)
  have U_u_1 : UC (xtI u l0 4 ((tI u l0 4) + 1)) := U_u.xtI (k := 4) (show (-2147483648 : Int) ≤ ((tI u l0 4) + 1).toInt by omega) (show ((tI u l0 4) + 1).toInt ≤ (2147483647 : Int) by omega)
  have H_u_1 : FR [] u (xtI u l0 4 ((tI u l0 4) + 1)) := H_u.of rfl rfl
  generalize e_u_1 : xtI u l0 4 ((tI u l0 4) + 1) = u_1 at U_u_1 H_u_1 ⊢
  refine wq_pc.mpr ?_
  have f5 : (-2147483648 : Int) ≤ (cI u_1 24).toInt ∧ (cI u_1 24).toInt ≤ (2147483647 : Int) := U_u_1.i  24
  have f6 : (cI u_1 24).toInt = (cI u 24).toInt := by rw [← e_u_1]; rfl
  have f7 : (-2147483648 : Int) ≤ (cI u 24).toInt ∧ (cI u 24).toInt ≤ (2147483647 : Int) := U_u.i  24
  have U_u_2 : UC (xtI u_1 l0 5 (cI u_1 24)) := U_u_1.xtI (k := 5) (show (-2147483648 : Int) ≤ (cI u_1 24).toInt by omega) (show (cI u_1 24).toInt ≤ (2147483647 : Int) by omega)
  have H_u_2 : FR [] u (xtI u_1 l0 5 (cI u_1 24)) := H_u_1.of rfl rfl
  generalize e_u_2 : xtI u_1 l0 5 (cI u_1 24) = u_2 at U_u_2 H_u_2 ⊢
  refine wq_if.mpr ⟨fun h8 => ?_, fun h8 => ?_⟩
  · show wq _ _
    have f9 : (-2147483648 : Int) ≤ (cI u_2 26).toInt ∧ (cI u_2 26).toInt ≤ (2147483647 : Int) := U_u_2.i  26
    have f10 : (cI u_2 26).toInt = (cI u_1 26).toInt := by rw [← e_u_2]; rfl
    have f11 : (-2147483648 : Int) ≤ (cI u_1 26).toInt ∧ (cI u_1 26).toInt ≤ (2147483647 : Int) := U_u_1.i  26
    have f12 : (cI u_1 26).toInt = (cI u 26).toInt := by rw [← e_u_1]; rfl
    have f13 : (-2147483648 : Int) ≤ (cI u 26).toInt ∧ (cI u 26).toInt ≤ (2147483647 : Int) := U_u.i  26
    have f14 : (0 : Int32).toInt = 0 := by decide
    have g15 := tI_eq.mp h8
    exact wq_some.mpr ⟨U_u_2, H_u_2, trivial⟩
  · show wq _ _
    have f16 : (-2147483648 : Int) ≤ (cI u_2 26).toInt ∧ (cI u_2 26).toInt ≤ (2147483647 : Int) := U_u_2.i  26
    have f17 : (cI u_2 26).toInt = (cI u_1 26).toInt := by rw [← e_u_2]; rfl
    have f18 : (-2147483648 : Int) ≤ (cI u_1 26).toInt ∧ (cI u_1 26).toInt ≤ (2147483647 : Int) := U_u_1.i  26
    have f19 : (cI u_1 26).toInt = (cI u 26).toInt := by rw [← e_u_1]; rfl
    have f20 : (-2147483648 : Int) ≤ (cI u 26).toInt ∧ (cI u 26).toInt ≤ (2147483647 : Int) := U_u.i  26
    have f21 : (0 : Int32).toInt = 0 := by decide
    have g22 := tI_ne h8
    refine wq_pc.mpr ?_
    have U_u_4 : UC (xtI u_2 l0 3 1) := U_u_2.xtI (k := 3) (show (0 : Int) ≤ ((1 : Int32)).toInt by omega) (show ((1 : Int32)).toInt ≤ (1 : Int) by omega)
    have H_u_4 : FR [] u (xtI u_2 l0 3 1) := H_u_2.of rfl rfl
    generalize e_u_4 : xtI u_2 l0 3 1 = u_4 at U_u_4 H_u_4 ⊢
    refine wq_pc.mpr ?_
    have f23 : (-2147483648 : Int) ≤ (cI u_4 26).toInt ∧ (cI u_4 26).toInt ≤ (2147483647 : Int) := U_u_4.i  26
    have f24 : (cI u_4 26).toInt = (cI u_2 26).toInt := by rw [← e_u_4]; rfl
    have U_u_5 : UC (xtI u_4 l0 6 (cI u_4 26)) := U_u_4.xtI (k := 6) (show (-2147483648 : Int) ≤ (cI u_4 26).toInt by omega) (show (cI u_4 26).toInt ≤ (2147483647 : Int) by omega)
    have H_u_5 : FR [] u (xtI u_4 l0 6 (cI u_4 26)) := H_u_4.of rfl rfl
    generalize e_u_5 : xtI u_4 l0 6 (cI u_4 26) = u_5 at U_u_5 H_u_5 ⊢
    refine wq_pc.mpr ?_
    have f25 : (-2147483648 : Int) ≤ (cI u_5 27).toInt ∧ (cI u_5 27).toInt ≤ (2147483647 : Int) := U_u_5.i  27
    have f26 : (cI u_5 27).toInt = (cI u_4 27).toInt := by rw [← e_u_5]; rfl
    have f27 : (-2147483648 : Int) ≤ (cI u_4 27).toInt ∧ (cI u_4 27).toInt ≤ (2147483647 : Int) := U_u_4.i  27
    have f28 : (cI u_4 27).toInt = (cI u_2 27).toInt := by rw [← e_u_4]; rfl
    have f29 : (-2147483648 : Int) ≤ (cI u_2 27).toInt ∧ (cI u_2 27).toInt ≤ (2147483647 : Int) := U_u_2.i  27
    have f30 : (cI u_2 27).toInt = (cI u_1 27).toInt := by rw [← e_u_2]; rfl
    have f31 : (-2147483648 : Int) ≤ (cI u_1 27).toInt ∧ (cI u_1 27).toInt ≤ (2147483647 : Int) := U_u_1.i  27
    have f32 : (cI u_1 27).toInt = (cI u 27).toInt := by rw [← e_u_1]; rfl
    have f33 : (-2147483648 : Int) ≤ (cI u 27).toInt ∧ (cI u 27).toInt ≤ (2147483647 : Int) := U_u.i  27
    have U_u_6 : UC (xtI u_5 l0 7 (cI u_5 27)) := U_u_5.xtI (k := 7) (show (-2147483648 : Int) ≤ (cI u_5 27).toInt by omega) (show (cI u_5 27).toInt ≤ (2147483647 : Int) by omega)
    have H_u_6 : FR [] u (xtI u_5 l0 7 (cI u_5 27)) := H_u_5.of rfl rfl
    generalize e_u_6 : xtI u_5 l0 7 (cI u_5 27) = u_6 at U_u_6 H_u_6 ⊢
    refine wq_pc.mpr ?_
    have f34 := i32_b (l2)
    have U_u_7 : UC (xtI u_6 l0 8 l2) := U_u_6.xtI (k := 8) (show (-2147483648 : Int) ≤ (l2).toInt by omega) (show (l2).toInt ≤ (2147483647 : Int) by omega)
    have H_u_7 : FR [] u (xtI u_6 l0 8 l2) := H_u_6.of rfl rfl
    generalize e_u_7 : xtI u_6 l0 8 l2 = u_7 at U_u_7 H_u_7 ⊢
    refine wq_pc.mpr ?_
    have f35 : (-2147483648 : Int) ≤ (cI u_7 28).toInt ∧ (cI u_7 28).toInt ≤ (2147483647 : Int) := U_u_7.i  28
    have f36 : (cI u_7 28).toInt = (cI u_6 28).toInt := by rw [← e_u_7]; rfl
    have f37 : (-2147483648 : Int) ≤ (cI u_6 28).toInt ∧ (cI u_6 28).toInt ≤ (2147483647 : Int) := U_u_6.i  28
    have f38 : (cI u_6 28).toInt = (cI u_5 28).toInt := by rw [← e_u_6]; rfl
    have f39 : (-2147483648 : Int) ≤ (cI u_5 28).toInt ∧ (cI u_5 28).toInt ≤ (2147483647 : Int) := U_u_5.i  28
    have f40 : (cI u_5 28).toInt = (cI u_4 28).toInt := by rw [← e_u_5]; rfl
    have f41 : (-2147483648 : Int) ≤ (cI u_4 28).toInt ∧ (cI u_4 28).toInt ≤ (2147483647 : Int) := U_u_4.i  28
    have f42 : (cI u_4 28).toInt = (cI u_2 28).toInt := by rw [← e_u_4]; rfl
    have f43 : (-2147483648 : Int) ≤ (cI u_2 28).toInt ∧ (cI u_2 28).toInt ≤ (2147483647 : Int) := U_u_2.i  28
    have f44 : (cI u_2 28).toInt = (cI u_1 28).toInt := by rw [← e_u_2]; rfl
    have f45 : (-2147483648 : Int) ≤ (cI u_1 28).toInt ∧ (cI u_1 28).toInt ≤ (2147483647 : Int) := U_u_1.i  28
    have f46 : (cI u_1 28).toInt = (cI u 28).toInt := by rw [← e_u_1]; rfl
    have f47 : (-2147483648 : Int) ≤ (cI u 28).toInt ∧ (cI u 28).toInt ≤ (2147483647 : Int) := U_u.i  28
    have U_u_8 : UC (xtI u_7 l0 9 (cI u_7 28)) := U_u_7.xtI (k := 9) (show (-2147483648 : Int) ≤ (cI u_7 28).toInt by omega) (show (cI u_7 28).toInt ≤ (2147483647 : Int) by omega)
    have H_u_8 : FR [] u (xtI u_7 l0 9 (cI u_7 28)) := H_u_7.of rfl rfl
    generalize e_u_8 : xtI u_7 l0 9 (cI u_7 28) = u_8 at U_u_8 H_u_8 ⊢
    exact wq_some.mpr ⟨U_u_8, H_u_8, trivial⟩
