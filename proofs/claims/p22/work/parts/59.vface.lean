set_option maxHeartbeats 4000000 in
theorem v_X10_latest {N : Nat} {u : CSt} (hN : 5000000000 ≤ N) (U_u : UC u) {l1 : Int32} (h_0 : 0 ≤ l1.toInt ∧ l1.toInt < 100) : wq (F_X10_latest N l1 u) (VR (fun (r : Int32) => 0 ≤ r.toInt ∧ r.toInt < 100) u) := by
  have g0 := U_u.i 11
  have g1 : (0 : Int) ≤ (cI u 11).toInt ∧ (cI u 11).toInt ≤ (99 : Int) := g0
  have b1 : (1 : Int32).toInt = 1 := by decide
  have s1 := tI_sb (cI u 11) 1
  have s2 := tI_sb (cI u 11 - 1) l1
  unfold F_X10_latest B_X10_latest_0
  have e : ((cI u 11 - 1) - l1).toInt = (cI u 11).toInt - 1 - l1.toInt := by omega
  have hx : ∃ n : Fin 200, (cI u 11 - 1) - l1 = Int32.ofInt ((n.val : Int) - 100) := by
    refine ⟨⟨((cI u 11).toInt - 1 - l1.toInt + 100).toNat, by omega⟩, ?_⟩
    have e2 : ((((cI u 11).toInt - 1 - l1.toInt + 100).toNat : Nat) : Int) - 100 = ((cI u 11 - 1) - l1).toInt := by omega
    show _ = Int32.ofInt (((((cI u 11).toInt - 1 - l1.toInt + 100).toNat : Nat) : Int) - 100)
    rw [e2, Int32.ofInt_toInt]
  obtain ⟨n, hn⟩ := hx
  rw [hn]
  have k3 : ∀ n : Fin 200, (match F_J9_floorMod_7cf53 0 (Int32.ofInt ((n.val : Int) - 100)) 100 with | some r => decide (0 ≤ r.toInt ∧ r.toInt < 100) | none => false) = true := by decide +kernel
  have k4 := k3 n
  have k5 : F_J9_floorMod_7cf53 N (Int32.ofInt ((n.val : Int) - 100)) 100 = F_J9_floorMod_7cf53 0 (Int32.ofInt ((n.val : Int) - 100)) 100 := rfl
  rw [k5]
  split at k4
  · rename_i r hr; exact wq_pb.mpr ⟨r, hr, wq_some.mpr ⟨rfl, of_decide_eq_true k4⟩⟩
  · cases k4
set_option maxHeartbeats 4000000 in
theorem v_X11_append {N : Nat} {u : CSt} (hN : 5000000000 ≤ N) (U_u : UC u) {l1 : Int32} : wq (F_X11_append N l1 u) (VP [0] (fun (r : Int32) (w : CSt) => True) u) := by
  have H_u : FR [0] u u := FR.rf
  unfold F_X11_append
  unfold B_X11_append_0
  have f2 := i32_b (l1)
  have f3 : (24 : Int32).toInt = 24 := by decide
  unfold LP_X11_append_3
  refine wq_lp (fun (d : Nat) (a : Int32 × Int32 × CSt) => UC a.2.2 ∧ FR [0] u a.2.2 ∧ a.1 = l1 ∧ a.2.1.toInt ≤ 24 ∧ -8 ≤ a.2.1.toInt ∧ d = (a.2.1.toInt + 9).toNat) ?_ _ ((((24 : Int32)).toInt + 9).toNat) _ (by omega) ⟨U_u, H_u, rfl, (show ((24 : Int32)).toInt ≤ 24 by omega), (show -8 ≤ ((24 : Int32)).toInt by omega), rfl⟩
  rintro d_1 R_1 ⟨l1_1, l2_1, u_1⟩ ⟨U_1, H_1, k_1_0, i_1_0, i_1_1, m_1⟩ ih_1
  have k_1_0 : l1 = l1_1 := Eq.symm k_1_0
  subst k_1_0
  have i_1_0 : l2_1.toInt ≤ 24 := i_1_0
  have i_1_1 : -8 ≤ l2_1.toInt := i_1_1
  have m_1 : d_1 = (l2_1.toInt + 9).toNat := m_1
  have U_1 : UC u_1 := U_1
  have H_1 : FR [0] u u_1 := H_1
  show wq (B_X11_append_3 N R_1 (l1) (l2_1) u_1) _
  unfold B_X11_append_3
  refine wq_if.mpr ⟨fun h4 => ?_, fun h4 => ?_⟩
  · show wq _ _
    have f5 := i32_b (l2_1)
    have f6 : (0 : Int32).toInt = 0 := by decide
    have g7 := Int32.lt_iff_toInt_lt.mp h4
    exact wq_some.mpr ⟨U_1, H_1, trivial⟩
  · show wq _ _
    have f8 := i32_b (l2_1)
    have f9 : (0 : Int32).toInt = 0 := by decide
    have g10 := Int32.le_iff_toInt_le.mp (Int32.not_lt.mp h4)
    refine wq_if.mpr ⟨fun h11 => ?_, fun h11 => ?_⟩
    · show wq _ _
      have f12 : (6000 : Int32).toInt = 6000 := by decide
      have f13 : (0 : Int) ≤ (cI u_1 0).toInt ∧ (cI u_1 0).toInt ≤ (6000 : Int) := U_1.i  0
      have g14 := Int32.le_iff_toInt_le.mp h11
      exact wq_some.mpr ⟨U_1, H_1, trivial⟩
    · show wq _ _
      have f15 : (6000 : Int32).toInt = 6000 := by decide
      have f16 : (0 : Int) ≤ (cI u_1 0).toInt ∧ (cI u_1 0).toInt ≤ (6000 : Int) := U_1.i  0
      have g17 := Int32.lt_iff_toInt_lt.mp (Int32.not_le.mp h11)
      have x18 : vp_in (cI u_1 0) 6000 := vin_iff.mpr ⟨by omega, by omega⟩
      refine wq_wc.mpr ⟨x18, ?_⟩
      have U_u_4 : UC (xA u_1 201 ((cI u_1 0).toNatClampNeg) (vp_nar (.byte) (((l1 >>> (l2_1 &&& 31)).toInt8).toInt32))) := U_1.xA
      have H_u_4 : FR [0] u (xA u_1 201 ((cI u_1 0).toNatClampNeg) (vp_nar (.byte) (((l1 >>> (l2_1 &&& 31)).toInt8).toInt32))) := H_1.xA (by exact Or.inl (by decide))
      generalize e_u_4 : xA u_1 201 ((cI u_1 0).toNatClampNeg) (vp_nar (.byte) (((l1 >>> (l2_1 &&& 31)).toInt8).toInt32)) = u_4 at U_u_4 H_u_4 ⊢
      refine wq_pc.mpr ?_
      have f19 : (0 : Int) ≤ (cI u_4 0).toInt ∧ (cI u_4 0).toInt ≤ (6000 : Int) := U_u_4.i  0
      have f20 : (cI u_4 0).toInt = (cI u_1 0).toInt := by rw [← e_u_4]; rfl
      have f21 : (1 : Int32).toInt = 1 := by decide
      have f22 := tI_ad (cI u_4 0) (1)
      have f23 := i32_b ((cI u_4 0) + 1)
      have U_u_5 : UC (xI u_4 0 ((cI u_4 0) + 1)) := U_u_4.xI (k := 0) (show (0 : Int) ≤ ((cI u_4 0) + 1).toInt by omega) (show ((cI u_4 0) + 1).toInt ≤ (6000 : Int) by omega)
      have H_u_5 : FR [0] u (xI u_4 0 ((cI u_4 0) + 1)) := H_u_4.xI (by decide)
      generalize e_u_5 : xI u_4 0 ((cI u_4 0) + 1) = u_5 at U_u_5 H_u_5 ⊢
      have f24 := tI_m8 (l2_1)
      have f25 := i32_b (l2_1 + (-8))
      have b_z26 := i32_b (l2_1 + (-8))
      have t_z26 := tI_m8 (l2_1)
      generalize l2_1 + (-8) = z26 at t_z26 b_z26 ⊢
      clear f24 f25
      exact ih_1 (((z26).toInt + 9).toNat) (l1, z26, u_5) (by omega) ⟨U_u_5, H_u_5, rfl, (show z26.toInt ≤ 24 by omega), (show -8 ≤ z26.toInt by omega), rfl⟩
set_option maxHeartbeats 4000000 in
theorem v_X11_feed {N : Nat} {u : CSt} (hN : 5000000000 ≤ N) (U_u : UC u) {l1 : Int32} {l2 : Int32} {l3 : Int32} {l4 : Int32} {l5 : Int32} : wq (F_X11_feed N l1 l2 l3 l4 l5 u) (VP [0] (fun (r : Int32) (w : CSt) => True) u) := by
  have H_u : FR [0] u u := FR.rf
  unfold F_X11_feed
  unfold B_X11_feed_0
  refine wq_if.mpr ⟨fun h1 => ?_, fun h1 => ?_⟩
  · show wq _ _
    have f2 : (0 : Int) ≤ (cI u 0).toInt ∧ (cI u 0).toInt ≤ (6000 : Int) := U_u.i  0
    have f3 : (20 : Int32).toInt = 20 := by decide
    have f4 := tI_ad (cI u 0) (20)
    have f5 := i32_b ((cI u 0) + 20)
    have f6 : (6000 : Int32).toInt = 6000 := by decide
    have g7 := Int32.le_iff_toInt_le.mp h1
    have f8 := i32_b (l1)
    refine wq_bcV (v_X11_append hN U_u ) (fun r9 u_2 U_u_2 G_u_2 p10 => ?_)
    have H_u_2 := H_u.call G_u_2 (show ∀ k ∈ [0], k ∈ [0] by decide)
    have f11 := i32_b (l2)
    refine wq_bcV (v_X11_append hN U_u_2 ) (fun r12 u_3 U_u_3 G_u_3 p13 => ?_)
    have H_u_3 := H_u_2.call G_u_3 (show ∀ k ∈ [0], k ∈ [0] by decide)
    have f14 := i32_b (l3)
    refine wq_bcV (v_X11_append hN U_u_3 ) (fun r15 u_4 U_u_4 G_u_4 p16 => ?_)
    have H_u_4 := H_u_3.call G_u_4 (show ∀ k ∈ [0], k ∈ [0] by decide)
    have f17 := i32_b (l4)
    refine wq_bcV (v_X11_append hN U_u_4 ) (fun r18 u_5 U_u_5 G_u_5 p19 => ?_)
    have H_u_5 := H_u_4.call G_u_5 (show ∀ k ∈ [0], k ∈ [0] by decide)
    have f20 := i32_b (l5)
    refine wq_bcV (v_X11_append hN U_u_5 ) (fun r21 u_6 U_u_6 G_u_6 p22 => ?_)
    have H_u_6 := H_u_5.call G_u_6 (show ∀ k ∈ [0], k ∈ [0] by decide)
    exact wq_some.mpr ⟨U_u_6, H_u_6, trivial⟩
  · show wq _ _
    have f23 : (0 : Int) ≤ (cI u 0).toInt ∧ (cI u 0).toInt ≤ (6000 : Int) := U_u.i  0
    have f24 : (20 : Int32).toInt = 20 := by decide
    have f25 := tI_ad (cI u 0) (20)
    have f26 := i32_b ((cI u 0) + 20)
    have f27 : (6000 : Int32).toInt = 6000 := by decide
    have g28 := Int32.lt_iff_toInt_lt.mp (Int32.not_le.mp h1)
    exact wq_some.mpr ⟨U_u, H_u, trivial⟩
set_option maxHeartbeats 4000000 in
theorem v_X11_end {N : Nat} {u : CSt} (hN : 5000000000 ≤ N) (U_u : UC u) {l1 : Int32} : wq (F_X11_end N l1 u) (VP [0] (fun (r : Int32) (w : CSt) => True) u) := by
  have H_u : FR [0] u u := FR.rf
  unfold F_X11_end
  unfold B_X11_end_0
  refine wq_if.mpr ⟨fun h1 => ?_, fun h1 => ?_⟩
  · show wq _ _
    have f2 := i32_b (l1)
    have f3 : (0 : Int32).toInt = 0 := by decide
    have g4 := Int32.lt_iff_toInt_lt.mp h1
    exact wq_some.mpr ⟨U_u, H_u, trivial⟩
  · show wq _ _
    have f5 := i32_b (l1)
    have f6 : (0 : Int32).toInt = 0 := by decide
    have g7 := Int32.le_iff_toInt_le.mp (Int32.not_lt.mp h1)
    refine wq_if.mpr ⟨fun h8 => ?_, fun h8 => ?_⟩
    · show wq _ _
      have f9 : (0 : Int) ≤ (cI u 0).toInt ∧ (cI u 0).toInt ≤ (6000 : Int) := U_u.i  0
      have g10 := Int32.le_iff_toInt_le.mp h8
      refine wq_pc.mpr ?_
      have U_u_3 : UC (xI u 0 l1) := U_u.xI (k := 0) (show (0 : Int) ≤ (l1).toInt by omega) (show (l1).toInt ≤ (6000 : Int) by omega)
      have H_u_3 : FR [0] u (xI u 0 l1) := H_u.xI (by decide)
      generalize e_u_3 : xI u 0 l1 = u_3 at U_u_3 H_u_3 ⊢
      exact wq_some.mpr ⟨U_u_3, H_u_3, trivial⟩
    · show wq _ _
      have f11 : (0 : Int) ≤ (cI u 0).toInt ∧ (cI u 0).toInt ≤ (6000 : Int) := U_u.i  0
      have g12 := Int32.lt_iff_toInt_lt.mp (Int32.not_le.mp h8)
      exact wq_some.mpr ⟨U_u, H_u, trivial⟩
set_option maxHeartbeats 4000000 in
theorem v_X11_place {N : Nat} {u : CSt} (hN : 5000000000 ≤ N) (U_u : UC u)  : wq (F_X11_place N  u) (VR (fun (r : Int32) => True) u) := by
  have H_u : FR [] u u := FR.rf
  unfold F_X11_place
  unfold B_X11_place_0
  exact wq_some.mpr ⟨rfl, trivial⟩
set_option maxHeartbeats 4000000 in
theorem v_X11_hasPlace {N : Nat} {u : CSt} (hN : 5000000000 ≤ N) (U_u : UC u) {l1 : Int32} {l2 : Int32} : wq (F_X11_hasPlace N l1 l2 u) (VR (fun (r : Int32) => r.toInt = 0 ∨ (r.toInt = 1 ∧ 0 ≤ l1.toInt ∧ l1.toInt < 160 ∧ 0 ≤ l2.toInt)) u) := by
  have H_u : FR [] u u := FR.rf
  unfold F_X11_hasPlace
  unfold B_X11_hasPlace_0
  have f1 : cR u 0 < 2 := U_u.r 0
  refine wq_ok.mpr ⟨by first | assumption | omega, ?_⟩
  have f2 : (0 : Int32).toInt = 0 := by decide
  have f3 := i32_b (l1)
  refine wq_bcR (v_X6_has hN U_u (show 0 ≤ ((0 : Int32)).toInt ∧ ((0 : Int32)).toInt < 5 by omega)) (fun r_3 p4 => ?_)
  try dsimp only at p4
  refine wq_if.mpr ⟨fun h5 => ?_, fun h5 => ?_⟩
  · show wq _ _
    have f6 := i32_b (r_3)
    have g7 := tI_eq.mp h5
    have f8 := i32_b (l2)
    exact wq_some.mpr ⟨rfl, (show ((0 : Int32)).toInt = 0 ∨ (((0 : Int32)).toInt = 1 ∧ 0 ≤ l1.toInt ∧ l1.toInt < 160 ∧ 0 ≤ l2.toInt) by omega)⟩
  · show wq _ _
    have f9 := i32_b (r_3)
    have g10 := tI_ne h5
    refine wq_if.mpr ⟨fun h11 => ?_, fun h11 => ?_⟩
    · show wq _ _
      have f12 := i32_b (l2)
      have g13 := Int32.lt_iff_toInt_lt.mp h11
      exact wq_some.mpr ⟨rfl, (show ((0 : Int32)).toInt = 0 ∨ (((0 : Int32)).toInt = 1 ∧ 0 ≤ l1.toInt ∧ l1.toInt < 160 ∧ 0 ≤ l2.toInt) by omega)⟩
    · show wq _ _
      have f14 := i32_b (l2)
      have g15 := Int32.le_iff_toInt_le.mp (Int32.not_lt.mp h11)
      refine wq_ok.mpr ⟨by first | assumption | omega, ?_⟩
      refine wq_bcR (v_X6_nth hN U_u (show (cR u 0) < 2 by omega) (show 0 ≤ ((0 : Int32)).toInt ∧ ((0 : Int32)).toInt < 5 by omega)) (fun r_8 p16 => ?_)
      try dsimp only at p16
      refine wq_ok.mpr ⟨by first | assumption | omega, ?_⟩
      refine wq_if.mpr ⟨fun h17 => ?_, fun h17 => ?_⟩
      · show wq _ _
        have f18 : (0 : Int) ≤ (mI u r_8 7).toInt ∧ (mI u r_8 7).toInt ≤ (300 : Int) := U_u.m r_8 7
        have g19 := Int32.le_iff_toInt_le.mp h17
        exact wq_some.mpr ⟨rfl, (show ((0 : Int32)).toInt = 0 ∨ (((0 : Int32)).toInt = 1 ∧ 0 ≤ l1.toInt ∧ l1.toInt < 160 ∧ 0 ≤ l2.toInt) by omega)⟩
      · show wq _ _
        have f20 : (0 : Int) ≤ (mI u r_8 7).toInt ∧ (mI u r_8 7).toInt ≤ (300 : Int) := U_u.m r_8 7
        have g21 := Int32.lt_iff_toInt_lt.mp (Int32.not_le.mp h17)
        have f22 : (1 : Int32).toInt = 1 := by decide
        exact wq_some.mpr ⟨rfl, (show ((1 : Int32)).toInt = 0 ∨ (((1 : Int32)).toInt = 1 ∧ 0 ≤ l1.toInt ∧ l1.toInt < 160 ∧ 0 ≤ l2.toInt) by omega)⟩
set_option maxHeartbeats 4000000 in
theorem v_X11_runTick {N : Nat} {u : CSt} (hN : 5000000000 ≤ N) (U_u : UC u)  : wq (F_X11_runTick N  u) (VP [1, 10, 11, 18, 19, 20, 21, 22, 23, 24, 25, 26, 27, 28] (fun (r : Int32) (w : CSt) => True) u) := by
  have H_u : FR [1, 10, 11, 18, 19, 20, 21, 22, 23, 24, 25, 26, 27, 28] u u := FR.rf
  unfold F_X11_runTick
  unfold B_X11_runTick_0
  refine wq_bcV (v_X1_takeInputs hN U_u ) (fun r1 u_28 U_u_28 G_u_28 p2 => ?_)
  have H_u_28 := H_u.call G_u_28 (show ∀ k ∈ [], k ∈ [1, 10, 11, 18, 19, 20, 21, 22, 23, 24, 25, 26, 27, 28] by decide)
  have f4 : (0 : Int32).toInt = 0 := by decide
  unfold LP_X11_runTick_11
  refine wq_lp (fun (d : Nat) (a : Int32 × Int32 × CSt) => UC a.2.2 ∧ FR [1, 10, 11, 18, 19, 20, 21, 22, 23, 24, 25, 26, 27, 28] u a.2.2 ∧ 0 ≤ a.2.1.toInt ∧ d = (2147483648 - a.2.1.toInt).toNat) ?_ _ ((2147483648 - ((0 : Int32)).toInt).toNat) _ (by omega) ⟨U_u_28, H_u_28, (show 0 ≤ ((0 : Int32)).toInt by omega), rfl⟩
  rintro d_3 R_3 ⟨l1_3, l2_3, u_3⟩ ⟨U_3, H_3, i_3_0, m_3⟩ ih_3
  have i_3_0 : 0 ≤ l2_3.toInt := i_3_0
  have m_3 : d_3 = (2147483648 - l2_3.toInt).toNat := m_3
  have U_3 : UC u_3 := U_3
  have H_3 : FR [1, 10, 11, 18, 19, 20, 21, 22, 23, 24, 25, 26, 27, 28] u u_3 := H_3
  show wq (B_X11_runTick_11 N R_3 (l1_3) (l2_3) u_3) _
  unfold B_X11_runTick_11
  have f5 : cR u_3 0 < 2 := U_3.r 0
  refine wq_ok.mpr ⟨by first | assumption | omega, ?_⟩
  have f6 : (2 : Int32).toInt = 2 := by decide
  refine wq_bcR (v_X6_ofSort hN U_3 (show 0 ≤ ((2 : Int32)).toInt ∧ ((2 : Int32)).toInt < 5 by omega)) (fun r_16 p7 => ?_)
  try dsimp only at p7
  refine wq_if.mpr ⟨fun h8 => ?_, fun h8 => ?_⟩
  · show wq _ _
    have f9 := i32_b (r_16)
    have f10 := i32_b (l2_3)
    have g11 := Int32.le_iff_toInt_le.mp h8
    refine wq_bcV (v_X1_giveOutputs hN U_3 ) (fun r12 u_18 U_u_18 G_u_18 p13 => ?_)
    have H_u_18 := H_3.call G_u_18 (show ∀ k ∈ [], k ∈ [1, 10, 11, 18, 19, 20, 21, 22, 23, 24, 25, 26, 27, 28] by decide)
    have f15 := i32_b (l1_3)
    have f16 : (0 : Int32).toInt = 0 := by decide
    unfold LP_X11_runTick_104
    refine wq_lp (fun (d : Nat) (a : Int32 × Int32 × CSt) => UC a.2.2 ∧ FR [1, 10, 11, 18, 19, 20, 21, 22, 23, 24, 25, 26, 27, 28] u a.2.2 ∧ a.1 = l1_3 ∧ 0 ≤ a.2.1.toInt ∧ d = (2147483648 - a.2.1.toInt).toNat) ?_ _ ((2147483648 - ((0 : Int32)).toInt).toNat) _ (by omega) ⟨U_u_18, H_u_18, rfl, (show 0 ≤ ((0 : Int32)).toInt by omega), rfl⟩
    rintro d_14 R_14 ⟨l1_14, l2_14, u_14⟩ ⟨U_14, H_14, k_14_0, i_14_0, m_14⟩ ih_14
    have k_14_0 : l1_3 = l1_14 := Eq.symm k_14_0
    subst k_14_0
    have i_14_0 : 0 ≤ l2_14.toInt := i_14_0
    have m_14 : d_14 = (2147483648 - l2_14.toInt).toNat := m_14
    have U_14 : UC u_14 := U_14
    have H_14 : FR [1, 10, 11, 18, 19, 20, 21, 22, 23, 24, 25, 26, 27, 28] u u_14 := H_14
    show wq (B_X11_runTick_104 N R_14 (l1_3) (l2_14) u_14) _
    unfold B_X11_runTick_104
    refine wq_if.mpr ⟨fun h17 => ?_, fun h17 => ?_⟩
    · show wq _ _
      have f18 : (0 : Int) ≤ (cI u_14 9).toInt ∧ (cI u_14 9).toInt ≤ (16 : Int) := U_14.i  9
      have f19 := i32_b (l2_14)
      have g20 := Int32.le_iff_toInt_le.mp h17
      refine wq_pc.mpr ?_
      have f21 : (-2147483648 : Int) ≤ (cI u_14 1).toInt ∧ (cI u_14 1).toInt ≤ (2147483647 : Int) := U_14.i  1
      have f22 : (1 : Int32).toInt = 1 := by decide
      have f23 := tI_ad (cI u_14 1) (1)
      have f24 := i32_b ((cI u_14 1) + 1)
      have U_u_2 : UC (xI u_14 1 ((cI u_14 1) + 1)) := U_14.xI (k := 1) (show (-2147483648 : Int) ≤ ((cI u_14 1) + 1).toInt by omega) (show ((cI u_14 1) + 1).toInt ≤ (2147483647 : Int) by omega)
      have H_u_2 : FR [1, 10, 11, 18, 19, 20, 21, 22, 23, 24, 25, 26, 27, 28] u (xI u_14 1 ((cI u_14 1) + 1)) := H_14.xI (by decide)
      generalize e_u_2 : xI u_14 1 ((cI u_14 1) + 1) = u_2 at U_u_2 H_u_2 ⊢
      exact wq_some.mpr ⟨U_u_2, H_u_2, trivial⟩
    · show wq _ _
      have f25 : (0 : Int) ≤ (cI u_14 9).toInt ∧ (cI u_14 9).toInt ≤ (16 : Int) := U_14.i  9
      have f26 := i32_b (l2_14)
      have g27 := Int32.lt_iff_toInt_lt.mp (Int32.not_le.mp h17)
      have f28 : cR u_14 0 < 2 := U_14.r 0
      refine wq_ok.mpr ⟨by first | assumption | omega, ?_⟩
      have x29 : vp_in (l2_14) 16 := vin_iff.mpr ⟨by omega, by omega⟩
      refine wq_rdU x29 (fun v_5 e_v_5 => ?_)
      have f30 : (0 : Int32).toInt = 0 := by decide
      have f31 := i32_b (v_5)
      refine wq_bcR (v_X6_nth hN U_14 (show (cR u_14 0) < 2 by omega) (show 0 ≤ ((0 : Int32)).toInt ∧ ((0 : Int32)).toInt < 5 by omega)) (fun r_7 p32 => ?_)
      try dsimp only at p32
      refine wq_ok.mpr ⟨by first | assumption | omega, ?_⟩
      have x33 : vp_in (l2_14) 16 := vin_iff.mpr ⟨by omega, by omega⟩
      refine wq_rdU x33 (fun v_10 e_v_10 => ?_)
      have f34 := i32_b (v_10)
      refine wq_bcR (v_X2_numberOf hN U_14 ) (fun r_12 p35 => ?_)
      have f36 : (-2147483648 : Int) ≤ (cI u_14 1).toInt ∧ (cI u_14 1).toInt ≤ (2147483647 : Int) := U_14.i  1
      refine wq_bcV (v_X10_see hN U_14 (show 0 ≤ (l2_14).toInt ∧ (l2_14).toInt < 16 by omega)) (fun r37 u_13 U_u_13 G_u_13 p38 => ?_)
      have H_u_13 := H_14.call G_u_13 (show ∀ k ∈ [10, 11], k ∈ [1, 10, 11, 18, 19, 20, 21, 22, 23, 24, 25, 26, 27, 28] by decide)
      have f39 : (1 : Int32).toInt = 1 := by decide
      have f40 := tI_ad (l2_14) (1)
      have f41 := i32_b (l2_14 + 1)
      exact ih_14 ((2147483648 - (l2_14 + 1).toInt).toNat) (l1_3, l2_14 + 1, u_13) (by omega) ⟨U_u_13, H_u_13, rfl, (show 0 ≤ (l2_14 + 1).toInt by omega), rfl⟩
  · show wq _ _
    have f42 := i32_b (r_16)
    have f43 := i32_b (l2_3)
    have g44 := Int32.lt_iff_toInt_lt.mp (Int32.not_le.mp h8)
    refine wq_ok.mpr ⟨by first | assumption | omega, ?_⟩
    have x45 : vp_in (l2_3) 8 := vin_iff.mpr ⟨by omega, by omega⟩
    refine wq_ix.mpr ⟨x45, ?_⟩
    refine wq_if.mpr ⟨fun h46 => ?_, fun h46 => ?_⟩
    · show wq _ _
      have f47 : l2_3.toNatClampNeg = (l2_3).toInt.toNat := rfl
      have f48 : (0 : Int) ≤ (tI u_3 ((8 * (cR u_3 0)) + l2_3.toNatClampNeg) 3).toInt ∧ (tI u_3 ((8 * (cR u_3 0)) + l2_3.toNatClampNeg) 3).toInt ≤ (1 : Int) := U_3.t ((8 * (cR u_3 0)) + l2_3.toNatClampNeg) 3
      have f49 : (0 : Int32).toInt = 0 := by decide
      have g50 := tI_eq.mp h46
      have f51 : (-2147483648 : Int) ≤ (cI u_3 1).toInt ∧ (cI u_3 1).toInt ≤ (2147483647 : Int) := U_3.i  1
      refine wq_bcR (v_X7_isDue hN U_3 ) (fun r_23 p52 => ?_)
      refine wq_if.mpr ⟨fun h53 => ?_, fun h53 => ?_⟩
      · show wq _ _
        have f54 := i32_b (r_23)
        have g55 := tI_eq.mp h53
        unfold B_X11_runTick_89
        have f56 := i32_b (l1_3)
        have f57 : (1 : Int32).toInt = 1 := by decide
        have f58 := tI_ad (l2_3) (1)
        have f59 := i32_b (l2_3 + 1)
        exact ih_3 ((2147483648 - (l2_3 + 1).toInt).toNat) (l1_3, l2_3 + 1, u_3) (by omega) ⟨U_3, H_3, (show 0 ≤ (l2_3 + 1).toInt by omega), rfl⟩
      · show wq _ _
        have f60 := i32_b (r_23)
        have g61 := tI_ne h53
        refine wq_ok.mpr ⟨by first | assumption | omega, ?_⟩
        have f62 : (-2147483648 : Int) ≤ (tI u_3 ((8 * (cR u_3 0)) + l2_3.toNatClampNeg) 2).toInt ∧ (tI u_3 ((8 * (cR u_3 0)) + l2_3.toNatClampNeg) 2).toInt ≤ (2147483647 : Int) := U_3.t ((8 * (cR u_3 0)) + l2_3.toNatClampNeg) 2
        have f63 : (-2147483648 : Int) ≤ (cI u_3 2).toInt ∧ (cI u_3 2).toInt ≤ (2147483647 : Int) := U_3.i  2
        refine wq_bcV (v_X2_run hN U_3 (show (cR u_3 0) < 2 by omega)) (fun r64 u_26 U_u_26 G_u_26 p65 => ?_)
        have H_u_26 := H_3.call G_u_26 (show ∀ k ∈ [18, 19, 20, 21, 22, 23, 24, 25, 26, 27, 28], k ∈ [1, 10, 11, 18, 19, 20, 21, 22, 23, 24, 25, 26, 27, 28] by decide)
        have f66 : (-2147483648 : Int) ≤ (cI u_26 1).toInt ∧ (cI u_26 1).toInt ≤ (2147483647 : Int) := U_u_26.i  1
        have f67 : (cI u_26 1).toInt = (cI u_3 1).toInt := by rw [show cI u_26 1 = cI u_3 1 from G_u_26.1 1 (by decide)]
        refine wq_bcV (v_X7_note hN U_u_26 ) (fun r68 u_27 U_u_27 G_u_27 p69 => ?_)
        have H_u_27 := H_u_26.call G_u_27 (show ∀ k ∈ [], k ∈ [1, 10, 11, 18, 19, 20, 21, 22, 23, 24, 25, 26, 27, 28] by decide)
        unfold B_X11_runTick_89
        have f70 := i32_b (l1_3)
        have f71 : (1 : Int32).toInt = 1 := by decide
        have f72 := tI_ad (l1_3) (1)
        have f73 := i32_b (l1_3 + 1)
        have f74 := tI_ad (l2_3) (1)
        have f75 := i32_b (l2_3 + 1)
        exact ih_3 ((2147483648 - (l2_3 + 1).toInt).toNat) ((l1_3 + 1), l2_3 + 1, u_27) (by omega) ⟨U_u_27, H_u_27, (show 0 ≤ (l2_3 + 1).toInt by omega), rfl⟩
    · show wq _ _
      have f76 : l2_3.toNatClampNeg = (l2_3).toInt.toNat := rfl
      have f77 : (0 : Int) ≤ (tI u_3 ((8 * (cR u_3 0)) + l2_3.toNatClampNeg) 3).toInt ∧ (tI u_3 ((8 * (cR u_3 0)) + l2_3.toNatClampNeg) 3).toInt ≤ (1 : Int) := U_3.t ((8 * (cR u_3 0)) + l2_3.toNatClampNeg) 3
      have f78 : (0 : Int32).toInt = 0 := by decide
      have g79 := tI_ne h46
      unfold B_X11_runTick_89
      have f80 := i32_b (l1_3)
      have f81 : (1 : Int32).toInt = 1 := by decide
      have f82 := tI_ad (l2_3) (1)
      have f83 := i32_b (l2_3 + 1)
      exact ih_3 ((2147483648 - (l2_3 + 1).toInt).toNat) (l1_3, l2_3 + 1, u_3) (by omega) ⟨U_3, H_3, (show 0 ≤ (l2_3 + 1).toInt by omega), rfl⟩
set_option maxHeartbeats 4000000 in
theorem v_X11_scan {N : Nat} {u : CSt} (hN : 5000000000 ≤ N) (U_u : UC u) {l1 : Int32} : wq (F_X11_scan N l1 u) (VS [1, 10, 11, 18, 19, 20, 21, 22, 23, 24, 25, 26, 27, 28] [1] (fun (r : Int32) (w : CSt) => True) u) := by
  have H_u : FR [1, 10, 11, 18, 19, 20, 21, 22, 23, 24, 25, 26, 27, 28] u u := FR.rf
  unfold F_X11_scan
  unfold B_X11_scan_0
  refine wq_if.mpr ⟨fun h1 => ?_, fun h1 => ?_⟩
  · show wq _ _
    have f2 := i32_b (l1)
    have f3 : (1 : Int32).toInt = 1 := by decide
    have g4 := Int32.lt_iff_toInt_lt.mp h1
    exact wq_some.mpr ⟨U_u, H_u, Or.inl ⟨1, rfl, by decide⟩⟩
  · show wq _ _
    have f5 := i32_b (l1)
    have f6 : (1 : Int32).toInt = 1 := by decide
    have g7 := Int32.le_iff_toInt_le.mp (Int32.not_lt.mp h1)
    refine wq_if.mpr ⟨fun h8 => ?_, fun h8 => ?_⟩
    · show wq _ _
      have f9 : (50 : Int32).toInt = 50 := by decide
      have g10 := Int32.le_iff_toInt_le.mp h8
      have f12 : (0 : Int32).toInt = 0 := by decide
      unfold LP_X11_scan_25
      refine wq_lp (fun (d : Nat) (a : Int32 × Int32 × Int32 × CSt) => UC a.2.2.2 ∧ FR [1, 10, 11, 18, 19, 20, 21, 22, 23, 24, 25, 26, 27, 28] u a.2.2.2 ∧ a.1 = l1 ∧ 0 ≤ a.2.2.1.toInt ∧ d = (2147483648 - a.2.2.1.toInt).toNat) ?_ _ ((2147483648 - ((0 : Int32)).toInt).toNat) _ (by omega) ⟨U_u, H_u, rfl, (show 0 ≤ ((0 : Int32)).toInt by omega), rfl⟩
      rintro d_11 R_11 ⟨l1_11, l2_11, l3_11, u_11⟩ ⟨U_11, H_11, k_11_0, i_11_0, m_11⟩ ih_11
      have k_11_0 : l1 = l1_11 := Eq.symm k_11_0
      subst k_11_0
      have i_11_0 : 0 ≤ l3_11.toInt := i_11_0
      have m_11 : d_11 = (2147483648 - l3_11.toInt).toNat := m_11
      have U_11 : UC u_11 := U_11
      have H_11 : FR [1, 10, 11, 18, 19, 20, 21, 22, 23, 24, 25, 26, 27, 28] u u_11 := H_11
      show wq (B_X11_scan_25 N R_11 (l1) (l2_11) (l3_11) u_11) _
      unfold B_X11_scan_25
      refine wq_if.mpr ⟨fun h13 => ?_, fun h13 => ?_⟩
      · show wq _ _
        have f14 := i32_b (l1)
        have f15 := i32_b (l3_11)
        have g16 := Int32.le_iff_toInt_le.mp h13
        exact wq_some.mpr ⟨U_11, H_11, Or.inr ⟨_, rfl, trivial⟩⟩
      · show wq _ _
        have f17 := i32_b (l1)
        have f18 := i32_b (l3_11)
        have g19 := Int32.lt_iff_toInt_lt.mp (Int32.not_le.mp h13)
        refine wq_bcV (v_X11_runTick hN U_11 ) (fun r_3 u_2 U_u_2 G_u_2 p20 => ?_)
        have H_u_2 := H_11.call G_u_2 (show ∀ k ∈ [1, 10, 11, 18, 19, 20, 21, 22, 23, 24, 25, 26, 27, 28], k ∈ [1, 10, 11, 18, 19, 20, 21, 22, 23, 24, 25, 26, 27, 28] by decide)
        have f21 := i32_b (l2_11)
        have f22 := i32_b (r_3)
        have f23 := tI_ad (l2_11) (r_3)
        have f24 := i32_b (l2_11 + r_3)
        have f25 : (1 : Int32).toInt = 1 := by decide
        have f26 := tI_ad (l3_11) (1)
        have f27 := i32_b (l3_11 + 1)
        exact ih_11 ((2147483648 - (l3_11 + 1).toInt).toNat) (l1, l2_11 + r_3, l3_11 + 1, u_2) (by omega) ⟨U_u_2, H_u_2, rfl, (show 0 ≤ (l3_11 + 1).toInt by omega), rfl⟩
    · show wq _ _
      have f28 : (50 : Int32).toInt = 50 := by decide
      have g29 := Int32.lt_iff_toInt_lt.mp (Int32.not_le.mp h8)
      exact wq_some.mpr ⟨U_u, H_u, Or.inl ⟨1, rfl, by decide⟩⟩
set_option maxHeartbeats 4000000 in
theorem v_X11_power {N : Nat} {u : CSt} (hN : 5000000000 ≤ N) (U_u : UC u)  : wq (F_X11_power N  u) (VP [1] (fun (r : Int32) (w : CSt) => True) u) := by
  have H_u : FR [1] u u := FR.rf
  unfold F_X11_power
  unfold B_X11_power_0
  have f2 : (0 : Int32).toInt = 0 := by decide
  unfold LP_X11_power_2
  refine wq_lp (fun (d : Nat) (a : Int32 × CSt) => UC a.2 ∧ FR [1] u a.2 ∧ 0 ≤ a.1.toInt ∧ d = (2147483648 - a.1.toInt).toNat) ?_ _ ((2147483648 - ((0 : Int32)).toInt).toNat) _ (by omega) ⟨U_u, H_u, (show 0 ≤ ((0 : Int32)).toInt by omega), rfl⟩
  rintro d_1 R_1 ⟨l1_1, u_1⟩ ⟨U_1, H_1, i_1_0, m_1⟩ ih_1
  have i_1_0 : 0 ≤ l1_1.toInt := i_1_0
  have m_1 : d_1 = (2147483648 - l1_1.toInt).toNat := m_1
  have U_1 : UC u_1 := U_1
  have H_1 : FR [1] u u_1 := H_1
  show wq (B_X11_power_2 N R_1 (l1_1) u_1) _
  unfold B_X11_power_2
  have f3 : cR u_1 0 < 2 := U_1.r 0
  refine wq_ok.mpr ⟨by first | assumption | omega, ?_⟩
  have f4 : (0 : Int32).toInt = 0 := by decide
  refine wq_bcR (v_X6_ofSort hN U_1 (show 0 ≤ ((0 : Int32)).toInt ∧ ((0 : Int32)).toInt < 5 by omega)) (fun r_10 p5 => ?_)
  try dsimp only at p5
  refine wq_if.mpr ⟨fun h6 => ?_, fun h6 => ?_⟩
  · show wq _ _
    have f7 := i32_b (r_10)
    have f8 := i32_b (l1_1)
    have g9 := Int32.le_iff_toInt_le.mp h6
    refine wq_ok.mpr ⟨by first | assumption | omega, ?_⟩
    refine wq_bcV (v_X2_resetInstances hN U_1 (show (cR u_1 0) < 2 by omega)) (fun r10 u_13 U_u_13 G_u_13 p11 => ?_)
    have H_u_13 := H_1.call G_u_13 (show ∀ k ∈ [], k ∈ [1] by decide)
    refine wq_bcV (v_X1_wipe hN U_u_13 ) (fun r12 u_14 U_u_14 G_u_14 p13 => ?_)
    have H_u_14 := H_u_13.call G_u_14 (show ∀ k ∈ [], k ∈ [1] by decide)
    refine wq_pc.mpr ?_
    have U_u_15 : UC (xI u_14 1 0) := U_u_14.xI (k := 1) (show (-2147483648 : Int) ≤ ((0 : Int32)).toInt by omega) (show ((0 : Int32)).toInt ≤ (2147483647 : Int) by omega)
    have H_u_15 : FR [1] u (xI u_14 1 0) := H_u_14.xI (by decide)
    generalize e_u_15 : xI u_14 1 0 = u_15 at U_u_15 H_u_15 ⊢
    unfold LP_X11_power_81
    refine wq_lp (fun (d : Nat) (a : Int32 × CSt) => UC a.2 ∧ FR [1] u a.2 ∧ 0 ≤ a.1.toInt ∧ d = (2147483648 - a.1.toInt).toNat) ?_ _ ((2147483648 - ((0 : Int32)).toInt).toNat) _ (by omega) ⟨U_u_15, H_u_15, (show 0 ≤ ((0 : Int32)).toInt by omega), rfl⟩
    rintro d_14 R_14 ⟨l1_14, u_14⟩ ⟨U_14, H_14, i_14_0, m_14⟩ ih_14
    have i_14_0 : 0 ≤ l1_14.toInt := i_14_0
    have m_14 : d_14 = (2147483648 - l1_14.toInt).toNat := m_14
    have U_14 : UC u_14 := U_14
    have H_14 : FR [1] u u_14 := H_14
    show wq (B_X11_power_81 N R_14 (l1_14) u_14) _
    unfold B_X11_power_81
    have f15 : cR u_14 0 < 2 := U_14.r 0
    refine wq_ok.mpr ⟨by first | assumption | omega, ?_⟩
    have f16 : (2 : Int32).toInt = 2 := by decide
    refine wq_bcR (v_X6_ofSort hN U_14 (show 0 ≤ ((2 : Int32)).toInt ∧ ((2 : Int32)).toInt < 5 by omega)) (fun r_3 p17 => ?_)
    try dsimp only at p17
    refine wq_if.mpr ⟨fun h18 => ?_, fun h18 => ?_⟩
    · show wq _ _
      have f19 := i32_b (r_3)
      have f20 := i32_b (l1_14)
      have g21 := Int32.le_iff_toInt_le.mp h18
      exact wq_some.mpr ⟨U_14, H_14, trivial⟩
    · show wq _ _
      have f22 := i32_b (r_3)
      have f23 := i32_b (l1_14)
      have g24 := Int32.lt_iff_toInt_lt.mp (Int32.not_le.mp h18)
      refine wq_ok.mpr ⟨by first | assumption | omega, ?_⟩
      have x25 : vp_in (l1_14) 8 := vin_iff.mpr ⟨by omega, by omega⟩
      refine wq_ix.mpr ⟨x25, ?_⟩
      refine wq_pc.mpr ?_
      have f26 : (0 : Int32).toInt = 0 := by decide
      have U_u_7 : UC (xtI u_14 ((8 * (cR u_14 0)) + l1_14.toNatClampNeg) 3 0) := U_14.xtI (k := 3) (show (0 : Int) ≤ ((0 : Int32)).toInt by omega) (show ((0 : Int32)).toInt ≤ (1 : Int) by omega)
      have H_u_7 : FR [1] u (xtI u_14 ((8 * (cR u_14 0)) + l1_14.toNatClampNeg) 3 0) := H_14.of rfl rfl
      generalize e_u_7 : xtI u_14 ((8 * (cR u_14 0)) + l1_14.toNatClampNeg) 3 0 = u_7 at U_u_7 H_u_7 ⊢
      have f27 : (1 : Int32).toInt = 1 := by decide
      have f28 := tI_ad (l1_14) (1)
      have f29 := i32_b (l1_14 + 1)
      exact ih_14 ((2147483648 - (l1_14 + 1).toInt).toNat) (l1_14 + 1, u_7) (by omega) ⟨U_u_7, H_u_7, (show 0 ≤ (l1_14 + 1).toInt by omega), rfl⟩
  · show wq _ _
    have f30 := i32_b (r_10)
    have f31 := i32_b (l1_1)
    have g32 := Int32.lt_iff_toInt_lt.mp (Int32.not_le.mp h6)
    refine wq_ok.mpr ⟨by first | assumption | omega, ?_⟩
    refine wq_bcR (v_X6_nth hN U_1 (show (cR u_1 0) < 2 by omega) (show 0 ≤ ((0 : Int32)).toInt ∧ ((0 : Int32)).toInt < 5 by omega)) (fun r_18 p33 => ?_)
    try dsimp only at p33
    refine wq_ok.mpr ⟨by first | assumption | omega, ?_⟩
    refine wq_if.mpr ⟨fun h34 => ?_, fun h34 => ?_⟩
    · show wq _ _
      have f35 : (-2147483648 : Int) ≤ (mI u_1 r_18 6).toInt ∧ (mI u_1 r_18 6).toInt ≤ (2147483647 : Int) := U_1.m r_18 6
      have g36 := tI_eq.mp h34
      have f37 : (0 : Int) ≤ (mI u_1 r_18 9).toInt ∧ (mI u_1 r_18 9).toInt ≤ (3500 : Int) := U_1.m r_18 9
      have f38 : (0 : Int) ≤ (mI u_1 r_18 7).toInt ∧ (mI u_1 r_18 7).toInt ≤ (300 : Int) := U_1.m r_18 7
      refine wq_bcV (v_X2_fill hN U_1 ) (fun r39 u_21 U_u_21 G_u_21 p40 => ?_)
      have H_u_21 := H_1.call G_u_21 (show ∀ k ∈ [], k ∈ [1] by decide)
      unfold B_X11_power_50
      have f41 : (1 : Int32).toInt = 1 := by decide
      have f42 := tI_ad (l1_1) (1)
      have f43 := i32_b (l1_1 + 1)
      exact ih_1 ((2147483648 - (l1_1 + 1).toInt).toNat) (l1_1 + 1, u_21) (by omega) ⟨U_u_21, H_u_21, (show 0 ≤ (l1_1 + 1).toInt by omega), rfl⟩
    · show wq _ _
      have f44 : (-2147483648 : Int) ≤ (mI u_1 r_18 6).toInt ∧ (mI u_1 r_18 6).toInt ≤ (2147483647 : Int) := U_1.m r_18 6
      have g45 := tI_ne h34
      unfold B_X11_power_50
      have f46 : (1 : Int32).toInt = 1 := by decide
      have f47 := tI_ad (l1_1) (1)
      have f48 := i32_b (l1_1 + 1)
      exact ih_1 ((2147483648 - (l1_1 + 1).toInt).toNat) (l1_1 + 1, u_1) (by omega) ⟨U_1, H_1, (show 0 ≤ (l1_1 + 1).toInt by omega), rfl⟩
set_option maxHeartbeats 4000000 in
theorem v_X11_input {N : Nat} {u : CSt} (hN : 5000000000 ≤ N) (U_u : UC u) {l1 : Int32} {l2 : Int32} : wq (F_X11_input N l1 l2 u) (VS [] [2] (fun (r : Int32) (w : CSt) => True) u) := by
  have H_u : FR [] u u := FR.rf
  unfold F_X11_input
  unfold B_X11_input_0
  refine wq_if.mpr ⟨fun h1 => ?_, fun h1 => ?_⟩
  · show wq _ _
    have f2 := i32_b (l1)
    have f3 : (0 : Int32).toInt = 0 := by decide
    have g4 := Int32.lt_iff_toInt_lt.mp h1
    exact wq_some.mpr ⟨U_u, H_u, Or.inl ⟨2, rfl, by decide⟩⟩
  · show wq _ _
    have f5 := i32_b (l1)
    have f6 : (0 : Int32).toInt = 0 := by decide
    have g7 := Int32.le_iff_toInt_le.mp (Int32.not_lt.mp h1)
    refine wq_if.mpr ⟨fun h8 => ?_, fun h8 => ?_⟩
    · show wq _ _
      have f9 : (64 : Int32).toInt = 64 := by decide
      have g10 := Int32.lt_iff_toInt_lt.mp h8
      have x11 : vp_in ((0 : Int32)) 8 := vin_iff.mpr ⟨by omega, by omega⟩
      refine wq_ix.mpr ⟨x11, ?_⟩
      have x12 : vp_in (l1) 64 := vin_iff.mpr ⟨by omega, by omega⟩
      refine wq_wc.mpr ⟨x12, ?_⟩
      have f13 : (0 : Int32).toNatClampNeg = ((0 : Int32)).toInt.toNat := rfl
      have U_u_5 : UC (xA u (211 + ((0 : Int32).toNatClampNeg)) l1.toNatClampNeg (l2 &&& 255)) := U_u.xA
      have H_u_5 : FR [] u (xA u (211 + ((0 : Int32).toNatClampNeg)) l1.toNatClampNeg (l2 &&& 255)) := H_u.xA (by exact Or.inl ⟨by omega, by omega⟩)
      generalize e_u_5 : xA u (211 + ((0 : Int32).toNatClampNeg)) l1.toNatClampNeg (l2 &&& 255) = u_5 at U_u_5 H_u_5 ⊢
      exact wq_some.mpr ⟨U_u_5, H_u_5, Or.inr ⟨_, rfl, trivial⟩⟩
    · show wq _ _
      have f14 : (64 : Int32).toInt = 64 := by decide
      have g15 := Int32.le_iff_toInt_le.mp (Int32.not_lt.mp h8)
      exact wq_some.mpr ⟨U_u, H_u, Or.inl ⟨2, rfl, by decide⟩⟩
set_option maxHeartbeats 4000000 in
theorem v_X11_look {N : Nat} {u : CSt} (hN : 5000000000 ≤ N) (U_u : UC u) {l1 : Int32} {l2 : Int32} : wq (F_X11_look N l1 l2 u) (VS [] [1, 2] (fun (r : Int32) (w : CSt) => True) u) := by
  have H_u : FR [] u u := FR.rf
  unfold F_X11_look
  unfold B_X11_look_0
  refine wq_if.mpr ⟨fun h1 => ?_, fun h1 => ?_⟩
  · show wq _ _
    have f2 := i32_b (l1)
    have f3 : (0 : Int32).toInt = 0 := by decide
    have g4 := Int32.lt_iff_toInt_lt.mp h1
    exact wq_some.mpr ⟨U_u, H_u, Or.inl ⟨1, rfl, by decide⟩⟩
  · show wq _ _
    have f5 := i32_b (l1)
    have f6 : (0 : Int32).toInt = 0 := by decide
    have g7 := Int32.le_iff_toInt_le.mp (Int32.not_lt.mp h1)
    refine wq_if.mpr ⟨fun h8 => ?_, fun h8 => ?_⟩
    · show wq _ _
      have f9 : (7 : Int32).toInt = 7 := by decide
      have g10 := Int32.le_iff_toInt_le.mp h8
      refine wq_if.mpr ⟨fun h11 => ?_, fun h11 => ?_⟩
      · show wq _ _
        have f12 := i32_b (l2)
        have g13 := Int32.lt_iff_toInt_lt.mp h11
        exact wq_some.mpr ⟨U_u, H_u, Or.inl ⟨2, rfl, by decide⟩⟩
      · show wq _ _
        have f14 := i32_b (l2)
        have g15 := Int32.le_iff_toInt_le.mp (Int32.not_lt.mp h11)
        refine wq_if.mpr ⟨fun h16 => ?_, fun h16 => ?_⟩
        · show wq _ _
          have f17 : (64 : Int32).toInt = 64 := by decide
          have g18 := Int32.lt_iff_toInt_lt.mp h16
          have x19 : vp_in (l1) 8 := vin_iff.mpr ⟨by omega, by omega⟩
          refine wq_ix.mpr ⟨x19, ?_⟩
          have x20 : vp_in (l2) 64 := vin_iff.mpr ⟨by omega, by omega⟩
          refine wq_rdU x20 (fun v_7 e_v_7 => ?_)
          exact wq_some.mpr ⟨U_u, H_u, Or.inr ⟨_, rfl, trivial⟩⟩
        · show wq _ _
          have f21 : (64 : Int32).toInt = 64 := by decide
          have g22 := Int32.le_iff_toInt_le.mp (Int32.not_lt.mp h16)
          exact wq_some.mpr ⟨U_u, H_u, Or.inl ⟨2, rfl, by decide⟩⟩
    · show wq _ _
      have f23 : (7 : Int32).toInt = 7 := by decide
      have g24 := Int32.lt_iff_toInt_lt.mp (Int32.not_le.mp h8)
      exact wq_some.mpr ⟨U_u, H_u, Or.inl ⟨1, rfl, by decide⟩⟩
set_option maxHeartbeats 4000000 in
theorem v_X11_force {N : Nat} {u : CSt} (hN : 5000000000 ≤ N) (U_u : UC u) {l1 : Int32} {l2 : Int32} {l3 : Int32} {l4 : Int32} : wq (F_X11_force N l1 l2 l3 l4 u) (VS [] [2] (fun (r : Int32) (w : CSt) => True) u) := by
  have H_u : FR [] u u := FR.rf
  unfold F_X11_force
  unfold B_X11_force_0
  refine wq_if.mpr ⟨fun h1 => ?_, fun h1 => ?_⟩
  · show wq _ _
    have f2 := i32_b (l2)
    have f3 : (0 : Int32).toInt = 0 := by decide
    have g4 := Int32.lt_iff_toInt_lt.mp h1
    exact wq_some.mpr ⟨U_u, H_u, Or.inl ⟨2, rfl, by decide⟩⟩
  · show wq _ _
    have f5 := i32_b (l2)
    have f6 : (0 : Int32).toInt = 0 := by decide
    have g7 := Int32.le_iff_toInt_le.mp (Int32.not_lt.mp h1)
    refine wq_if.mpr ⟨fun h8 => ?_, fun h8 => ?_⟩
    · show wq _ _
      have f9 : (64 : Int32).toInt = 64 := by decide
      have g10 := Int32.lt_iff_toInt_lt.mp h8
      refine wq_if.mpr ⟨fun h11 => ?_, fun h11 => ?_⟩
      · show wq _ _
        have f12 := i32_b (l1)
        have g13 := tI_eq.mp h11
        unfold B_X11_force_36
        have f14 : (4 : Int32).toInt = 4 := by decide
        have x15 : vp_in ((4 : Int32)) 8 := vin_iff.mpr ⟨by omega, by omega⟩
        refine wq_ix.mpr ⟨x15, ?_⟩
        have x16 : vp_in (l2) 64 := vin_iff.mpr ⟨by omega, by omega⟩
        refine wq_wc.mpr ⟨x16, ?_⟩
        have f17 : (4 : Int32).toNatClampNeg = ((4 : Int32)).toInt.toNat := rfl
        have U_u_6 : UC (xA u (211 + ((4 : Int32).toNatClampNeg)) l2.toNatClampNeg (l3 &&& 255)) := U_u.xA
        have H_u_6 : FR [] u (xA u (211 + ((4 : Int32).toNatClampNeg)) l2.toNatClampNeg (l3 &&& 255)) := H_u.xA (by exact Or.inl ⟨by omega, by omega⟩)
        generalize e_u_6 : xA u (211 + ((4 : Int32).toNatClampNeg)) l2.toNatClampNeg (l3 &&& 255) = u_6 at U_u_6 H_u_6 ⊢
        refine wq_if.mpr ⟨fun h18 => ?_, fun h18 => ?_⟩
        · show wq _ _
          have g19 := tI_eq.mp h18
          unfold B_X11_force_62
          have f20 : (6 : Int32).toInt = 6 := by decide
          have x21 : vp_in ((6 : Int32)) 8 := vin_iff.mpr ⟨by omega, by omega⟩
          refine wq_ix.mpr ⟨x21, ?_⟩
          have x22 : vp_in (l2) 64 := vin_iff.mpr ⟨by omega, by omega⟩
          refine wq_wc.mpr ⟨x22, ?_⟩
          have f23 : (6 : Int32).toNatClampNeg = ((6 : Int32)).toInt.toNat := rfl
          have U_u_3 : UC (xA u_6 (211 + ((6 : Int32).toNatClampNeg)) l2.toNatClampNeg ((l3 &&& l4) &&& 255)) := U_u_6.xA
          have H_u_3 : FR [] u (xA u_6 (211 + ((6 : Int32).toNatClampNeg)) l2.toNatClampNeg ((l3 &&& l4) &&& 255)) := H_u_6.xA (by exact Or.inl ⟨by omega, by omega⟩)
          generalize e_u_3 : xA u_6 (211 + ((6 : Int32).toNatClampNeg)) l2.toNatClampNeg ((l3 &&& l4) &&& 255) = u_3 at U_u_3 H_u_3 ⊢
          exact wq_some.mpr ⟨U_u_3, H_u_3, Or.inr ⟨_, rfl, trivial⟩⟩
        · show wq _ _
          have g24 := tI_ne h18
          unfold B_X11_force_62
          have f25 : (7 : Int32).toInt = 7 := by decide
          have x26 : vp_in ((7 : Int32)) 8 := vin_iff.mpr ⟨by omega, by omega⟩
          refine wq_ix.mpr ⟨x26, ?_⟩
          have x27 : vp_in (l2) 64 := vin_iff.mpr ⟨by omega, by omega⟩
          refine wq_wc.mpr ⟨x27, ?_⟩
          have f28 : (7 : Int32).toNatClampNeg = ((7 : Int32)).toInt.toNat := rfl
          have U_u_3 : UC (xA u_6 (211 + ((7 : Int32).toNatClampNeg)) l2.toNatClampNeg ((l3 &&& l4) &&& 255)) := U_u_6.xA
          have H_u_3 : FR [] u (xA u_6 (211 + ((7 : Int32).toNatClampNeg)) l2.toNatClampNeg ((l3 &&& l4) &&& 255)) := H_u_6.xA (by exact Or.inl ⟨by omega, by omega⟩)
          generalize e_u_3 : xA u_6 (211 + ((7 : Int32).toNatClampNeg)) l2.toNatClampNeg ((l3 &&& l4) &&& 255) = u_3 at U_u_3 H_u_3 ⊢
          exact wq_some.mpr ⟨U_u_3, H_u_3, Or.inr ⟨_, rfl, trivial⟩⟩
      · show wq _ _
        have f29 := i32_b (l1)
        have g30 := tI_ne h11
        unfold B_X11_force_36
        have f31 : (5 : Int32).toInt = 5 := by decide
        have x32 : vp_in ((5 : Int32)) 8 := vin_iff.mpr ⟨by omega, by omega⟩
        refine wq_ix.mpr ⟨x32, ?_⟩
        have x33 : vp_in (l2) 64 := vin_iff.mpr ⟨by omega, by omega⟩
        refine wq_wc.mpr ⟨x33, ?_⟩
        have f34 : (5 : Int32).toNatClampNeg = ((5 : Int32)).toInt.toNat := rfl
        have U_u_6 : UC (xA u (211 + ((5 : Int32).toNatClampNeg)) l2.toNatClampNeg (l3 &&& 255)) := U_u.xA
        have H_u_6 : FR [] u (xA u (211 + ((5 : Int32).toNatClampNeg)) l2.toNatClampNeg (l3 &&& 255)) := H_u.xA (by exact Or.inl ⟨by omega, by omega⟩)
        generalize e_u_6 : xA u (211 + ((5 : Int32).toNatClampNeg)) l2.toNatClampNeg (l3 &&& 255) = u_6 at U_u_6 H_u_6 ⊢
        refine wq_if.mpr ⟨fun h35 => ?_, fun h35 => ?_⟩
        · show wq _ _
          have g36 := tI_eq.mp h35
          unfold B_X11_force_62
          have f37 : (6 : Int32).toInt = 6 := by decide
          have x38 : vp_in ((6 : Int32)) 8 := vin_iff.mpr ⟨by omega, by omega⟩
          refine wq_ix.mpr ⟨x38, ?_⟩
          have x39 : vp_in (l2) 64 := vin_iff.mpr ⟨by omega, by omega⟩
          refine wq_wc.mpr ⟨x39, ?_⟩
          have f40 : (6 : Int32).toNatClampNeg = ((6 : Int32)).toInt.toNat := rfl
          have U_u_3 : UC (xA u_6 (211 + ((6 : Int32).toNatClampNeg)) l2.toNatClampNeg ((l3 &&& l4) &&& 255)) := U_u_6.xA
          have H_u_3 : FR [] u (xA u_6 (211 + ((6 : Int32).toNatClampNeg)) l2.toNatClampNeg ((l3 &&& l4) &&& 255)) := H_u_6.xA (by exact Or.inl ⟨by omega, by omega⟩)
          generalize e_u_3 : xA u_6 (211 + ((6 : Int32).toNatClampNeg)) l2.toNatClampNeg ((l3 &&& l4) &&& 255) = u_3 at U_u_3 H_u_3 ⊢
          exact wq_some.mpr ⟨U_u_3, H_u_3, Or.inr ⟨_, rfl, trivial⟩⟩
        · show wq _ _
          have g41 := tI_ne h35
          unfold B_X11_force_62
          have f42 : (7 : Int32).toInt = 7 := by decide
          have x43 : vp_in ((7 : Int32)) 8 := vin_iff.mpr ⟨by omega, by omega⟩
          refine wq_ix.mpr ⟨x43, ?_⟩
          have x44 : vp_in (l2) 64 := vin_iff.mpr ⟨by omega, by omega⟩
          refine wq_wc.mpr ⟨x44, ?_⟩
          have f45 : (7 : Int32).toNatClampNeg = ((7 : Int32)).toInt.toNat := rfl
          have U_u_3 : UC (xA u_6 (211 + ((7 : Int32).toNatClampNeg)) l2.toNatClampNeg ((l3 &&& l4) &&& 255)) := U_u_6.xA
          have H_u_3 : FR [] u (xA u_6 (211 + ((7 : Int32).toNatClampNeg)) l2.toNatClampNeg ((l3 &&& l4) &&& 255)) := H_u_6.xA (by exact Or.inl ⟨by omega, by omega⟩)
          generalize e_u_3 : xA u_6 (211 + ((7 : Int32).toNatClampNeg)) l2.toNatClampNeg ((l3 &&& l4) &&& 255) = u_3 at U_u_3 H_u_3 ⊢
          exact wq_some.mpr ⟨U_u_3, H_u_3, Or.inr ⟨_, rfl, trivial⟩⟩
    · show wq _ _
      have f46 : (64 : Int32).toInt = 64 := by decide
      have g47 := Int32.le_iff_toInt_le.mp (Int32.not_lt.mp h8)
      exact wq_some.mpr ⟨U_u, H_u, Or.inl ⟨2, rfl, by decide⟩⟩
set_option maxHeartbeats 4000000 in
theorem v_X11_watchdog {N : Nat} {u : CSt} (hN : 5000000000 ≤ N) (U_u : UC u) {l1 : Int32} : wq (F_X11_watchdog N l1 u) (VS [2] [1] (fun (r : Int32) (w : CSt) => True) u) := by
  have H_u : FR [2] u u := FR.rf
  unfold F_X11_watchdog
  unfold B_X11_watchdog_0
  refine wq_if.mpr ⟨fun h1 => ?_, fun h1 => ?_⟩
  · show wq _ _
    have f2 := i32_b (l1)
    have f3 : (1 : Int32).toInt = 1 := by decide
    have g4 := Int32.lt_iff_toInt_lt.mp h1
    exact wq_some.mpr ⟨U_u, H_u, Or.inl ⟨1, rfl, by decide⟩⟩
  · show wq _ _
    have f5 := i32_b (l1)
    have f6 : (1 : Int32).toInt = 1 := by decide
    have g7 := Int32.le_iff_toInt_le.mp (Int32.not_lt.mp h1)
    refine wq_if.mpr ⟨fun h8 => ?_, fun h8 => ?_⟩
    · show wq _ _
      have f9 : (5000 : Int32).toInt = 5000 := by decide
      have g10 := Int32.le_iff_toInt_le.mp h8
      refine wq_pc.mpr ?_
      have U_u_3 : UC (xI u 2 l1) := U_u.xI (k := 2) (show (-2147483648 : Int) ≤ (l1).toInt by omega) (show (l1).toInt ≤ (2147483647 : Int) by omega)
      have H_u_3 : FR [2] u (xI u 2 l1) := H_u.xI (by decide)
      generalize e_u_3 : xI u 2 l1 = u_3 at U_u_3 H_u_3 ⊢
      exact wq_some.mpr ⟨U_u_3, H_u_3, Or.inr ⟨_, rfl, trivial⟩⟩
    · show wq _ _
      have f11 : (5000 : Int32).toInt = 5000 := by decide
      have g12 := Int32.lt_iff_toInt_lt.mp (Int32.not_le.mp h8)
      exact wq_some.mpr ⟨U_u, H_u, Or.inl ⟨1, rfl, by decide⟩⟩
set_option maxHeartbeats 4000000 in
theorem v_X11_clear {N : Nat} {u : CSt} (hN : 5000000000 ≤ N) (U_u : UC u) {l1 : Int32} : wq (F_X11_clear N l1 u) (VS [] [3] (fun (r : Int32) (w : CSt) => True) u) := by
  have H_u : FR [] u u := FR.rf
  unfold F_X11_clear
  unfold B_X11_clear_0
  have f1 : cR u 0 < 2 := U_u.r 0
  refine wq_ok.mpr ⟨by first | assumption | omega, ?_⟩
  have f2 : (2 : Int32).toInt = 2 := by decide
  have f3 := i32_b (l1)
  refine wq_bcR (v_X6_has hN U_u (show 0 ≤ ((2 : Int32)).toInt ∧ ((2 : Int32)).toInt < 5 by omega)) (fun r_3 p4 => ?_)
  try dsimp only at p4
  refine wq_if.mpr ⟨fun h5 => ?_, fun h5 => ?_⟩
  · show wq _ _
    have f6 := i32_b (r_3)
    have f7 : (0 : Int32).toInt = 0 := by decide
    have g8 := tI_eq.mp h5
    exact wq_some.mpr ⟨U_u, H_u, Or.inl ⟨3, rfl, by decide⟩⟩
  · show wq _ _
    have f9 := i32_b (r_3)
    have f10 : (0 : Int32).toInt = 0 := by decide
    have g11 := tI_ne h5
    refine wq_ok.mpr ⟨by first | assumption | omega, ?_⟩
    have x12 : vp_in (l1) 8 := vin_iff.mpr ⟨by omega, by omega⟩
    refine wq_ix.mpr ⟨x12, ?_⟩
    have x13 : vp_in (l1) 8 := vin_iff.mpr ⟨by omega, by omega⟩
    refine wq_ix.mpr ⟨x13, ?_⟩
    refine wq_pc.mpr ?_
    have U_u_8 : UC (xtI u ((8 * (cR u 0)) + l1.toNatClampNeg) 3 0) := U_u.xtI (k := 3) (show (0 : Int) ≤ ((0 : Int32)).toInt by omega) (show ((0 : Int32)).toInt ≤ (1 : Int) by omega)
    have H_u_8 : FR [] u (xtI u ((8 * (cR u 0)) + l1.toNatClampNeg) 3 0) := H_u.of rfl rfl
    generalize e_u_8 : xtI u ((8 * (cR u 0)) + l1.toNatClampNeg) 3 0 = u_8 at U_u_8 H_u_8 ⊢
    have f14 : l1.toNatClampNeg = (l1).toInt.toNat := rfl
    have f15 : (0 : Int) ≤ (tI u ((8 * (cR u 0)) + l1.toNatClampNeg) 3).toInt ∧ (tI u ((8 * (cR u 0)) + l1.toNatClampNeg) 3).toInt ≤ (1 : Int) := U_u.t ((8 * (cR u 0)) + l1.toNatClampNeg) 3
    refine wq_zr.mpr ⟨i32_01 (tI u ((8 * (cR u 0)) + l1.toNatClampNeg) 3) (by omega) (by omega), ?_⟩
    exact wq_some.mpr ⟨U_u_8, H_u_8, Or.inr ⟨_, rfl, trivial⟩⟩
set_option maxHeartbeats 4000000 in
theorem v_X11_task {N : Nat} {u : CSt} (hN : 5000000000 ≤ N) (U_u : UC u) {l1 : Int32} {l2 : Int32} : wq (F_X11_task N l1 l2 u) (VS [] [3, 1] (fun (r : Int32) (w : CSt) => True) u) := by
  have H_u : FR [] u u := FR.rf
  unfold F_X11_task
  unfold B_X11_task_0
  have f1 : cR u 0 < 2 := U_u.r 0
  refine wq_ok.mpr ⟨by first | assumption | omega, ?_⟩
  have f2 : (2 : Int32).toInt = 2 := by decide
  have f3 := i32_b (l1)
  refine wq_bcR (v_X6_has hN U_u (show 0 ≤ ((2 : Int32)).toInt ∧ ((2 : Int32)).toInt < 5 by omega)) (fun r_3 p4 => ?_)
  try dsimp only at p4
  refine wq_if.mpr ⟨fun h5 => ?_, fun h5 => ?_⟩
  · show wq _ _
    have f6 := i32_b (r_3)
    have f7 : (0 : Int32).toInt = 0 := by decide
    have g8 := tI_eq.mp h5
    exact wq_some.mpr ⟨U_u, H_u, Or.inl ⟨3, rfl, by decide⟩⟩
  · show wq _ _
    have f9 := i32_b (r_3)
    have f10 : (0 : Int32).toInt = 0 := by decide
    have g11 := tI_ne h5
    refine wq_ok.mpr ⟨by first | assumption | omega, ?_⟩
    have x12 : vp_in (l1) 8 := vin_iff.mpr ⟨by omega, by omega⟩
    refine wq_ix.mpr ⟨x12, ?_⟩
    refine wq_if.mpr ⟨fun h13 => ?_, fun h13 => ?_⟩
    · show wq _ _
      have f14 := i32_b (l2)
      have g15 := tI_eq.mp h13
      exact wq_some.mpr ⟨U_u, H_u, Or.inr ⟨_, rfl, trivial⟩⟩
    · show wq _ _
      have f16 := i32_b (l2)
      have g17 := tI_ne h13
      refine wq_if.mpr ⟨fun h18 => ?_, fun h18 => ?_⟩
      · show wq _ _
        have f19 : (1 : Int32).toInt = 1 := by decide
        have g20 := tI_eq.mp h18
        exact wq_some.mpr ⟨U_u, H_u, Or.inr ⟨_, rfl, trivial⟩⟩
      · show wq _ _
        have f21 : (1 : Int32).toInt = 1 := by decide
        have g22 := tI_ne h18
        refine wq_if.mpr ⟨fun h23 => ?_, fun h23 => ?_⟩
        · show wq _ _
          have g24 := tI_eq.mp h23
          refine wq_if.mpr ⟨fun h25 => ?_, fun h25 => ?_⟩
          · show wq _ _
            have f26 : l1.toNatClampNeg = (l1).toInt.toNat := rfl
            have f27 : (0 : Int) ≤ (tI u ((8 * (cR u 0)) + l1.toNatClampNeg) 3).toInt ∧ (tI u ((8 * (cR u 0)) + l1.toNatClampNeg) 3).toInt ≤ (1 : Int) := U_u.t ((8 * (cR u 0)) + l1.toNatClampNeg) 3
            have g28 := tI_eq.mp h25
            exact wq_some.mpr ⟨U_u, H_u, Or.inr ⟨_, rfl, trivial⟩⟩
          · show wq _ _
            have f29 : l1.toNatClampNeg = (l1).toInt.toNat := rfl
            have f30 : (0 : Int) ≤ (tI u ((8 * (cR u 0)) + l1.toNatClampNeg) 3).toInt ∧ (tI u ((8 * (cR u 0)) + l1.toNatClampNeg) 3).toInt ≤ (1 : Int) := U_u.t ((8 * (cR u 0)) + l1.toNatClampNeg) 3
            have g31 := tI_ne h25
            exact wq_some.mpr ⟨U_u, H_u, Or.inr ⟨_, rfl, trivial⟩⟩
        · show wq _ _
          have g32 := tI_ne h23
          refine wq_if.mpr ⟨fun h33 => ?_, fun h33 => ?_⟩
          · show wq _ _
            have f34 : (3 : Int32).toInt = 3 := by decide
            have g35 := tI_eq.mp h33
            exact wq_some.mpr ⟨U_u, H_u, Or.inr ⟨_, rfl, trivial⟩⟩
          · show wq _ _
            have f36 : (3 : Int32).toInt = 3 := by decide
            have g37 := tI_ne h33
            refine wq_if.mpr ⟨fun h38 => ?_, fun h38 => ?_⟩
            · show wq _ _
              have f39 : (4 : Int32).toInt = 4 := by decide
              have g40 := tI_eq.mp h38
              exact wq_some.mpr ⟨U_u, H_u, Or.inr ⟨_, rfl, trivial⟩⟩
            · show wq _ _
              have f41 : (4 : Int32).toInt = 4 := by decide
              have g42 := tI_ne h38
              refine wq_if.mpr ⟨fun h43 => ?_, fun h43 => ?_⟩
              · show wq _ _
                have f44 : (5 : Int32).toInt = 5 := by decide
                have g45 := tI_eq.mp h43
                exact wq_some.mpr ⟨U_u, H_u, Or.inr ⟨_, rfl, trivial⟩⟩
              · show wq _ _
                have f46 : (5 : Int32).toInt = 5 := by decide
                have g47 := tI_ne h43
                refine wq_if.mpr ⟨fun h48 => ?_, fun h48 => ?_⟩
                · show wq _ _
                  have f49 : (6 : Int32).toInt = 6 := by decide
                  have g50 := tI_eq.mp h48
                  exact wq_some.mpr ⟨U_u, H_u, Or.inr ⟨_, rfl, trivial⟩⟩
                · show wq _ _
                  have f51 : (6 : Int32).toInt = 6 := by decide
                  have g52 := tI_ne h48
                  refine wq_if.mpr ⟨fun h53 => ?_, fun h53 => ?_⟩
                  · show wq _ _
                    have f54 : (7 : Int32).toInt = 7 := by decide
                    have g55 := tI_eq.mp h53
                    exact wq_some.mpr ⟨U_u, H_u, Or.inr ⟨_, rfl, trivial⟩⟩
                  · show wq _ _
                    have f56 : (7 : Int32).toInt = 7 := by decide
                    have g57 := tI_ne h53
                    refine wq_if.mpr ⟨fun h58 => ?_, fun h58 => ?_⟩
                    · show wq _ _
                      have f59 : (8 : Int32).toInt = 8 := by decide
                      have g60 := tI_eq.mp h58
                      exact wq_some.mpr ⟨U_u, H_u, Or.inr ⟨_, rfl, trivial⟩⟩
                    · show wq _ _
                      have f61 : (8 : Int32).toInt = 8 := by decide
                      have g62 := tI_ne h58
                      exact wq_some.mpr ⟨U_u, H_u, Or.inl ⟨1, rfl, by decide⟩⟩
set_option maxHeartbeats 4000000 in
theorem v_X11_value {N : Nat} {u : CSt} (hN : 5000000000 ≤ N) (U_u : UC u) {l1 : Int32} {l2 : Int32} : wq (F_X11_value N l1 l2 u) (VS [] [3] (fun (r : Int64) (w : CSt) => True) u) := by
  have H_u : FR [] u u := FR.rf
  unfold F_X11_value
  unfold B_X11_value_0
  have f1 := i32_b (l1)
  have f2 := i32_b (l2)
  refine wq_bcR (v_X11_hasPlace hN U_u ) (fun r_2 p3 => ?_)
  try dsimp only at p3
  refine wq_if.mpr ⟨fun h4 => ?_, fun h4 => ?_⟩
  · show wq _ _
    have f5 := i32_b (r_2)
    have f6 : (0 : Int32).toInt = 0 := by decide
    have g7 := tI_eq.mp h4
    exact wq_some.mpr ⟨U_u, H_u, Or.inl ⟨3, rfl, by decide⟩⟩
  · show wq _ _
    have f8 := i32_b (r_2)
    have f9 : (0 : Int32).toInt = 0 := by decide
    have g10 := tI_ne h4
    have f11 : cR u 0 < 2 := U_u.r 0
    refine wq_ok.mpr ⟨by first | assumption | omega, ?_⟩
    refine wq_bcR (v_X6_nth hN U_u (show (cR u 0) < 2 by omega) (show 0 ≤ ((0 : Int32)).toInt ∧ ((0 : Int32)).toInt < 5 by omega)) (fun r_6 p12 => ?_)
    try dsimp only at p12
    refine wq_ok.mpr ⟨by first | assumption | omega, ?_⟩
    refine wq_bcR (v_X2_numberOf hN U_u ) (fun r_9 p13 => ?_)
    exact wq_some.mpr ⟨U_u, H_u, Or.inr ⟨_, rfl, trivial⟩⟩
set_option maxHeartbeats 4000000 in
theorem v_X11_poke {N : Nat} {u : CSt} (hN : 5000000000 ≤ N) (U_u : UC u) {l1 : Int32} {l2 : Int32} {l3 : Int64} : wq (F_X11_poke N l1 l2 l3 u) (VS [] [3, 4] (fun (r : Int64) (w : CSt) => True) u) := by
  have H_u : FR [] u u := FR.rf
  unfold F_X11_poke
  unfold B_X11_poke_0
  have f1 := i32_b (l1)
  have f2 := i32_b (l2)
  refine wq_bcR (v_X11_hasPlace hN U_u ) (fun r_2 p3 => ?_)
  try dsimp only at p3
  refine wq_if.mpr ⟨fun h4 => ?_, fun h4 => ?_⟩
  · show wq _ _
    have f5 := i32_b (r_2)
    have f6 : (0 : Int32).toInt = 0 := by decide
    have g7 := tI_eq.mp h4
    exact wq_some.mpr ⟨U_u, H_u, Or.inl ⟨3, rfl, by decide⟩⟩
  · show wq _ _
    have f8 := i32_b (r_2)
    have f9 : (0 : Int32).toInt = 0 := by decide
    have g10 := tI_ne h4
    have f11 : cR u 0 < 2 := U_u.r 0
    refine wq_ok.mpr ⟨by first | assumption | omega, ?_⟩
    refine wq_bcR (v_X6_nth hN U_u (show (cR u 0) < 2 by omega) (show 0 ≤ ((0 : Int32)).toInt ∧ ((0 : Int32)).toInt < 5 by omega)) (fun r_6 p12 => ?_)
    try dsimp only at p12
    refine wq_ok.mpr ⟨by first | assumption | omega, ?_⟩
    refine wq_if.mpr ⟨fun h13 => ?_, fun h13 => ?_⟩
    · show wq _ _
      have f14 : (-2147483648 : Int) ≤ (mI u r_6 6).toInt ∧ (mI u r_6 6).toInt ≤ (2147483647 : Int) := U_u.m r_6 6
      have f15 : (2 : Int32).toInt = 2 := by decide
      have g16 := tI_eq.mp h13
      exact wq_some.mpr ⟨U_u, H_u, Or.inl ⟨4, rfl, by decide⟩⟩
    · show wq _ _
      have f17 : (-2147483648 : Int) ≤ (mI u r_6 6).toInt ∧ (mI u r_6 6).toInt ≤ (2147483647 : Int) := U_u.m r_6 6
      have f18 : (2 : Int32).toInt = 2 := by decide
      have g19 := tI_ne h13
      refine wq_bcV (v_X2_change hN U_u ) (fun r20 u_9 U_u_9 G_u_9 p21 => ?_)
      have H_u_9 := H_u.call G_u_9 (show ∀ k ∈ [], k ∈ [] by decide)
      refine wq_bcR (v_X2_numberOf hN U_u_9 ) (fun r_11 p22 => ?_)
      exact wq_some.mpr ⟨U_u_9, H_u_9, Or.inr ⟨_, rfl, trivial⟩⟩
set_option maxHeartbeats 4000000 in
theorem v_X11_variable {N : Nat} {u : CSt} (hN : 5000000000 ≤ N) (U_u : UC u) {l1 : Int32} {l2 : Int32} : wq (F_X11_variable N l1 l2 u) (VS [] [3, 1] (fun (r : Int32) (w : CSt) => True) u) := by
  have H_u : FR [] u u := FR.rf
  unfold F_X11_variable
  unfold B_X11_variable_0
  have f1 : cR u 0 < 2 := U_u.r 0
  refine wq_ok.mpr ⟨by first | assumption | omega, ?_⟩
  have f2 : (0 : Int32).toInt = 0 := by decide
  have f3 := i32_b (l1)
  refine wq_bcR (v_X6_has hN U_u (show 0 ≤ ((0 : Int32)).toInt ∧ ((0 : Int32)).toInt < 5 by omega)) (fun r_3 p4 => ?_)
  try dsimp only at p4
  refine wq_if.mpr ⟨fun h5 => ?_, fun h5 => ?_⟩
  · show wq _ _
    have f6 := i32_b (r_3)
    have g7 := tI_eq.mp h5
    exact wq_some.mpr ⟨U_u, H_u, Or.inl ⟨3, rfl, by decide⟩⟩
  · show wq _ _
    have f8 := i32_b (r_3)
    have g9 := tI_ne h5
    refine wq_ok.mpr ⟨by first | assumption | omega, ?_⟩
    refine wq_bcR (v_X6_nth hN U_u (show (cR u 0) < 2 by omega) (show 0 ≤ ((0 : Int32)).toInt ∧ ((0 : Int32)).toInt < 5 by omega)) (fun r_7 p10 => ?_)
    try dsimp only at p10
    refine wq_ok.mpr ⟨by first | assumption | omega, ?_⟩
    refine wq_if.mpr ⟨fun h11 => ?_, fun h11 => ?_⟩
    · show wq _ _
      have f12 := i32_b (l2)
      have g13 := tI_eq.mp h11
      exact wq_some.mpr ⟨U_u, H_u, Or.inr ⟨_, rfl, trivial⟩⟩
    · show wq _ _
      have f14 := i32_b (l2)
      have g15 := tI_ne h11
      refine wq_if.mpr ⟨fun h16 => ?_, fun h16 => ?_⟩
      · show wq _ _
        have f17 : (1 : Int32).toInt = 1 := by decide
        have g18 := tI_eq.mp h16
        exact wq_some.mpr ⟨U_u, H_u, Or.inr ⟨_, rfl, trivial⟩⟩
      · show wq _ _
        have f19 : (1 : Int32).toInt = 1 := by decide
        have g20 := tI_ne h16
        refine wq_if.mpr ⟨fun h21 => ?_, fun h21 => ?_⟩
        · show wq _ _
          have f22 : (2 : Int32).toInt = 2 := by decide
          have g23 := tI_eq.mp h21
          exact wq_some.mpr ⟨U_u, H_u, Or.inr ⟨_, rfl, trivial⟩⟩
        · show wq _ _
          have f24 : (2 : Int32).toInt = 2 := by decide
          have g25 := tI_ne h21
          refine wq_if.mpr ⟨fun h26 => ?_, fun h26 => ?_⟩
          · show wq _ _
            have f27 : (3 : Int32).toInt = 3 := by decide
            have g28 := tI_eq.mp h26
            refine wq_if.mpr ⟨fun h29 => ?_, fun h29 => ?_⟩
            · show wq _ _
              have f30 : (0 : Int) ≤ (mI u r_7 8).toInt ∧ (mI u r_7 8).toInt ≤ (1 : Int) := U_u.m r_7 8
              have g31 := tI_eq.mp h29
              exact wq_some.mpr ⟨U_u, H_u, Or.inr ⟨_, rfl, trivial⟩⟩
            · show wq _ _
              have f32 : (0 : Int) ≤ (mI u r_7 8).toInt ∧ (mI u r_7 8).toInt ≤ (1 : Int) := U_u.m r_7 8
              have g33 := tI_ne h29
              exact wq_some.mpr ⟨U_u, H_u, Or.inr ⟨_, rfl, trivial⟩⟩
          · show wq _ _
            have f34 : (3 : Int32).toInt = 3 := by decide
            have g35 := tI_ne h26
            refine wq_if.mpr ⟨fun h36 => ?_, fun h36 => ?_⟩
            · show wq _ _
              have f37 : (4 : Int32).toInt = 4 := by decide
              have g38 := tI_eq.mp h36
              refine wq_bcR (v_X4_isPlaced hN U_u ) (fun r_16 p39 => ?_)
              try dsimp only at p39
              refine wq_if.mpr ⟨fun h40 => ?_, fun h40 => ?_⟩
              · show wq _ _
                have f41 := i32_b (r_16)
                have g42 := tI_eq.mp h40
                exact wq_some.mpr ⟨U_u, H_u, Or.inr ⟨_, rfl, trivial⟩⟩
              · show wq _ _
                have f43 := i32_b (r_16)
                have g44 := tI_ne h40
                exact wq_some.mpr ⟨U_u, H_u, Or.inr ⟨_, rfl, trivial⟩⟩
            · show wq _ _
              have f45 : (4 : Int32).toInt = 4 := by decide
              have g46 := tI_ne h36
              exact wq_some.mpr ⟨U_u, H_u, Or.inl ⟨1, rfl, by decide⟩⟩
set_option maxHeartbeats 4000000 in
theorem v_X11_field {N : Nat} {u : CSt} (hN : 5000000000 ≤ N) (U_u : UC u) {l1 : Int32} {l2 : Int32} {l3 : Int32} : wq (F_X11_field N l1 l2 l3 u) (VS [] [3] (fun (r : Int64) (w : CSt) => True) u) := by
  have H_u : FR [] u u := FR.rf
  unfold F_X11_field
  unfold B_X11_field_0
  have f1 : cR u 0 < 2 := U_u.r 0
  refine wq_ok.mpr ⟨by first | assumption | omega, ?_⟩
  have f2 : (1 : Int32).toInt = 1 := by decide
  have f3 := i32_b (l1)
  refine wq_bcR (v_X6_has hN U_u (show 0 ≤ ((1 : Int32)).toInt ∧ ((1 : Int32)).toInt < 5 by omega)) (fun r_3 p4 => ?_)
  try dsimp only at p4
  refine wq_if.mpr ⟨fun h5 => ?_, fun h5 => ?_⟩
  · show wq _ _
    have f6 := i32_b (r_3)
    have f7 : (0 : Int32).toInt = 0 := by decide
    have g8 := tI_eq.mp h5
    exact wq_some.mpr ⟨U_u, H_u, Or.inl ⟨3, rfl, by decide⟩⟩
  · show wq _ _
    have f9 := i32_b (r_3)
    have f10 : (0 : Int32).toInt = 0 := by decide
    have g11 := tI_ne h5
    refine wq_ok.mpr ⟨by first | assumption | omega, ?_⟩
    refine wq_bcR (v_X6_nth hN U_u (show (cR u 0) < 2 by omega) (show 0 ≤ ((1 : Int32)).toInt ∧ ((1 : Int32)).toInt < 5 by omega)) (fun r_7 p12 => ?_)
    try dsimp only at p12
    refine wq_ok.mpr ⟨by first | assumption | omega, ?_⟩
    refine wq_ok.mpr ⟨by first | assumption | omega, ?_⟩
    have f13 : (-2147483648 : Int) ≤ (mI u r_7 14).toInt ∧ (mI u r_7 14).toInt ≤ (2147483647 : Int) := U_u.m r_7 14
    refine wq_bcR (v_X6_name hN U_u (show (cR u 0) < 2 by omega)) (fun r_11 p14 => ?_)
    try dsimp only at p14
    refine wq_ok.mpr ⟨by first | assumption | omega, ?_⟩
    have f15 := i32_b (l2)
    refine wq_bcR (v_X6_local hN U_u (show (cR u 0) < 2 by omega)) (fun r_14 p16 => ?_)
    try dsimp only at p16
    refine wq_ok.mpr ⟨by first | assumption | omega, ?_⟩
    refine wq_if.mpr ⟨fun h17 => ?_, fun h17 => ?_⟩
    · show wq _ _
      have f18 : (-2147483648 : Int) ≤ (mI u r_14 2).toInt ∧ (mI u r_14 2).toInt ≤ (2147483647 : Int) := U_u.m r_14 2
      have f19 : (8 : Int32).toInt = 8 := by decide
      have g20 := tI_eq.mp h17
      exact wq_some.mpr ⟨U_u, H_u, Or.inl ⟨3, rfl, by decide⟩⟩
    · show wq _ _
      have f21 : (-2147483648 : Int) ≤ (mI u r_14 2).toInt ∧ (mI u r_14 2).toInt ≤ (2147483647 : Int) := U_u.m r_14 2
      have f22 : (8 : Int32).toInt = 8 := by decide
      have g23 := tI_ne h17
      refine wq_if.mpr ⟨fun h24 => ?_, fun h24 => ?_⟩
      · show wq _ _
        have f25 := i32_b (l3)
        have g26 := Int32.lt_iff_toInt_lt.mp h24
        exact wq_some.mpr ⟨U_u, H_u, Or.inl ⟨3, rfl, by decide⟩⟩
      · show wq _ _
        have f27 := i32_b (l3)
        have g28 := Int32.le_iff_toInt_le.mp (Int32.not_lt.mp h24)
        refine wq_if.mpr ⟨fun h29 => ?_, fun h29 => ?_⟩
        · show wq _ _
          have f30 : (0 : Int) ≤ (mI u r_14 7).toInt ∧ (mI u r_14 7).toInt ≤ (300 : Int) := U_u.m r_14 7
          have g31 := Int32.lt_iff_toInt_lt.mp h29
          have f32 : (0 : Int) ≤ (mI u r_7 9).toInt ∧ (mI u r_7 9).toInt ≤ (3500 : Int) := U_u.m r_7 9
          have f33 : (0 : Int) ≤ (mI u r_14 9).toInt ∧ (mI u r_14 9).toInt ≤ (3500 : Int) := U_u.m r_14 9
          have f34 := tI_ad (mI u r_7 9) (mI u r_14 9)
          have f35 := i32_b ((mI u r_7 9) + (mI u r_14 9))
          have f36 := tI_ad ((mI u r_7 9) + (mI u r_14 9)) (l3)
          have f37 := i32_b (((mI u r_7 9) + (mI u r_14 9)) + l3)
          refine wq_bcR (v_X2_numberAt hN U_u ) (fun r_20 p38 => ?_)
          exact wq_some.mpr ⟨U_u, H_u, Or.inr ⟨_, rfl, trivial⟩⟩
        · show wq _ _
          have f39 : (0 : Int) ≤ (mI u r_14 7).toInt ∧ (mI u r_14 7).toInt ≤ (300 : Int) := U_u.m r_14 7
          have g40 := Int32.le_iff_toInt_le.mp (Int32.not_lt.mp h29)
          exact wq_some.mpr ⟨U_u, H_u, Or.inl ⟨3, rfl, by decide⟩⟩
set_option maxHeartbeats 4000000 in
theorem v_X11_find {N : Nat} {u : CSt} (hN : 5000000000 ≤ N) (U_u : UC u) {l1 : Int32} : wq (F_X11_find N l1 u) (VS [3] [1] (fun (r : Int32) (w : CSt) => True) u) := by
  have H_u : FR [3] u u := FR.rf
  unfold F_X11_find
  unfold B_X11_find_0
  refine wq_if.mpr ⟨fun h1 => ?_, fun h1 => ?_⟩
  · show wq _ _
    have f2 := i32_b (l1)
    have f3 : (0 : Int32).toInt = 0 := by decide
    have g4 := Int32.lt_iff_toInt_lt.mp h1
    exact wq_some.mpr ⟨U_u, H_u, Or.inl ⟨1, rfl, by decide⟩⟩
  · show wq _ _
    have f5 := i32_b (l1)
    have f6 : (0 : Int32).toInt = 0 := by decide
    have g7 := Int32.le_iff_toInt_le.mp (Int32.not_lt.mp h1)
    refine wq_if.mpr ⟨fun h8 => ?_, fun h8 => ?_⟩
    · show wq _ _
      have f9 : (4 : Int32).toInt = 4 := by decide
      have g10 := Int32.le_iff_toInt_le.mp h8
      have f11 : (0 : Int) ≤ (cI u 0).toInt ∧ (cI u 0).toInt ≤ (6000 : Int) := U_u.i  0
      refine wq_bcV (v_X9_isWord hN U_u (show 0 ≤ (cI u 0).toInt ∧ (cI u 0).toInt ≤ 6000 by omega)) (fun r_4 u_3 U_u_3 G_u_3 p12 => ?_)
      have H_u_3 := H_u.call G_u_3 (show ∀ k ∈ [3], k ∈ [3] by decide)
      try dsimp only at p12
      refine wq_if.mpr ⟨fun h13 => ?_, fun h13 => ?_⟩
      · show wq _ _
        have f14 := i32_b (r_4)
        have g15 := tI_eq.mp h13
        exact wq_some.mpr ⟨U_u_3, H_u_3, Or.inr ⟨_, rfl, trivial⟩⟩
      · show wq _ _
        have f16 := i32_b (r_4)
        have g17 := tI_ne h13
        have f18 : cR u_3 0 < 2 := U_u_3.r 0
        refine wq_ok.mpr ⟨by first | assumption | omega, ?_⟩
        have f19 : (0 : Int) ≤ (cI u_3 0).toInt ∧ (cI u_3 0).toInt ≤ (6000 : Int) := U_u_3.i  0
        have f20 : (cI u_3 0).toInt = (cI u 0).toInt := by rw [show cI u_3 0 = cI u 0 from G_u_3.1 0 (by decide)]
        refine wq_bcR (v_X9_wordHead hN U_u_3 ) (fun r_8 p21 => ?_)
        refine wq_bcR (v_X9_wordTail hN U_u_3 ) (fun r_10 p22 => ?_)
        have f23 := i32_b (r_10)
        refine wq_bcR (v_X6_ofText hN U_u_3 (show (cR u_3 0) < 2 by omega)) (fun r_12 p24 => ?_)
        try dsimp only at p24
        refine wq_ok.mpr ⟨by first | assumption | omega, ?_⟩
        refine wq_if.mpr ⟨fun h25 => ?_, fun h25 => ?_⟩
        · show wq _ _
          have f26 : (-2147483648 : Int) ≤ (mI u_3 r_12 2).toInt ∧ (mI u_3 r_12 2).toInt ≤ (2147483647 : Int) := U_u_3.m r_12 2
          have g27 := tI_eq.mp h25
          exact wq_some.mpr ⟨U_u_3, H_u_3, Or.inr ⟨_, rfl, trivial⟩⟩
        · show wq _ _
          have f28 : (-2147483648 : Int) ≤ (mI u_3 r_12 2).toInt ∧ (mI u_3 r_12 2).toInt ≤ (2147483647 : Int) := U_u_3.m r_12 2
          have g29 := tI_ne h25
          exact wq_some.mpr ⟨U_u_3, H_u_3, Or.inr ⟨_, rfl, trivial⟩⟩
    · show wq _ _
      have f30 : (4 : Int32).toInt = 4 := by decide
      have g31 := Int32.lt_iff_toInt_lt.mp (Int32.not_le.mp h8)
      exact wq_some.mpr ⟨U_u, H_u, Or.inl ⟨1, rfl, by decide⟩⟩
set_option maxHeartbeats 4000000 in
theorem v_X11_trace {N : Nat} {u : CSt} (hN : 5000000000 ≤ N) (U_u : UC u) {l1 : Int32} {l2 : Int32} {l3 : Int32} : wq (F_X11_trace N l1 l2 l3 u) (VS [9] [3, 0] (fun (r : Int32) (w : CSt) => True) u) := by
  have H_u : FR [9] u u := FR.rf
  unfold F_X11_trace
  unfold B_X11_trace_0
  have f1 := i32_b (l1)
  have f2 := i32_b (l2)
  refine wq_bcR (v_X11_hasPlace hN U_u ) (fun r_13 p3 => ?_)
  try dsimp only at p3
  refine wq_if.mpr ⟨fun h4 => ?_, fun h4 => ?_⟩
  · show wq _ _
    have f5 := i32_b (r_13)
    have f6 : (0 : Int32).toInt = 0 := by decide
    have g7 := tI_eq.mp h4
    exact wq_some.mpr ⟨U_u, H_u, Or.inl ⟨3, rfl, by decide⟩⟩
  · show wq _ _
    have f8 := i32_b (r_13)
    have f9 : (0 : Int32).toInt = 0 := by decide
    have g10 := tI_ne h4
    refine wq_bcR (v_X10_indexOf hN U_u ) (fun r_16 p11 => ?_)
    try dsimp only at p11
    refine wq_if.mpr ⟨fun h12 => ?_, fun h12 => ?_⟩
    · show wq _ _
      have f13 := i32_b (l3)
      have g14 := tI_eq.mp h12
      unfold B_X11_trace_63
      refine wq_if.mpr ⟨fun h15 => ?_, fun h15 => ?_⟩
      · show wq _ _
        have f16 := i32_b (r_16)
        have f17 : (-1 : Int32).toInt = -1 := by decide
        have g18 := tI_eq.mp h15
        unfold B_X11_trace_75
        refine wq_if.mpr ⟨fun h19 => ?_, fun h19 => ?_⟩
        · show wq _ _
          have g20 := tI_eq.mp h19
          exact wq_some.mpr ⟨U_u, H_u, Or.inr ⟨_, rfl, trivial⟩⟩
        · show wq _ _
          have g21 := tI_ne h19
          refine wq_if.mpr ⟨fun h22 => ?_, fun h22 => ?_⟩
          · show wq _ _
            have g23 := tI_eq.mp h22
            have f24 : (0 : Int) ≤ (cI u 9).toInt ∧ (cI u 9).toInt ≤ (16 : Int) := U_u.i  9
            refine wq_bcV (v_X10_leave hN U_u (show 0 < (cI u 9).toInt by omega) (show (r_16).toInt < 100 by omega)) (fun r25 u_3 U_u_3 G_u_3 p26 => ?_)
            have H_u_3 := H_u.call G_u_3 (show ∀ k ∈ [9], k ∈ [9] by decide)
            exact wq_some.mpr ⟨U_u_3, H_u_3, Or.inr ⟨_, rfl, trivial⟩⟩
          · show wq _ _
            have g27 := tI_ne h22
            have f28 : cR u 0 < 2 := U_u.r 0
            refine wq_ok.mpr ⟨by first | assumption | omega, ?_⟩
            refine wq_bcR (v_X6_nth hN U_u (show (cR u 0) < 2 by omega) (show 0 ≤ ((0 : Int32)).toInt ∧ ((0 : Int32)).toInt < 5 by omega)) (fun r_6 p29 => ?_)
            try dsimp only at p29
            refine wq_ok.mpr ⟨by first | assumption | omega, ?_⟩
            refine wq_bcR (v_X2_numberOf hN U_u ) (fun r_9 p30 => ?_)
            refine wq_bcV (v_X10_begin hN U_u ) (fun r31 u_10 U_u_10 G_u_10 p32 => ?_)
            have H_u_10 := H_u.call G_u_10 (show ∀ k ∈ [9], k ∈ [9] by decide)
            exact wq_some.mpr ⟨U_u_10, H_u_10, Or.inr ⟨_, rfl, trivial⟩⟩
      · show wq _ _
        have f33 := i32_b (r_16)
        have f34 : (-1 : Int32).toInt = -1 := by decide
        have g35 := tI_ne h15
        unfold B_X11_trace_75
        refine wq_if.mpr ⟨fun h36 => ?_, fun h36 => ?_⟩
        · show wq _ _
          have f37 : (1 : Int32).toInt = 1 := by decide
          have g38 := tI_eq.mp h36
          exact wq_some.mpr ⟨U_u, H_u, Or.inr ⟨_, rfl, trivial⟩⟩
        · show wq _ _
          have f39 : (1 : Int32).toInt = 1 := by decide
          have g40 := tI_ne h36
          refine wq_if.mpr ⟨fun h41 => ?_, fun h41 => ?_⟩
          · show wq _ _
            have g42 := tI_eq.mp h41
            have f43 : (0 : Int) ≤ (cI u 9).toInt ∧ (cI u 9).toInt ≤ (16 : Int) := U_u.i  9
            refine wq_bcV (v_X10_leave hN U_u (show 0 < (cI u 9).toInt by omega) (show (r_16).toInt < 100 by omega)) (fun r44 u_3 U_u_3 G_u_3 p45 => ?_)
            have H_u_3 := H_u.call G_u_3 (show ∀ k ∈ [9], k ∈ [9] by decide)
            exact wq_some.mpr ⟨U_u_3, H_u_3, Or.inr ⟨_, rfl, trivial⟩⟩
          · show wq _ _
            have g46 := tI_ne h41
            have f47 : cR u 0 < 2 := U_u.r 0
            refine wq_ok.mpr ⟨by first | assumption | omega, ?_⟩
            refine wq_bcR (v_X6_nth hN U_u (show (cR u 0) < 2 by omega) (show 0 ≤ ((0 : Int32)).toInt ∧ ((0 : Int32)).toInt < 5 by omega)) (fun r_6 p48 => ?_)
            try dsimp only at p48
            refine wq_ok.mpr ⟨by first | assumption | omega, ?_⟩
            refine wq_bcR (v_X2_numberOf hN U_u ) (fun r_9 p49 => ?_)
            refine wq_bcV (v_X10_begin hN U_u ) (fun r50 u_10 U_u_10 G_u_10 p51 => ?_)
            have H_u_10 := H_u.call G_u_10 (show ∀ k ∈ [9], k ∈ [9] by decide)
            exact wq_some.mpr ⟨U_u_10, H_u_10, Or.inr ⟨_, rfl, trivial⟩⟩
    · show wq _ _
      have f52 := i32_b (l3)
      have g53 := tI_ne h12
      refine wq_if.mpr ⟨fun h54 => ?_, fun h54 => ?_⟩
      · show wq _ _
        have f55 := i32_b (r_16)
        have f56 : (-1 : Int32).toInt = -1 := by decide
        have g57 := tI_eq.mp h54
        refine wq_if.mpr ⟨fun h58 => ?_, fun h58 => ?_⟩
        · show wq _ _
          have f59 : (0 : Int) ≤ (cI u 9).toInt ∧ (cI u 9).toInt ≤ (16 : Int) := U_u.i  9
          have f60 : (16 : Int32).toInt = 16 := by decide
          have g61 := Int32.lt_iff_toInt_lt.mp h58
          unfold B_X11_trace_63
          refine wq_if.mpr ⟨fun h62 => ?_, fun h62 => ?_⟩
          · show wq _ _
            have g63 := tI_eq.mp h62
            unfold B_X11_trace_75
            refine wq_if.mpr ⟨fun h64 => ?_, fun h64 => ?_⟩
            · show wq _ _
              have g65 := tI_eq.mp h64
              exact wq_some.mpr ⟨U_u, H_u, Or.inr ⟨_, rfl, trivial⟩⟩
            · show wq _ _
              have g66 := tI_ne h64
              refine wq_if.mpr ⟨fun h67 => ?_, fun h67 => ?_⟩
              · show wq _ _
                have g68 := tI_eq.mp h67
                refine wq_bcV (v_X10_leave hN U_u (show 0 < (cI u 9).toInt by omega) (show (r_16).toInt < 100 by omega)) (fun r69 u_3 U_u_3 G_u_3 p70 => ?_)
                have H_u_3 := H_u.call G_u_3 (show ∀ k ∈ [9], k ∈ [9] by decide)
                exact wq_some.mpr ⟨U_u_3, H_u_3, Or.inr ⟨_, rfl, trivial⟩⟩
              · show wq _ _
                have g71 := tI_ne h67
                have f72 : cR u 0 < 2 := U_u.r 0
                refine wq_ok.mpr ⟨by first | assumption | omega, ?_⟩
                refine wq_bcR (v_X6_nth hN U_u (show (cR u 0) < 2 by omega) (show 0 ≤ ((0 : Int32)).toInt ∧ ((0 : Int32)).toInt < 5 by omega)) (fun r_6 p73 => ?_)
                try dsimp only at p73
                refine wq_ok.mpr ⟨by first | assumption | omega, ?_⟩
                refine wq_bcR (v_X2_numberOf hN U_u ) (fun r_9 p74 => ?_)
                refine wq_bcV (v_X10_begin hN U_u ) (fun r75 u_10 U_u_10 G_u_10 p76 => ?_)
                have H_u_10 := H_u.call G_u_10 (show ∀ k ∈ [9], k ∈ [9] by decide)
                exact wq_some.mpr ⟨U_u_10, H_u_10, Or.inr ⟨_, rfl, trivial⟩⟩
          · show wq _ _
            have g77 := tI_ne h62
            unfold B_X11_trace_75
            refine wq_if.mpr ⟨fun h78 => ?_, fun h78 => ?_⟩
            · show wq _ _
              have f79 : (1 : Int32).toInt = 1 := by decide
              have g80 := tI_eq.mp h78
              exact wq_some.mpr ⟨U_u, H_u, Or.inr ⟨_, rfl, trivial⟩⟩
            · show wq _ _
              have f81 : (1 : Int32).toInt = 1 := by decide
              have g82 := tI_ne h78
              refine wq_if.mpr ⟨fun h83 => ?_, fun h83 => ?_⟩
              · show wq _ _
                have g84 := tI_eq.mp h83
                refine wq_bcV (v_X10_leave hN U_u (show 0 < (cI u 9).toInt by omega) (show (r_16).toInt < 100 by omega)) (fun r85 u_3 U_u_3 G_u_3 p86 => ?_)
                have H_u_3 := H_u.call G_u_3 (show ∀ k ∈ [9], k ∈ [9] by decide)
                exact wq_some.mpr ⟨U_u_3, H_u_3, Or.inr ⟨_, rfl, trivial⟩⟩
              · show wq _ _
                have g87 := tI_ne h83
                have f88 : cR u 0 < 2 := U_u.r 0
                refine wq_ok.mpr ⟨by first | assumption | omega, ?_⟩
                refine wq_bcR (v_X6_nth hN U_u (show (cR u 0) < 2 by omega) (show 0 ≤ ((0 : Int32)).toInt ∧ ((0 : Int32)).toInt < 5 by omega)) (fun r_6 p89 => ?_)
                try dsimp only at p89
                refine wq_ok.mpr ⟨by first | assumption | omega, ?_⟩
                refine wq_bcR (v_X2_numberOf hN U_u ) (fun r_9 p90 => ?_)
                refine wq_bcV (v_X10_begin hN U_u ) (fun r91 u_10 U_u_10 G_u_10 p92 => ?_)
                have H_u_10 := H_u.call G_u_10 (show ∀ k ∈ [9], k ∈ [9] by decide)
                exact wq_some.mpr ⟨U_u_10, H_u_10, Or.inr ⟨_, rfl, trivial⟩⟩
        · show wq _ _
          have f93 : (0 : Int) ≤ (cI u 9).toInt ∧ (cI u 9).toInt ≤ (16 : Int) := U_u.i  9
          have f94 : (16 : Int32).toInt = 16 := by decide
          have g95 := Int32.le_iff_toInt_le.mp (Int32.not_lt.mp h58)
          exact wq_some.mpr ⟨U_u, H_u, Or.inl ⟨0, rfl, by decide⟩⟩
      · show wq _ _
        have f96 := i32_b (r_16)
        have f97 : (-1 : Int32).toInt = -1 := by decide
        have g98 := tI_ne h54
        unfold B_X11_trace_63
        refine wq_if.mpr ⟨fun h99 => ?_, fun h99 => ?_⟩
        · show wq _ _
          have g100 := tI_eq.mp h99
          unfold B_X11_trace_75
          refine wq_if.mpr ⟨fun h101 => ?_, fun h101 => ?_⟩
          · show wq _ _
            have g102 := tI_eq.mp h101
            exact wq_some.mpr ⟨U_u, H_u, Or.inr ⟨_, rfl, trivial⟩⟩
          · show wq _ _
            have g103 := tI_ne h101
            refine wq_if.mpr ⟨fun h104 => ?_, fun h104 => ?_⟩
            · show wq _ _
              have g105 := tI_eq.mp h104
              have f106 : (0 : Int) ≤ (cI u 9).toInt ∧ (cI u 9).toInt ≤ (16 : Int) := U_u.i  9
              refine wq_bcV (v_X10_leave hN U_u (show 0 < (cI u 9).toInt by omega) (show (r_16).toInt < 100 by omega)) (fun r107 u_3 U_u_3 G_u_3 p108 => ?_)
              have H_u_3 := H_u.call G_u_3 (show ∀ k ∈ [9], k ∈ [9] by decide)
              exact wq_some.mpr ⟨U_u_3, H_u_3, Or.inr ⟨_, rfl, trivial⟩⟩
            · show wq _ _
              have g109 := tI_ne h104
              have f110 : cR u 0 < 2 := U_u.r 0
              refine wq_ok.mpr ⟨by first | assumption | omega, ?_⟩
              refine wq_bcR (v_X6_nth hN U_u (show (cR u 0) < 2 by omega) (show 0 ≤ ((0 : Int32)).toInt ∧ ((0 : Int32)).toInt < 5 by omega)) (fun r_6 p111 => ?_)
              try dsimp only at p111
              refine wq_ok.mpr ⟨by first | assumption | omega, ?_⟩
              refine wq_bcR (v_X2_numberOf hN U_u ) (fun r_9 p112 => ?_)
              refine wq_bcV (v_X10_begin hN U_u ) (fun r113 u_10 U_u_10 G_u_10 p114 => ?_)
              have H_u_10 := H_u.call G_u_10 (show ∀ k ∈ [9], k ∈ [9] by decide)
              exact wq_some.mpr ⟨U_u_10, H_u_10, Or.inr ⟨_, rfl, trivial⟩⟩
        · show wq _ _
          have g115 := tI_ne h99
          unfold B_X11_trace_75
          refine wq_if.mpr ⟨fun h116 => ?_, fun h116 => ?_⟩
          · show wq _ _
            have f117 : (1 : Int32).toInt = 1 := by decide
            have g118 := tI_eq.mp h116
            exact wq_some.mpr ⟨U_u, H_u, Or.inr ⟨_, rfl, trivial⟩⟩
          · show wq _ _
            have f119 : (1 : Int32).toInt = 1 := by decide
            have g120 := tI_ne h116
            refine wq_if.mpr ⟨fun h121 => ?_, fun h121 => ?_⟩
            · show wq _ _
              have g122 := tI_eq.mp h121
              have f123 : (0 : Int) ≤ (cI u 9).toInt ∧ (cI u 9).toInt ≤ (16 : Int) := U_u.i  9
              refine wq_bcV (v_X10_leave hN U_u (show 0 < (cI u 9).toInt by omega) (show (r_16).toInt < 100 by omega)) (fun r124 u_3 U_u_3 G_u_3 p125 => ?_)
              have H_u_3 := H_u.call G_u_3 (show ∀ k ∈ [9], k ∈ [9] by decide)
              exact wq_some.mpr ⟨U_u_3, H_u_3, Or.inr ⟨_, rfl, trivial⟩⟩
            · show wq _ _
              have g126 := tI_ne h121
              have f127 : cR u 0 < 2 := U_u.r 0
              refine wq_ok.mpr ⟨by first | assumption | omega, ?_⟩
              refine wq_bcR (v_X6_nth hN U_u (show (cR u 0) < 2 by omega) (show 0 ≤ ((0 : Int32)).toInt ∧ ((0 : Int32)).toInt < 5 by omega)) (fun r_6 p128 => ?_)
              try dsimp only at p128
              refine wq_ok.mpr ⟨by first | assumption | omega, ?_⟩
              refine wq_bcR (v_X2_numberOf hN U_u ) (fun r_9 p129 => ?_)
              refine wq_bcV (v_X10_begin hN U_u ) (fun r130 u_10 U_u_10 G_u_10 p131 => ?_)
              have H_u_10 := H_u.call G_u_10 (show ∀ k ∈ [9], k ∈ [9] by decide)
              exact wq_some.mpr ⟨U_u_10, H_u_10, Or.inr ⟨_, rfl, trivial⟩⟩
set_option maxHeartbeats 4000000 in
theorem v_X11_event {N : Nat} {u : CSt} (hN : 5000000000 ≤ N) (U_u : UC u) {l1 : Int32} {l2 : Int32} : wq (F_X11_event N l1 l2 u) (VS [] [3, 1] (fun (r : Int64) (w : CSt) => True) u) := by
  have H_u : FR [] u u := FR.rf
  unfold F_X11_event
  unfold B_X11_event_0
  refine wq_if.mpr ⟨fun h1 => ?_, fun h1 => ?_⟩
  · show wq _ _
    have f2 := i32_b (l1)
    have f3 : (0 : Int32).toInt = 0 := by decide
    have g4 := Int32.lt_iff_toInt_lt.mp h1
    exact wq_some.mpr ⟨U_u, H_u, Or.inl ⟨3, rfl, by decide⟩⟩
  · show wq _ _
    have f5 := i32_b (l1)
    have f6 : (0 : Int32).toInt = 0 := by decide
    have g7 := Int32.le_iff_toInt_le.mp (Int32.not_lt.mp h1)
    refine wq_if.mpr ⟨fun h8 => ?_, fun h8 => ?_⟩
    · show wq _ _
      have f9 : (0 : Int) ≤ (cI u 10).toInt ∧ (cI u 10).toInt ≤ (100 : Int) := U_u.i  10
      have g10 := Int32.lt_iff_toInt_lt.mp h8
      refine wq_bcR (v_X10_latest hN U_u (show 0 ≤ (l1).toInt ∧ (l1).toInt < 100 by omega)) (fun r_4 p11 => ?_)
      try dsimp only at p11
      refine wq_if.mpr ⟨fun h12 => ?_, fun h12 => ?_⟩
      · show wq _ _
        have f13 := i32_b (l2)
        have g14 := tI_eq.mp h12
        have f15 := i32_b (r_4)
        have x16 : vp_in (r_4) 100 := vin_iff.mpr ⟨by omega, by omega⟩
        refine wq_rdU x16 (fun v_7 e_v_7 => ?_)
        exact wq_some.mpr ⟨U_u, H_u, Or.inr ⟨_, rfl, trivial⟩⟩
      · show wq _ _
        have f17 := i32_b (l2)
        have g18 := tI_ne h12
        refine wq_if.mpr ⟨fun h19 => ?_, fun h19 => ?_⟩
        · show wq _ _
          have f20 : (1 : Int32).toInt = 1 := by decide
          have g21 := tI_eq.mp h19
          have f22 := i32_b (r_4)
          have x23 : vp_in (r_4) 100 := vin_iff.mpr ⟨by omega, by omega⟩
          refine wq_rdU x23 (fun v_10 e_v_10 => ?_)
          exact wq_some.mpr ⟨U_u, H_u, Or.inr ⟨_, rfl, trivial⟩⟩
        · show wq _ _
          have f24 : (1 : Int32).toInt = 1 := by decide
          have g25 := tI_ne h19
          refine wq_if.mpr ⟨fun h26 => ?_, fun h26 => ?_⟩
          · show wq _ _
            have f27 : (2 : Int32).toInt = 2 := by decide
            have g28 := tI_eq.mp h26
            have f29 := i32_b (r_4)
            have x30 : vp_in (r_4) 100 := vin_iff.mpr ⟨by omega, by omega⟩
            refine wq_rdU x30 (fun v_13 e_v_13 => ?_)
            exact wq_some.mpr ⟨U_u, H_u, Or.inr ⟨_, rfl, trivial⟩⟩
          · show wq _ _
            have f31 : (2 : Int32).toInt = 2 := by decide
            have g32 := tI_ne h26
            refine wq_if.mpr ⟨fun h33 => ?_, fun h33 => ?_⟩
            · show wq _ _
              have f34 : (3 : Int32).toInt = 3 := by decide
              have g35 := tI_eq.mp h33
              have f36 := i32_b (r_4)
              have x37 : vp_in (r_4) 100 := vin_iff.mpr ⟨by omega, by omega⟩
              refine wq_rdU x37 (fun v_16 e_v_16 => ?_)
              exact wq_some.mpr ⟨U_u, H_u, Or.inr ⟨_, rfl, trivial⟩⟩
            · show wq _ _
              have f38 : (3 : Int32).toInt = 3 := by decide
              have g39 := tI_ne h33
              exact wq_some.mpr ⟨U_u, H_u, Or.inl ⟨1, rfl, by decide⟩⟩
    · show wq _ _
      have f40 : (0 : Int) ≤ (cI u 10).toInt ∧ (cI u 10).toInt ≤ (100 : Int) := U_u.i  10
      have g41 := Int32.le_iff_toInt_le.mp (Int32.not_lt.mp h8)
      exact wq_some.mpr ⟨U_u, H_u, Or.inl ⟨3, rfl, by decide⟩⟩
set_option maxHeartbeats 4000000 in
theorem v_X11_count {N : Nat} {u : CSt} (hN : 5000000000 ≤ N) (U_u : UC u) {l1 : Int32} : wq (F_X11_count N l1 u) (VS [] [1] (fun (r : Int32) (w : CSt) => True) u) := by
  have H_u : FR [] u u := FR.rf
  unfold F_X11_count
  unfold B_X11_count_0
  refine wq_if.mpr ⟨fun h1 => ?_, fun h1 => ?_⟩
  · show wq _ _
    have f2 := i32_b (l1)
    have f3 : (0 : Int32).toInt = 0 := by decide
    have g4 := tI_eq.mp h1
    have f5 : cR u 0 < 2 := U_u.r 0
    refine wq_ok.mpr ⟨by first | assumption | omega, ?_⟩
    refine wq_bcR (v_X6_ofSort hN U_u (show 0 ≤ (l1).toInt ∧ (l1).toInt < 5 by omega)) (fun r_4 p6 => ?_)
    try dsimp only at p6
    exact wq_some.mpr ⟨U_u, H_u, Or.inr ⟨_, rfl, trivial⟩⟩
  · show wq _ _
    have f7 := i32_b (l1)
    have f8 : (0 : Int32).toInt = 0 := by decide
    have g9 := tI_ne h1
    refine wq_if.mpr ⟨fun h10 => ?_, fun h10 => ?_⟩
    · show wq _ _
      have f11 : (1 : Int32).toInt = 1 := by decide
      have g12 := tI_eq.mp h10
      have f13 : cR u 0 < 2 := U_u.r 0
      refine wq_ok.mpr ⟨by first | assumption | omega, ?_⟩
      refine wq_bcR (v_X6_ofSort hN U_u (show 0 ≤ (l1).toInt ∧ (l1).toInt < 5 by omega)) (fun r_8 p14 => ?_)
      try dsimp only at p14
      exact wq_some.mpr ⟨U_u, H_u, Or.inr ⟨_, rfl, trivial⟩⟩
    · show wq _ _
      have f15 : (1 : Int32).toInt = 1 := by decide
      have g16 := tI_ne h10
      refine wq_if.mpr ⟨fun h17 => ?_, fun h17 => ?_⟩
      · show wq _ _
        have f18 : (2 : Int32).toInt = 2 := by decide
        have g19 := tI_eq.mp h17
        have f20 : cR u 0 < 2 := U_u.r 0
        refine wq_ok.mpr ⟨by first | assumption | omega, ?_⟩
        refine wq_bcR (v_X6_ofSort hN U_u (show 0 ≤ (l1).toInt ∧ (l1).toInt < 5 by omega)) (fun r_12 p21 => ?_)
        try dsimp only at p21
        exact wq_some.mpr ⟨U_u, H_u, Or.inr ⟨_, rfl, trivial⟩⟩
      · show wq _ _
        have f22 : (2 : Int32).toInt = 2 := by decide
        have g23 := tI_ne h17
        refine wq_if.mpr ⟨fun h24 => ?_, fun h24 => ?_⟩
        · show wq _ _
          have f25 : (3 : Int32).toInt = 3 := by decide
          have g26 := tI_eq.mp h24
          have f27 : cR u 0 < 2 := U_u.r 0
          refine wq_ok.mpr ⟨by first | assumption | omega, ?_⟩
          refine wq_bcR (v_X6_ofSort hN U_u (show 0 ≤ (l1).toInt ∧ (l1).toInt < 5 by omega)) (fun r_16 p28 => ?_)
          try dsimp only at p28
          exact wq_some.mpr ⟨U_u, H_u, Or.inr ⟨_, rfl, trivial⟩⟩
        · show wq _ _
          have f29 : (3 : Int32).toInt = 3 := by decide
          have g30 := tI_ne h24
          refine wq_if.mpr ⟨fun h31 => ?_, fun h31 => ?_⟩
          · show wq _ _
            have f32 : (4 : Int32).toInt = 4 := by decide
            have g33 := tI_eq.mp h31
            have f34 : cR u 0 < 2 := U_u.r 0
            refine wq_ok.mpr ⟨by first | assumption | omega, ?_⟩
            refine wq_bcR (v_X6_ofSort hN U_u (show 0 ≤ (l1).toInt ∧ (l1).toInt < 5 by omega)) (fun r_20 p35 => ?_)
            try dsimp only at p35
            exact wq_some.mpr ⟨U_u, H_u, Or.inr ⟨_, rfl, trivial⟩⟩
          · show wq _ _
            have f36 : (4 : Int32).toInt = 4 := by decide
            have g37 := tI_ne h31
            refine wq_if.mpr ⟨fun h38 => ?_, fun h38 => ?_⟩
            · show wq _ _
              have f39 : (5 : Int32).toInt = 5 := by decide
              have g40 := tI_eq.mp h38
              exact wq_some.mpr ⟨U_u, H_u, Or.inr ⟨_, rfl, trivial⟩⟩
            · show wq _ _
              have f41 : (5 : Int32).toInt = 5 := by decide
              have g42 := tI_ne h38
              refine wq_if.mpr ⟨fun h43 => ?_, fun h43 => ?_⟩
              · show wq _ _
                have f44 : (6 : Int32).toInt = 6 := by decide
                have g45 := tI_eq.mp h43
                have f46 : cR u 0 < 2 := U_u.r 0
                refine wq_ok.mpr ⟨by first | assumption | omega, ?_⟩
                refine wq_bcR (v_X6_stoppedTasks hN U_u ) (fun r_25 p47 => ?_)
                exact wq_some.mpr ⟨U_u, H_u, Or.inr ⟨_, rfl, trivial⟩⟩
              · show wq _ _
                have f48 : (6 : Int32).toInt = 6 := by decide
                have g49 := tI_ne h43
                refine wq_if.mpr ⟨fun h50 => ?_, fun h50 => ?_⟩
                · show wq _ _
                  have f51 : (7 : Int32).toInt = 7 := by decide
                  have g52 := tI_eq.mp h50
                  exact wq_some.mpr ⟨U_u, H_u, Or.inr ⟨_, rfl, trivial⟩⟩
                · show wq _ _
                  have f53 : (7 : Int32).toInt = 7 := by decide
                  have g54 := tI_ne h50
                  refine wq_if.mpr ⟨fun h55 => ?_, fun h55 => ?_⟩
                  · show wq _ _
                    have f56 : (8 : Int32).toInt = 8 := by decide
                    have g57 := tI_eq.mp h55
                    exact wq_some.mpr ⟨U_u, H_u, Or.inr ⟨_, rfl, trivial⟩⟩
                  · show wq _ _
                    have f58 : (8 : Int32).toInt = 8 := by decide
                    have g59 := tI_ne h55
                    refine wq_if.mpr ⟨fun h60 => ?_, fun h60 => ?_⟩
                    · show wq _ _
                      have f61 : (9 : Int32).toInt = 9 := by decide
                      have g62 := tI_eq.mp h60
                      exact wq_some.mpr ⟨U_u, H_u, Or.inr ⟨_, rfl, trivial⟩⟩
                    · show wq _ _
                      have f63 : (9 : Int32).toInt = 9 := by decide
                      have g64 := tI_ne h60
                      refine wq_if.mpr ⟨fun h65 => ?_, fun h65 => ?_⟩
                      · show wq _ _
                        have f66 : (10 : Int32).toInt = 10 := by decide
                        have g67 := tI_eq.mp h65
                        exact wq_some.mpr ⟨U_u, H_u, Or.inr ⟨_, rfl, trivial⟩⟩
                      · show wq _ _
                        have f68 : (10 : Int32).toInt = 10 := by decide
                        have g69 := tI_ne h65
                        exact wq_some.mpr ⟨U_u, H_u, Or.inl ⟨1, rfl, by decide⟩⟩
set_option maxHeartbeats 4000000 in
theorem v_X11_sum {N : Nat} {u : CSt} (hN : 5000000000 ≤ N) (U_u : UC u)  : wq (F_X11_sum N  u) (VR (fun (r : Int64) => True) u) := by
  have H_u : FR [] u u := FR.rf
  unfold F_X11_sum
  unfold B_X11_sum_0
  have f2 : (0 : Int32).toInt = 0 := by decide
  unfold LP_X11_sum_4
  refine wq_lp (fun (d : Nat) (a : Int64 × Int32 × CSt) => a.2.2 = u ∧ 0 ≤ a.2.1.toInt ∧ d = (2147483648 - a.2.1.toInt).toNat) ?_ _ ((2147483648 - ((0 : Int32)).toInt).toNat) _ (by omega) ⟨rfl, (show 0 ≤ ((0 : Int32)).toInt by omega), rfl⟩
  rintro d_1 R_1 ⟨l1_1, l3_1, u_1⟩ ⟨e_1, i_1_0, m_1⟩ ih_1
  have e_1 : u = u_1 := Eq.symm e_1
  subst e_1
  have i_1_0 : 0 ≤ l3_1.toInt := i_1_0
  have m_1 : d_1 = (2147483648 - l3_1.toInt).toNat := m_1
  show wq (B_X11_sum_4 N R_1 (l1_1) (l3_1) u) _
  unfold B_X11_sum_4
  have f3 : cR u 0 < 2 := U_u.r 0
  refine wq_ok.mpr ⟨by first | assumption | omega, ?_⟩
  refine wq_bcR (v_X6_ofSort hN U_u (show 0 ≤ ((0 : Int32)).toInt ∧ ((0 : Int32)).toInt < 5 by omega)) (fun r_21 p4 => ?_)
  try dsimp only at p4
  refine wq_if.mpr ⟨fun h5 => ?_, fun h5 => ?_⟩
  · show wq _ _
    have f6 := i32_b (r_21)
    have f7 := i32_b (l3_1)
    have g8 := Int32.le_iff_toInt_le.mp h5
    unfold LP_X11_sum_72
    refine wq_lp (fun (d : Nat) (a : Int64 × Int32 × CSt) => a.2.2 = u ∧ 0 ≤ a.2.1.toInt ∧ d = (2147483648 - a.2.1.toInt).toNat) ?_ _ ((2147483648 - ((0 : Int32)).toInt).toNat) _ (by omega) ⟨rfl, (show 0 ≤ ((0 : Int32)).toInt by omega), rfl⟩
    rintro d_9 R_9 ⟨l1_9, l3_9, u_9⟩ ⟨e_9, i_9_0, m_9⟩ ih_9
    have e_9 : u = u_9 := Eq.symm e_9
    subst e_9
    have i_9_0 : 0 ≤ l3_9.toInt := i_9_0
    have m_9 : d_9 = (2147483648 - l3_9.toInt).toNat := m_9
    show wq (B_X11_sum_72 N R_9 (l1_9) (l3_9) u) _
    unfold B_X11_sum_72
    refine wq_ok.mpr ⟨by first | assumption | omega, ?_⟩
    have f10 : (1 : Int32).toInt = 1 := by decide
    refine wq_bcR (v_X6_ofSort hN U_u (show 0 ≤ ((1 : Int32)).toInt ∧ ((1 : Int32)).toInt < 5 by omega)) (fun r_9 p11 => ?_)
    try dsimp only at p11
    refine wq_if.mpr ⟨fun h12 => ?_, fun h12 => ?_⟩
    · show wq _ _
      have f13 := i32_b (r_9)
      have f14 := i32_b (l3_9)
      have g15 := Int32.le_iff_toInt_le.mp h12
      exact wq_some.mpr ⟨rfl, trivial⟩
    · show wq _ _
      have f16 := i32_b (r_9)
      have f17 := i32_b (l3_9)
      have g18 := Int32.lt_iff_toInt_lt.mp (Int32.not_le.mp h12)
      refine wq_ok.mpr ⟨by first | assumption | omega, ?_⟩
      refine wq_bcR (v_X6_nth hN U_u (show (cR u 0) < 2 by omega) (show 0 ≤ ((1 : Int32)).toInt ∧ ((1 : Int32)).toInt < 5 by omega)) (fun r_13 p19 => ?_)
      try dsimp only at p19
      refine wq_ok.mpr ⟨by first | assumption | omega, ?_⟩
      refine wq_ok.mpr ⟨by first | assumption | omega, ?_⟩
      have f20 : (-2147483648 : Int) ≤ (mI u r_13 14).toInt ∧ (mI u r_13 14).toInt ≤ (2147483647 : Int) := U_u.m r_13 14
      refine wq_bcR (v_X6_name hN U_u (show (cR u 0) < 2 by omega)) (fun r_17 p21 => ?_)
      try dsimp only at p21
      refine wq_ok.mpr ⟨by first | assumption | omega, ?_⟩
      have f23 : (0 : Int) ≤ (mI u r_17 7).toInt ∧ (mI u r_17 7).toInt ≤ (300 : Int) := U_u.m r_17 7
      unfold LP_X11_sum_115
      refine wq_lp (fun (d : Nat) (a : Int64 × Int32 × Nat × Int32 × Int32 × CSt) => a.2.2.2.2.2 = u ∧ a.2.1 = l3_9 ∧ a.2.2.1 = r_13 ∧ a.2.2.2.1 = mI u r_17 7 ∧ 0 ≤ a.2.2.2.2.1.toInt ∧ d = (2147483648 - a.2.2.2.2.1.toInt).toNat) ?_ _ ((2147483648 - ((0 : Int32)).toInt).toNat) _ (by omega) ⟨rfl, rfl, rfl, rfl, (show 0 ≤ ((0 : Int32)).toInt by omega), rfl⟩
      rintro d_22 R_22 ⟨l1_22, l3_22, l4_22, l5_22, l6_22, u_22⟩ ⟨e_22, k_22_0, k_22_1, k_22_2, i_22_0, m_22⟩ ih_22
      have e_22 : u = u_22 := Eq.symm e_22
      subst e_22
      have k_22_0 : l3_9 = l3_22 := Eq.symm k_22_0
      subst k_22_0
      have k_22_1 : r_13 = l4_22 := Eq.symm k_22_1
      subst k_22_1
      have k_22_2 : mI u r_17 7 = l5_22 := Eq.symm k_22_2
      subst k_22_2
      have i_22_0 : 0 ≤ l6_22.toInt := i_22_0
      have m_22 : d_22 = (2147483648 - l6_22.toInt).toNat := m_22
      show wq (B_X11_sum_115 N R_9 R_22 (l1_22) (l3_9) (r_13) (mI u r_17 7) (l6_22) u) _
      unfold B_X11_sum_115
      refine wq_if.mpr ⟨fun h24 => ?_, fun h24 => ?_⟩
      · show wq _ _
        have f25 := i32_b (l6_22)
        have g26 := Int32.le_iff_toInt_le.mp h24
        have f27 := tI_ad (l3_9) (1)
        have f28 := i32_b (l3_9 + 1)
        exact ih_9 ((2147483648 - (l3_9 + 1).toInt).toNat) (l1_22, l3_9 + 1, u) (by omega) ⟨rfl, (show 0 ≤ (l3_9 + 1).toInt by omega), rfl⟩
      · show wq _ _
        have f29 := i32_b (l6_22)
        have g30 := Int32.lt_iff_toInt_lt.mp (Int32.not_le.mp h24)
        have f31 : (0 : Int) ≤ (mI u r_13 9).toInt ∧ (mI u r_13 9).toInt ≤ (3500 : Int) := U_u.m r_13 9
        have f32 := tI_ad (mI u r_13 9) (l6_22)
        have f33 := i32_b ((mI u r_13 9) + l6_22)
        refine wq_bcR (v_X2_numberAt hN U_u ) (fun r_6 p34 => ?_)
        have f35 := tI_ad (l6_22) (1)
        have f36 := i32_b (l6_22 + 1)
        exact ih_22 ((2147483648 - (l6_22 + 1).toInt).toNat) ((31 * l1_22) + r_6, l3_9, r_13, (mI u r_17 7), l6_22 + 1, u) (by omega) ⟨rfl, rfl, rfl, rfl, (show 0 ≤ (l6_22 + 1).toInt by omega), rfl⟩
  · show wq _ _
    have f37 := i32_b (r_21)
    have f38 := i32_b (l3_1)
    have g39 := Int32.lt_iff_toInt_lt.mp (Int32.not_le.mp h5)
    refine wq_ok.mpr ⟨by first | assumption | omega, ?_⟩
    refine wq_bcR (v_X6_nth hN U_u (show (cR u 0) < 2 by omega) (show 0 ≤ ((0 : Int32)).toInt ∧ ((0 : Int32)).toInt < 5 by omega)) (fun r_25 p40 => ?_)
    try dsimp only at p40
    refine wq_ok.mpr ⟨by first | assumption | omega, ?_⟩
    unfold LP_X11_sum_30
    refine wq_lp (fun (d : Nat) (a : Int64 × Int32 × Nat × Int32 × CSt) => a.2.2.2.2 = u ∧ a.2.1 = l3_1 ∧ a.2.2.1 = r_25 ∧ 0 ≤ a.2.2.2.1.toInt ∧ d = (2147483648 - a.2.2.2.1.toInt).toNat) ?_ _ ((2147483648 - ((0 : Int32)).toInt).toNat) _ (by omega) ⟨rfl, rfl, rfl, (show 0 ≤ ((0 : Int32)).toInt by omega), rfl⟩
    rintro d_41 R_41 ⟨l1_41, l3_41, l4_41, l5_41, u_41⟩ ⟨e_41, k_41_0, k_41_1, i_41_0, m_41⟩ ih_41
    have e_41 : u = u_41 := Eq.symm e_41
    subst e_41
    have k_41_0 : l3_1 = l3_41 := Eq.symm k_41_0
    subst k_41_0
    have k_41_1 : r_25 = l4_41 := Eq.symm k_41_1
    subst k_41_1
    have i_41_0 : 0 ≤ l5_41.toInt := i_41_0
    have m_41 : d_41 = (2147483648 - l5_41.toInt).toNat := m_41
    show wq (B_X11_sum_30 N R_1 R_41 (l1_41) (l3_1) (r_25) (l5_41) u) _
    unfold B_X11_sum_30
    refine wq_if.mpr ⟨fun h42 => ?_, fun h42 => ?_⟩
    · show wq _ _
      have f43 : (0 : Int) ≤ (mI u r_25 7).toInt ∧ (mI u r_25 7).toInt ≤ (300 : Int) := U_u.m r_25 7
      have f44 := i32_b (l5_41)
      have g45 := Int32.le_iff_toInt_le.mp h42
      have f46 : (1 : Int32).toInt = 1 := by decide
      have f47 := tI_ad (l3_1) (1)
      have f48 := i32_b (l3_1 + 1)
      exact ih_1 ((2147483648 - (l3_1 + 1).toInt).toNat) (l1_41, l3_1 + 1, u) (by omega) ⟨rfl, (show 0 ≤ (l3_1 + 1).toInt by omega), rfl⟩
    · show wq _ _
      have f49 : (0 : Int) ≤ (mI u r_25 7).toInt ∧ (mI u r_25 7).toInt ≤ (300 : Int) := U_u.m r_25 7
      have f50 := i32_b (l5_41)
      have g51 := Int32.lt_iff_toInt_lt.mp (Int32.not_le.mp h42)
      refine wq_bcR (v_X2_numberOf hN U_u ) (fun r_3 p52 => ?_)
      have f53 : (1 : Int32).toInt = 1 := by decide
      have f54 := tI_ad (l5_41) (1)
      have f55 := i32_b (l5_41 + 1)
      exact ih_41 ((2147483648 - (l5_41 + 1).toInt).toNat) ((31 * l1_41) + r_3, l3_1, r_25, l5_41 + 1, u) (by omega) ⟨rfl, rfl, rfl, (show 0 ≤ (l5_41 + 1).toInt by omega), rfl⟩
set_option maxHeartbeats 4000000 in
theorem v_X11_cut {N : Nat} {u : CSt} (hN : 5000000000 ≤ N) (U_u : UC u) {l1 : Int32} {l2 : Int64} : wq (F_X11_cut N l1 l2 u) (VS [] [1] (fun (r : Int64) (w : CSt) => True) u) := by
  have H_u : FR [] u u := FR.rf
  unfold F_X11_cut
  unfold B_X11_cut_0
  refine wq_if.mpr ⟨fun h1 => ?_, fun h1 => ?_⟩
  · show wq _ _
    have f2 := i32_b ((n_isKind l1))
    have f3 : (0 : Int32).toInt = 0 := by decide
    have g4 := tI_eq.mp h1
    exact wq_some.mpr ⟨U_u, H_u, Or.inl ⟨1, rfl, by decide⟩⟩
  · show wq _ _
    have f5 := i32_b ((n_isKind l1))
    have f6 : (0 : Int32).toInt = 0 := by decide
    have g7 := tI_ne h1
    exact wq_some.mpr ⟨U_u, H_u, Or.inr ⟨_, rfl, trivial⟩⟩
set_option maxHeartbeats 4000000 in
theorem v_X11_work {N : Nat} {u : CSt} (hN : 5000000000 ≤ N) (U_u : UC u) {l1 : Int32} {l2 : Int32} {l3 : Int32} {l4 : Int64} {l6 : Int64} : wq (F_X11_work N l1 l2 l3 l4 l6 u) (VS [] [1, 5] (fun (r : Int64) (w : CSt) => True) u) := by
  have H_u : FR [] u u := FR.rf
  unfold F_X11_work
  unfold B_X11_work_0
  refine wq_if.mpr ⟨fun h1 => ?_, fun h1 => ?_⟩
  · show wq _ _
    have f2 := i32_b ((n_isKind l2))
    have f3 : (0 : Int32).toInt = 0 := by decide
    have g4 := tI_eq.mp h1
    exact wq_some.mpr ⟨U_u, H_u, Or.inl ⟨1, rfl, by decide⟩⟩
  · show wq _ _
    have f5 := i32_b ((n_isKind l2))
    have f6 : (0 : Int32).toInt = 0 := by decide
    have g7 := tI_ne h1
    refine wq_if.mpr ⟨fun h8 => ?_, fun h8 => ?_⟩
    · show wq _ _
      have f9 := i32_b ((n_isKind l3))
      have g10 := tI_eq.mp h8
      exact wq_some.mpr ⟨U_u, H_u, Or.inl ⟨1, rfl, by decide⟩⟩
    · show wq _ _
      have f11 := i32_b ((n_isKind l3))
      have g12 := tI_ne h8
      refine wq_if.mpr ⟨fun h13 => ?_, fun h13 => ?_⟩
      · show wq _ _
        have f14 := i32_b (l1)
        have g15 := Int32.lt_iff_toInt_lt.mp h13
        exact wq_some.mpr ⟨U_u, H_u, Or.inl ⟨1, rfl, by decide⟩⟩
      · show wq _ _
        have f16 := i32_b (l1)
        have g17 := Int32.le_iff_toInt_le.mp (Int32.not_lt.mp h13)
        refine wq_if.mpr ⟨fun h18 => ?_, fun h18 => ?_⟩
        · show wq _ _
          have f19 : (10 : Int32).toInt = 10 := by decide
          have g20 := Int32.le_iff_toInt_le.mp h18
          refine wq_if.mpr ⟨fun h21 => ?_, fun h21 => ?_⟩
          · show wq _ _
            refine wq_if.mpr ⟨fun h22 => ?_, fun h22 => ?_⟩
            · show wq _ _
              have f23 := i32_b ((n_divides l1))
              have g24 := tI_eq.mp h22
              unfold B_X11_work_68
              exact wq_some.mpr ⟨U_u, H_u, Or.inr ⟨_, rfl, trivial⟩⟩
            · show wq _ _
              have f25 := i32_b ((n_divides l1))
              have g26 := tI_ne h22
              exact wq_some.mpr ⟨U_u, H_u, Or.inl ⟨5, rfl, by decide⟩⟩
          · show wq _ _
            unfold B_X11_work_68
            exact wq_some.mpr ⟨U_u, H_u, Or.inr ⟨_, rfl, trivial⟩⟩
        · show wq _ _
          have f27 : (10 : Int32).toInt = 10 := by decide
          have g28 := Int32.lt_iff_toInt_lt.mp (Int32.not_le.mp h18)
          exact wq_some.mpr ⟨U_u, H_u, Or.inl ⟨1, rfl, by decide⟩⟩
set_option maxHeartbeats 4000000 in
theorem v_X11_tell {N : Nat} {u : CSt} (hN : 5000000000 ≤ N) (U_u : UC u) {l1 : Int32} {l2 : Int32} {l3 : Int32} {l4 : Int64} {l6 : Int64} : wq (F_X11_tell N l1 l2 l3 l4 l6 u) (VS [] [1] (fun (r : Int64) (w : CSt) => True) u) := by
  have H_u : FR [] u u := FR.rf
  unfold F_X11_tell
  unfold B_X11_tell_0
  refine wq_if.mpr ⟨fun h1 => ?_, fun h1 => ?_⟩
  · show wq _ _
    have f2 := i32_b ((n_isKind l2))
    have f3 : (0 : Int32).toInt = 0 := by decide
    have g4 := tI_eq.mp h1
    exact wq_some.mpr ⟨U_u, H_u, Or.inl ⟨1, rfl, by decide⟩⟩
  · show wq _ _
    have f5 := i32_b ((n_isKind l2))
    have f6 : (0 : Int32).toInt = 0 := by decide
    have g7 := tI_ne h1
    refine wq_if.mpr ⟨fun h8 => ?_, fun h8 => ?_⟩
    · show wq _ _
      have f9 := i32_b ((n_isKind l3))
      have g10 := tI_eq.mp h8
      exact wq_some.mpr ⟨U_u, H_u, Or.inl ⟨1, rfl, by decide⟩⟩
    · show wq _ _
      have f11 := i32_b ((n_isKind l3))
      have g12 := tI_ne h8
      refine wq_if.mpr ⟨fun h13 => ?_, fun h13 => ?_⟩
      · show wq _ _
        have f14 := i32_b (l1)
        have g15 := Int32.lt_iff_toInt_lt.mp h13
        exact wq_some.mpr ⟨U_u, H_u, Or.inl ⟨1, rfl, by decide⟩⟩
      · show wq _ _
        have f16 := i32_b (l1)
        have g17 := Int32.le_iff_toInt_le.mp (Int32.not_lt.mp h13)
        refine wq_if.mpr ⟨fun h18 => ?_, fun h18 => ?_⟩
        · show wq _ _
          have f19 : (16 : Int32).toInt = 16 := by decide
          have g20 := Int32.le_iff_toInt_le.mp h18
          refine wq_if.mpr ⟨fun h21 => ?_, fun h21 => ?_⟩
          · show wq _ _
            have f22 := i32_b (l2)
            have f23 : (4 : Int32).toInt = 4 := by decide
            have g24 := tI_eq.mp h21
            unfold B_X11_tell_46
            exact wq_some.mpr ⟨U_u, H_u, Or.inr ⟨_, rfl, trivial⟩⟩
          · show wq _ _
            have f25 := i32_b (l2)
            have f26 : (4 : Int32).toInt = 4 := by decide
            have g27 := tI_ne h21
            unfold B_X11_tell_46
            exact wq_some.mpr ⟨U_u, H_u, Or.inr ⟨_, rfl, trivial⟩⟩
        · show wq _ _
          have f28 : (16 : Int32).toInt = 16 := by decide
          have g29 := Int32.lt_iff_toInt_lt.mp (Int32.not_le.mp h18)
          exact wq_some.mpr ⟨U_u, H_u, Or.inl ⟨1, rfl, by decide⟩⟩
set_option maxHeartbeats 4000000 in
theorem v_X11_install {N : Nat} {u : CSt} (hN : 5000000000 ≤ N) (U_u : UC u) {l1 : Int32} : wq (F_X11_install N l1 u) (VP [1, 9, 10, 11] (fun (r : Int32) (w : CSt) => True) u) := by
  have H_u : FR [1, 9, 10, 11] u u := FR.rf
  unfold F_X11_install
  unfold B_X11_install_0
  have f1 : cR u 0 < 2 := U_u.r 0
  refine wq_ok.mpr ⟨by first | assumption | omega, ?_⟩
  have f2 : cR u 1 < 2 := U_u.r 1
  refine wq_ok.mpr ⟨by first | assumption | omega, ?_⟩
  refine wq_pc.mpr ?_
  have U_u_3 : UC (xR u 0 (cR u 1)) := U_u.xR (by omega)
  have H_u_3 : FR [1, 9, 10, 11] u (xR u 0 (cR u 1)) := H_u.of rfl rfl
  generalize e_u_3 : xR u 0 (cR u 1) = u_3 at U_u_3 H_u_3 ⊢
  refine wq_pc.mpr ?_
  have U_u_4 : UC (xR u_3 1 (cR u 0)) := U_u_3.xR (by omega)
  have H_u_4 : FR [1, 9, 10, 11] u (xR u_3 1 (cR u 0)) := H_u_3.of rfl rfl
  generalize e_u_4 : xR u_3 1 (cR u 0) = u_4 at U_u_4 H_u_4 ⊢
  have f3 : cR u_4 0 < 2 := U_u_4.r 0
  refine wq_ok.mpr ⟨by first | assumption | omega, ?_⟩
  have f4 := i32_b (l1)
  refine wq_bcV (v_X2_install hN U_u_4 (show (cR u_4 0) < 2 by omega) (show (cR u 0) < 2 by omega)) (fun r5 u_6 U_u_6 G_u_6 p6 => ?_)
  have H_u_6 := H_u_4.call G_u_6 (show ∀ k ∈ [], k ∈ [1, 9, 10, 11] by decide)
  refine wq_bcV (v_X10_forget hN U_u_6 ) (fun r7 u_7 U_u_7 G_u_7 p8 => ?_)
  have H_u_7 := H_u_6.call G_u_7 (show ∀ k ∈ [9, 10, 11], k ∈ [1, 9, 10, 11] by decide)
  refine wq_if.mpr ⟨fun h9 => ?_, fun h9 => ?_⟩
  · show wq _ _
    have f10 : (0 : Int32).toInt = 0 := by decide
    have g11 := tI_eq.mp h9
    refine wq_bcV (v_X1_wipe hN U_u_7 ) (fun r12 u_9 U_u_9 G_u_9 p13 => ?_)
    have H_u_9 := H_u_7.call G_u_9 (show ∀ k ∈ [], k ∈ [1, 9, 10, 11] by decide)
    refine wq_pc.mpr ?_
    have U_u_10 : UC (xI u_9 1 0) := U_u_9.xI (k := 1) (show (-2147483648 : Int) ≤ ((0 : Int32)).toInt by omega) (show ((0 : Int32)).toInt ≤ (2147483647 : Int) by omega)
    have H_u_10 : FR [1, 9, 10, 11] u (xI u_9 1 0) := H_u_9.xI (by decide)
    generalize e_u_10 : xI u_9 1 0 = u_10 at U_u_10 H_u_10 ⊢
    exact wq_some.mpr ⟨U_u_10, H_u_10, trivial⟩
  · show wq _ _
    have f14 : (0 : Int32).toInt = 0 := by decide
    have g15 := tI_ne h9
    exact wq_some.mpr ⟨U_u_7, H_u_7, trivial⟩
