set_option maxHeartbeats 4000000 in
theorem v_X8_begin {N : Nat} {u : CSt} (hN : 5000000000 ≤ N) (U_u : UC u) {l1 : Nat} (h_0 : l1 < 2) : wq (F_X8_begin N l1 u) (VP [16] (fun (r : Int32) (w : CSt) => True) u) := by
  have H_u : FR [16] u u := FR.rf
  unfold F_X8_begin
  unfold B_X8_begin_0
  refine wq_pc.mpr ?_
  have U_u_1 : UC (xR u 3 l1) := U_u.xR (by omega)
  have H_u_1 : FR [16] u (xR u 3 l1) := H_u.of rfl rfl
  generalize e_u_1 : xR u 3 l1 = u_1 at U_u_1 H_u_1 ⊢
  refine wq_pc.mpr ?_
  have f1 : (0 : Int32).toInt = 0 := by decide
  have U_u_2 : UC (xI u_1 16 0) := U_u_1.xI (k := 16) (show (0 : Int) ≤ ((0 : Int32)).toInt by omega) (show ((0 : Int32)).toInt ≤ (250 : Int) by omega)
  have H_u_2 : FR [16] u (xI u_1 16 0) := H_u_1.xI (by decide)
  generalize e_u_2 : xI u_1 16 0 = u_2 at U_u_2 H_u_2 ⊢
  exact wq_some.mpr ⟨U_u_2, H_u_2, trivial⟩
set_option maxHeartbeats 4000000 in
theorem v_X8_known {N : Nat} {u : CSt} (hN : 5000000000 ≤ N) (U_u : UC u)  : wq (F_X8_known N  u) (VR (fun (r : Nat) => r < 338) u) := by
  have H_u : FR [] u u := FR.rf
  unfold F_X8_known
  unfold B_X8_known_0
  refine wq_bcR (v_X9_head hN U_u ) (fun r_2 p1 => ?_)
  refine wq_bcR (v_X9_tail hN U_u ) (fun r_4 p2 => ?_)
  have f3 : cR u 3 < 2 := U_u.r 3
  refine wq_ok.mpr ⟨by first | assumption | omega, ?_⟩
  have f4 : (-2147483648 : Int) ≤ (pI u (cR u 3) 15).toInt ∧ (pI u (cR u 3) 15).toInt ≤ (2147483647 : Int) := U_u.p (cR u 3) 15
  refine wq_bcR (v_X6_name hN U_u (show (cR u 3) < 2 by omega)) (fun r_7 p5 => ?_)
  try dsimp only at p5
  refine wq_ok.mpr ⟨by first | assumption | omega, ?_⟩
  have f6 := i32_b (r_4)
  refine wq_bcR (v_X6_localCalled hN U_u (show (cR u 3) < 2 by omega)) (fun r_10 p7 => ?_)
  try dsimp only at p7
  refine wq_ok.mpr ⟨by first | assumption | omega, ?_⟩
  refine wq_if.mpr ⟨fun h8 => ?_, fun h8 => ?_⟩
  · show wq _ _
    have f9 : (-2147483648 : Int) ≤ (mI u r_10 2).toInt ∧ (mI u r_10 2).toInt ≤ (2147483647 : Int) := U_u.m r_10 2
    have f10 : (8 : Int32).toInt = 8 := by decide
    have g11 := tI_eq.mp h8
    refine wq_ok.mpr ⟨by first | assumption | omega, ?_⟩
    refine wq_bcR (v_X6_ofText hN U_u (show (cR u 3) < 2 by omega)) (fun r_15 p12 => ?_)
    try dsimp only at p12
    refine wq_ok.mpr ⟨by first | assumption | omega, ?_⟩
    exact wq_some.mpr ⟨rfl, (show (r_15) < 338 by omega)⟩
  · show wq _ _
    have f13 : (-2147483648 : Int) ≤ (mI u r_10 2).toInt ∧ (mI u r_10 2).toInt ≤ (2147483647 : Int) := U_u.m r_10 2
    have f14 : (8 : Int32).toInt = 8 := by decide
    have g15 := tI_ne h8
    exact wq_some.mpr ⟨rfl, (show (r_10) < 338 by omega)⟩
set_option maxHeartbeats 4000000 in
theorem v_X8_placeName {N : Nat} {u : CSt} (hN : 5000000000 ≤ N) (U_u : UC u) {l1 : Int32} : wq (F_X8_placeName N l1 u) (VS [6, 7] [0] (fun (r : Nat) (w : CSt) => r < 338) u) := by
  have H_u : FR [6, 7] u u := FR.rf
  unfold F_X8_placeName
  unfold B_X8_placeName_0
  refine wq_bcR (v_X8_known hN U_u ) (fun r_14 p1 => ?_)
  try dsimp only at p1
  refine wq_ok.mpr ⟨by first | assumption | omega, ?_⟩
  refine wq_bcR (v_X4_hasNumbers hN U_u ) (fun r_17 p2 => ?_)
  try dsimp only at p2
  refine wq_if.mpr ⟨fun h3 => ?_, fun h3 => ?_⟩
  · show wq _ _
    have f4 := i32_b (r_17)
    have f5 : (0 : Int32).toInt = 0 := by decide
    have g6 := tI_eq.mp h3
    refine wq_bcR (v_X9_here hN U_u ) (fun r_20 p7 => ?_)
    have f8 : (3 : Int32).toInt = 3 := by decide
    have f9 := i32_b (r_20)
    refine wq_btV (v_X9_refuse hN U_u ) (fun x w hx U G => ⟨U, H_u.call G (by decide), Or.inl ⟨x, rfl, (by decide : ∀ x ∈ [0], x ∈ [0]) x hx⟩⟩) (fun r10 u_21 U_u_21 G_u_21 p11 => ?_)
    have H_u_21 := H_u.call G_u_21 (show ∀ k ∈ [6, 7], k ∈ [6, 7] by decide)
    exact p11.elim
  · show wq _ _
    have f12 := i32_b (r_17)
    have f13 : (0 : Int32).toInt = 0 := by decide
    have g14 := tI_ne h3
    unfold B_X8_placeName_27
    have f15 : (1 : Int32).toInt = 1 := by decide
    refine wq_bcR (v_X9_typeAhead hN U_u (show 0 ≤ ((1 : Int32)).toInt ∧ ((1 : Int32)).toInt ≤ 2 by omega)) (fun r_11 p16 => ?_)
    refine wq_if.mpr ⟨fun h17 => ?_, fun h17 => ?_⟩
    · show wq _ _
      have f18 := i32_b (r_11)
      have f19 : (91 : Int32).toInt = 91 := by decide
      have g20 := tI_eq.mp h17
      unfold B_X8_placeName_49
      refine wq_if.mpr ⟨fun h21 => ?_, fun h21 => ?_⟩
      · show wq _ _
        have f22 : (0 : Int) ≤ (mI u r_14 8).toInt ∧ (mI u r_14 8).toInt ≤ (1 : Int) := U_u.m r_14 8
        have g23 := tI_eq.mp h21
        refine wq_if.mpr ⟨fun h24 => ?_, fun h24 => ?_⟩
        · show wq _ _
          have f25 := i32_b (l1)
          have g26 := tI_eq.mp h24
          exact wq_some.mpr ⟨U_u, H_u, Or.inr ⟨_, rfl, (show (r_14) < 338 by omega)⟩⟩
        · show wq _ _
          have f27 := i32_b (l1)
          have g28 := tI_ne h24
          refine wq_bcR (v_X4_isInput hN U_u ) (fun r_8 p29 => ?_)
          try dsimp only at p29
          refine wq_if.mpr ⟨fun h30 => ?_, fun h30 => ?_⟩
          · show wq _ _
            have f31 := i32_b (r_8)
            have g32 := tI_eq.mp h30
            exact wq_some.mpr ⟨U_u, H_u, Or.inr ⟨_, rfl, (show (r_14) < 338 by omega)⟩⟩
          · show wq _ _
            have f33 := i32_b (r_8)
            have g34 := tI_ne h30
            unfold B_X8_placeName_63
            refine wq_bcR (v_X9_here hN U_u ) (fun r_2 p35 => ?_)
            have f36 : (4 : Int32).toInt = 4 := by decide
            have f37 := i32_b (r_2)
            refine wq_btV (v_X9_refuse hN U_u ) (fun x w hx U G => ⟨U, H_u.call G (by decide), Or.inl ⟨x, rfl, (by decide : ∀ x ∈ [0], x ∈ [0]) x hx⟩⟩) (fun r38 u_3 U_u_3 G_u_3 p39 => ?_)
            have H_u_3 := H_u.call G_u_3 (show ∀ k ∈ [6, 7], k ∈ [6, 7] by decide)
            exact p39.elim
      · show wq _ _
        have f40 : (0 : Int) ≤ (mI u r_14 8).toInt ∧ (mI u r_14 8).toInt ≤ (1 : Int) := U_u.m r_14 8
        have g41 := tI_ne h21
        unfold B_X8_placeName_63
        refine wq_bcR (v_X9_here hN U_u ) (fun r_2 p42 => ?_)
        have f43 : (4 : Int32).toInt = 4 := by decide
        have f44 := i32_b (r_2)
        refine wq_btV (v_X9_refuse hN U_u ) (fun x w hx U G => ⟨U, H_u.call G (by decide), Or.inl ⟨x, rfl, (by decide : ∀ x ∈ [0], x ∈ [0]) x hx⟩⟩) (fun r45 u_3 U_u_3 G_u_3 p46 => ?_)
        have H_u_3 := H_u.call G_u_3 (show ∀ k ∈ [6, 7], k ∈ [6, 7] by decide)
        exact p46.elim
    · show wq _ _
      have f47 := i32_b (r_11)
      have f48 : (91 : Int32).toInt = 91 := by decide
      have g49 := tI_ne h17
      unfold B_X8_placeName_49
      refine wq_if.mpr ⟨fun h50 => ?_, fun h50 => ?_⟩
      · show wq _ _
        have f51 : (0 : Int) ≤ (mI u r_14 8).toInt ∧ (mI u r_14 8).toInt ≤ (1 : Int) := U_u.m r_14 8
        have g52 := tI_eq.mp h50
        refine wq_if.mpr ⟨fun h53 => ?_, fun h53 => ?_⟩
        · show wq _ _
          have f54 := i32_b (l1)
          have g55 := tI_eq.mp h53
          exact wq_some.mpr ⟨U_u, H_u, Or.inr ⟨_, rfl, (show (r_14) < 338 by omega)⟩⟩
        · show wq _ _
          have f56 := i32_b (l1)
          have g57 := tI_ne h53
          refine wq_bcR (v_X4_isInput hN U_u ) (fun r_8 p58 => ?_)
          try dsimp only at p58
          refine wq_if.mpr ⟨fun h59 => ?_, fun h59 => ?_⟩
          · show wq _ _
            have f60 := i32_b (r_8)
            have g61 := tI_eq.mp h59
            exact wq_some.mpr ⟨U_u, H_u, Or.inr ⟨_, rfl, (show (r_14) < 338 by omega)⟩⟩
          · show wq _ _
            have f62 := i32_b (r_8)
            have g63 := tI_ne h59
            unfold B_X8_placeName_63
            refine wq_bcR (v_X9_here hN U_u ) (fun r_2 p64 => ?_)
            have f65 : (4 : Int32).toInt = 4 := by decide
            have f66 := i32_b (r_2)
            refine wq_btV (v_X9_refuse hN U_u ) (fun x w hx U G => ⟨U, H_u.call G (by decide), Or.inl ⟨x, rfl, (by decide : ∀ x ∈ [0], x ∈ [0]) x hx⟩⟩) (fun r67 u_3 U_u_3 G_u_3 p68 => ?_)
            have H_u_3 := H_u.call G_u_3 (show ∀ k ∈ [6, 7], k ∈ [6, 7] by decide)
            exact p68.elim
      · show wq _ _
        have f69 : (0 : Int) ≤ (mI u r_14 8).toInt ∧ (mI u r_14 8).toInt ≤ (1 : Int) := U_u.m r_14 8
        have g70 := tI_ne h50
        unfold B_X8_placeName_63
        refine wq_bcR (v_X9_here hN U_u ) (fun r_2 p71 => ?_)
        have f72 : (4 : Int32).toInt = 4 := by decide
        have f73 := i32_b (r_2)
        refine wq_btV (v_X9_refuse hN U_u ) (fun x w hx U G => ⟨U, H_u.call G (by decide), Or.inl ⟨x, rfl, (by decide : ∀ x ∈ [0], x ∈ [0]) x hx⟩⟩) (fun r74 u_3 U_u_3 G_u_3 p75 => ?_)
        have H_u_3 := H_u.call G_u_3 (show ∀ k ∈ [6, 7], k ∈ [6, 7] by decide)
        exact p75.elim
set_option maxHeartbeats 4000000 in
theorem v_X8_isTooWide {N : Nat} {u : CSt} (hN : 5000000000 ≤ N) (U_u : UC u) {l1 : Int32} {l2 : Int32} : wq (F_X8_isTooWide N l1 l2 u) (VR (fun (r : Int32) => True) u) := by
  have H_u : FR [] u u := FR.rf
  unfold F_X8_isTooWide
  unfold B_X8_isTooWide_0
  refine wq_if.mpr ⟨fun h1 => ?_, fun h1 => ?_⟩
  · show wq _ _
    have f2 := i32_b ((n_room l1 l2))
    have f3 : (0 : Int32).toInt = 0 := by decide
    have g4 := tI_eq.mp h1
    refine wq_if.mpr ⟨fun h5 => ?_, fun h5 => ?_⟩
    · show wq _ _
      have f6 : (0 : Int) ≤ (cI u 17).toInt ∧ (cI u 17).toInt ≤ (1 : Int) := U_u.i  17
      have g7 := tI_eq.mp h5
      unfold B_X8_isTooWide_26
      exact wq_some.mpr ⟨rfl, trivial⟩
    · show wq _ _
      have f8 : (0 : Int) ≤ (cI u 17).toInt ∧ (cI u 17).toInt ≤ (1 : Int) := U_u.i  17
      have g9 := tI_ne h5
      refine wq_if.mpr ⟨fun h10 => ?_, fun h10 => ?_⟩
      · show wq _ _
        have f11 := i32_b ((n_fits l2 (cL u 0)))
        have g12 := tI_eq.mp h10
        unfold B_X8_isTooWide_26
        exact wq_some.mpr ⟨rfl, trivial⟩
      · show wq _ _
        have f13 := i32_b ((n_fits l2 (cL u 0)))
        have g14 := tI_ne h10
        exact wq_some.mpr ⟨rfl, trivial⟩
  · show wq _ _
    have f15 := i32_b ((n_room l1 l2))
    have f16 : (0 : Int32).toInt = 0 := by decide
    have g17 := tI_ne h1
    exact wq_some.mpr ⟨rfl, trivial⟩
set_option maxHeartbeats 4000000 in
theorem v_X8_combine {N : Nat} {u : CSt} (hN : 5000000000 ≤ N) (U_u : UC u) {l1 : Int32} {l2 : Int32} {l3 : Int32} {l4 : Int32} : wq (F_X8_combine N l1 l2 l3 l4 u) (VP [] (fun (r : Int32) (w : CSt) => True) u) := by
  have H_u : FR [] u u := FR.rf
  unfold F_X8_combine
  unfold B_X8_combine_0
  have f1 : cR u 3 < 2 := U_u.r 3
  refine wq_ok.mpr ⟨by first | assumption | omega, ?_⟩
  refine wq_if.mpr ⟨fun h2 => ?_, fun h2 => ?_⟩
  · show wq _ _
    have f3 := i32_b ((n_wide l1 l2 l3))
    have f4 : (0 : Int32).toInt = 0 := by decide
    have g5 := tI_eq.mp h2
    unfold B_X8_combine_25
    have f6 : (22 : Int32).toInt = 22 := by decide
    have f7 := i32_b (l1)
    have f8 := i32_b (l4)
    refine wq_bcV (v_X6_step hN U_u (show isImg ((22 : Int32)) → 0 ≤ ((0 : Int32)).toInt ∧ ((0 : Int32)).toInt ≤ 4 by (unfold isImg; omega))) (fun r_2 u_1 U_u_1 G_u_1 p9 => ?_)
    have H_u_1 := H_u.call G_u_1 (show ∀ k ∈ [], k ∈ [] by decide)
    refine wq_if.mpr ⟨fun h10 => ?_, fun h10 => ?_⟩
    · show wq _ _
      have g11 := tI_eq.mp h10
      exact wq_some.mpr ⟨U_u_1, H_u_1, trivial⟩
    · show wq _ _
      have g12 := tI_ne h10
      exact wq_some.mpr ⟨U_u_1, H_u_1, trivial⟩
  · show wq _ _
    have f13 := i32_b ((n_wide l1 l2 l3))
    have f14 : (0 : Int32).toInt = 0 := by decide
    have g15 := tI_ne h2
    unfold B_X8_combine_25
    have f16 : (22 : Int32).toInt = 22 := by decide
    have f17 := i32_b (l1)
    have f18 : (1 : Int32).toInt = 1 := by decide
    have f19 := i32_b (l4)
    refine wq_bcV (v_X6_step hN U_u (show isImg ((22 : Int32)) → 0 ≤ ((1 : Int32)).toInt ∧ ((1 : Int32)).toInt ≤ 4 by (unfold isImg; omega))) (fun r_2 u_1 U_u_1 G_u_1 p20 => ?_)
    have H_u_1 := H_u.call G_u_1 (show ∀ k ∈ [], k ∈ [] by decide)
    refine wq_if.mpr ⟨fun h21 => ?_, fun h21 => ?_⟩
    · show wq _ _
      have g22 := tI_eq.mp h21
      exact wq_some.mpr ⟨U_u_1, H_u_1, trivial⟩
    · show wq _ _
      have g23 := tI_ne h21
      exact wq_some.mpr ⟨U_u_1, H_u_1, trivial⟩
set_option maxHeartbeats 4000000 in
theorem v_X8_settle {N : Nat} {u : CSt} (hN : 5000000000 ≤ N) (U_u : UC u) {l1 : Int32} {l2 : Int32} {l3 : Int32} (h_0 : 0 ≤ l1.toInt) : wq (F_X8_settle N l1 l2 l3 u) (VP [16] (fun (r : Int32) (w : CSt) => True) u) := by
  have H_u : FR [16] u u := FR.rf
  unfold F_X8_settle
  unfold B_X8_settle_0
  have f2 := i32_b (l1)
  have f3 := i32_b (l2)
  have f4 := i32_b (l3)
  have f5 : (0 : Int) ≤ (cI u 16).toInt ∧ (cI u 16).toInt ≤ (250 : Int) := U_u.i  16
  unfold LP_X8_settle_3
  refine wq_lp (fun (d : Nat) (a : Int32 × Int32 × Int32 × CSt) => UC a.2.2.2 ∧ FR [16] u a.2.2.2 ∧ a.1 = l1 ∧ a.2.1 = l2 ∧ 0 ≤ a.1.toInt ∧ d = (cI a.2.2.2 16).toInt.toNat) ?_ _ ((cI u 16).toInt.toNat) _ (by omega) ⟨U_u, H_u, rfl, rfl, (show 0 ≤ (l1).toInt by omega), rfl⟩
  rintro d_1 R_1 ⟨l1_1, l2_1, l4_1, u_1⟩ ⟨U_1, H_1, k_1_0, k_1_1, i_1_0, m_1⟩ ih_1
  have k_1_0 : l1 = l1_1 := Eq.symm k_1_0
  subst k_1_0
  have k_1_1 : l2 = l2_1 := Eq.symm k_1_1
  subst k_1_1
  have i_1_0 : 0 ≤ l1.toInt := i_1_0
  have m_1 : d_1 = (cI u_1 16).toInt.toNat := m_1
  have U_1 : UC u_1 := U_1
  have H_1 : FR [16] u u_1 := H_1
  show wq (B_X8_settle_3 N R_1 (l1) (l2) (l4_1) u_1) _
  unfold B_X8_settle_3
  refine wq_if.mpr ⟨fun h6 => ?_, fun h6 => ?_⟩
  · show wq _ _
    have f7 : (0 : Int) ≤ (cI u_1 16).toInt ∧ (cI u_1 16).toInt ≤ (250 : Int) := U_1.i  16
    have f8 := i32_b (l1)
    have g9 := Int32.le_iff_toInt_le.mp h6
    exact wq_some.mpr ⟨U_1, H_1, trivial⟩
  · show wq _ _
    have f10 : (0 : Int) ≤ (cI u_1 16).toInt ∧ (cI u_1 16).toInt ≤ (250 : Int) := U_1.i  16
    have f11 := i32_b (l1)
    have g12 := Int32.lt_iff_toInt_lt.mp (Int32.not_le.mp h6)
    have f13 : (1 : Int32).toInt = 1 := by decide
    have f14 := tI_sb (cI u_1 16) (1)
    have f15 := i32_b ((cI u_1 16) - 1)
    have x16 : vp_in ((cI u_1 16) - 1) 250 := vin_iff.mpr ⟨by omega, by omega⟩
    refine wq_rdU x16 (fun v_10 e_v_10 => ?_)
    have f17 := i32_b (v_10)
    refine wq_pbU (v_X9_strength hN ) (fun r_11 p18 => ?_)
    refine wq_if.mpr ⟨fun h19 => ?_, fun h19 => ?_⟩
    · show wq _ _
      have f20 := i32_b (r_11)
      have f21 := i32_b (l2)
      have g22 := Int32.lt_iff_toInt_lt.mp h19
      exact wq_some.mpr ⟨U_1, H_1, trivial⟩
    · show wq _ _
      have f23 := i32_b (r_11)
      have f24 := i32_b (l2)
      have g25 := Int32.le_iff_toInt_le.mp (Int32.not_lt.mp h19)
      refine wq_pc.mpr ?_
      have U_u_15 : UC (xI u_1 16 ((cI u_1 16) - 1)) := U_1.xI (k := 16) (show (0 : Int) ≤ ((cI u_1 16) - 1).toInt by omega) (show ((cI u_1 16) - 1).toInt ≤ (250 : Int) by omega)
      have H_u_15 : FR [16] u (xI u_1 16 ((cI u_1 16) - 1)) := H_1.xI (by decide)
      generalize e_u_15 : xI u_1 16 ((cI u_1 16) - 1) = u_15 at U_u_15 H_u_15 ⊢
      have f26 : (0 : Int) ≤ (cI u_15 16).toInt ∧ (cI u_15 16).toInt ≤ (250 : Int) := U_u_15.i  16
      have f27 : (cI u_15 16).toInt = ((cI u_1 16) - 1).toInt := by rw [← e_u_15]; simp only [xI_1, if_true]
      have x28 : vp_in (cI u_15 16) 250 := vin_iff.mpr ⟨by omega, by omega⟩
      refine wq_rdU x28 (fun v_17 e_v_17 => ?_)
      have x29 : vp_in (cI u_15 16) 250 := vin_iff.mpr ⟨by omega, by omega⟩
      refine wq_rdU x29 (fun v_19 e_v_19 => ?_)
      have f30 := i32_b (v_17)
      refine wq_pbU (v_X9_comparison hN ) (fun r_20 p31 => ?_)
      refine wq_if.mpr ⟨fun h32 => ?_, fun h32 => ?_⟩
      · show wq _ _
        have f33 : (9766 : Int32).toInt = 9766 := by decide
        have g34 := tI_eq.mp h32
        unfold B_X8_settle_84
        have f35 : cR u_15 3 < 2 := U_u_15.r 3
        refine wq_ok.mpr ⟨by first | assumption | omega, ?_⟩
        have f36 : (26 : Int32).toInt = 26 := by decide
        have f37 : (0 : Int32).toInt = 0 := by decide
        have f38 := i32_b (v_19)
        refine wq_bcV (v_X6_step hN U_u_15 (show isImg ((26 : Int32)) → 0 ≤ ((0 : Int32)).toInt ∧ ((0 : Int32)).toInt ≤ 4 by (unfold isImg; omega))) (fun r_3 u_2 U_u_2 G_u_2 p39 => ?_)
        have H_u_2 := H_u_15.call G_u_2 (show ∀ k ∈ [], k ∈ [16] by decide)
        have f40 : cR u_2 3 < 2 := U_u_2.r 3
        refine wq_ok.mpr ⟨by first | assumption | omega, ?_⟩
        have f41 : (0 : Int) ≤ (cI u_2 16).toInt ∧ (cI u_2 16).toInt ≤ (250 : Int) := U_u_2.i  16
        have f42 : (cI u_2 16).toInt = (cI u_15 16).toInt := by rw [show cI u_2 16 = cI u_15 16 from G_u_2.1 16 (by decide)]
        have x43 : vp_in (cI u_2 16) 250 := vin_iff.mpr ⟨by omega, by omega⟩
        refine wq_rdU x43 (fun v_6 e_v_6 => ?_)
        have f44 := i32_b (v_6)
        refine wq_bcV (v_X6_land hN U_u_2 ) (fun r45 u_7 U_u_7 G_u_7 p46 => ?_)
        have H_u_7 := H_u_2.call G_u_7 (show ∀ k ∈ [], k ∈ [16] by decide)
        unfold B_X8_settle_171
        have f47 : (3 : Int32).toInt = 3 := by decide
        have f48 : (0 : Int) ≤ (cI u_7 16).toInt ∧ (cI u_7 16).toInt ≤ (250 : Int) := U_u_7.i  16
        have f49 : (cI u_7 16).toInt = (cI u_2 16).toInt := by rw [show cI u_7 16 = cI u_2 16 from G_u_7.1 16 (by decide)]
        exact ih_1 ((cI u_7 16).toInt.toNat) (l1, l2, (3 : Int32), u_7) (by omega) ⟨U_u_7, H_u_7, rfl, rfl, (show 0 ≤ (l1).toInt by omega), rfl⟩
      · show wq _ _
        have f50 : (9766 : Int32).toInt = 9766 := by decide
        have g51 := tI_ne h32
        refine wq_if.mpr ⟨fun h52 => ?_, fun h52 => ?_⟩
        · show wq _ _
          have f53 : (31868 : Int32).toInt = 31868 := by decide
          have g54 := tI_eq.mp h52
          unfold B_X8_settle_84
          have f55 : cR u_15 3 < 2 := U_u_15.r 3
          refine wq_ok.mpr ⟨by first | assumption | omega, ?_⟩
          have f56 : (26 : Int32).toInt = 26 := by decide
          have f57 : (0 : Int32).toInt = 0 := by decide
          have f58 := i32_b (v_19)
          refine wq_bcV (v_X6_step hN U_u_15 (show isImg ((26 : Int32)) → 0 ≤ ((0 : Int32)).toInt ∧ ((0 : Int32)).toInt ≤ 4 by (unfold isImg; omega))) (fun r_3 u_2 U_u_2 G_u_2 p59 => ?_)
          have H_u_2 := H_u_15.call G_u_2 (show ∀ k ∈ [], k ∈ [16] by decide)
          have f60 : cR u_2 3 < 2 := U_u_2.r 3
          refine wq_ok.mpr ⟨by first | assumption | omega, ?_⟩
          have f61 : (0 : Int) ≤ (cI u_2 16).toInt ∧ (cI u_2 16).toInt ≤ (250 : Int) := U_u_2.i  16
          have f62 : (cI u_2 16).toInt = (cI u_15 16).toInt := by rw [show cI u_2 16 = cI u_15 16 from G_u_2.1 16 (by decide)]
          have x63 : vp_in (cI u_2 16) 250 := vin_iff.mpr ⟨by omega, by omega⟩
          refine wq_rdU x63 (fun v_6 e_v_6 => ?_)
          have f64 := i32_b (v_6)
          refine wq_bcV (v_X6_land hN U_u_2 ) (fun r65 u_7 U_u_7 G_u_7 p66 => ?_)
          have H_u_7 := H_u_2.call G_u_7 (show ∀ k ∈ [], k ∈ [16] by decide)
          unfold B_X8_settle_171
          have f67 : (3 : Int32).toInt = 3 := by decide
          have f68 : (0 : Int) ≤ (cI u_7 16).toInt ∧ (cI u_7 16).toInt ≤ (250 : Int) := U_u_7.i  16
          have f69 : (cI u_7 16).toInt = (cI u_2 16).toInt := by rw [show cI u_7 16 = cI u_2 16 from G_u_7.1 16 (by decide)]
          exact ih_1 ((cI u_7 16).toInt.toNat) (l1, l2, (3 : Int32), u_7) (by omega) ⟨U_u_7, H_u_7, rfl, rfl, (show 0 ≤ (l1).toInt by omega), rfl⟩
        · show wq _ _
          have f70 : (31868 : Int32).toInt = 31868 := by decide
          have g71 := tI_ne h52
          refine wq_if.mpr ⟨fun h72 => ?_, fun h72 => ?_⟩
          · show wq _ _
            have f73 := i32_b (r_20)
            have f74 : (-1 : Int32).toInt = -1 := by decide
            have g75 := tI_eq.mp h72
            refine wq_pbU (v_X9_operation hN ) (fun r_26 p76 => ?_)
            have x77 : vp_in (cI u_15 16) 250 := vin_iff.mpr ⟨by omega, by omega⟩
            refine wq_rdU x77 (fun v_30 e_v_30 => ?_)
            have f78 := i32_b (r_26)
            have f79 := i32_b (v_30)
            have f80 := i32_b (l4_1)
            have f81 := i32_b (v_19)
            refine wq_bcV (v_X8_combine hN U_u_15 ) (fun r_32 u_31 U_u_31 G_u_31 p82 => ?_)
            have H_u_31 := H_u_15.call G_u_31 (show ∀ k ∈ [], k ∈ [16] by decide)
            unfold B_X8_settle_171
            have f83 := i32_b (r_32)
            have f84 : (0 : Int) ≤ (cI u_31 16).toInt ∧ (cI u_31 16).toInt ≤ (250 : Int) := U_u_31.i  16
            have f85 : (cI u_31 16).toInt = (cI u_15 16).toInt := by rw [show cI u_31 16 = cI u_15 16 from G_u_31.1 16 (by decide)]
            exact ih_1 ((cI u_31 16).toInt.toNat) (l1, l2, r_32, u_31) (by omega) ⟨U_u_31, H_u_31, rfl, rfl, (show 0 ≤ (l1).toInt by omega), rfl⟩
          · show wq _ _
            have f86 := i32_b (r_20)
            have f87 : (-1 : Int32).toInt = -1 := by decide
            have g88 := tI_ne h72
            have f89 : cR u_15 3 < 2 := U_u_15.r 3
            refine wq_ok.mpr ⟨by first | assumption | omega, ?_⟩
            have f90 : (23 : Int32).toInt = 23 := by decide
            have f91 : (0 : Int32).toInt = 0 := by decide
            have f92 := i32_b (v_19)
            refine wq_bcV (v_X6_step hN U_u_15 (show isImg ((23 : Int32)) → 0 ≤ ((0 : Int32)).toInt ∧ ((0 : Int32)).toInt ≤ 4 by (unfold isImg; omega))) (fun r_35 u_34 U_u_34 G_u_34 p93 => ?_)
            have H_u_34 := H_u_15.call G_u_34 (show ∀ k ∈ [], k ∈ [16] by decide)
            unfold B_X8_settle_171
            have f94 : (3 : Int32).toInt = 3 := by decide
            have f95 : (0 : Int) ≤ (cI u_34 16).toInt ∧ (cI u_34 16).toInt ≤ (250 : Int) := U_u_34.i  16
            have f96 : (cI u_34 16).toInt = (cI u_15 16).toInt := by rw [show cI u_34 16 = cI u_15 16 from G_u_34.1 16 (by decide)]
            exact ih_1 ((cI u_34 16).toInt.toNat) (l1, l2, (3 : Int32), u_34) (by omega) ⟨U_u_34, H_u_34, rfl, rfl, (show 0 ≤ (l1).toInt by omega), rfl⟩
set_option maxHeartbeats 4000000 in
theorem v_X8_get {N : Nat} {u : CSt} (hN : 5000000000 ≤ N) (U_u : UC u) {l1 : Nat} {l2 : Int32} {l3 : Int32} (h_0 : l2.toInt = 0 ∨ l2.toInt = 64) : wq (F_X8_get N l1 l2 l3 u) (VP [] (fun (r : Int32) (w : CSt) => True) u) := by
  have H_u : FR [] u u := FR.rf
  unfold F_X8_get
  unfold B_X8_get_0
  refine wq_bcR (v_X4_isLocal hN U_u ) (fun r_11 p1 => ?_)
  try dsimp only at p1
  refine wq_if.mpr ⟨fun h2 => ?_, fun h2 => ?_⟩
  · show wq _ _
    have f3 := i32_b (r_11)
    have f4 : (0 : Int32).toInt = 0 := by decide
    have g5 := tI_eq.mp h2
    unfold B_X8_get_12
    refine wq_bcR (v_X4_isPlaced hN U_u ) (fun r_5 p6 => ?_)
    try dsimp only at p6
    refine wq_if.mpr ⟨fun h7 => ?_, fun h7 => ?_⟩
    · show wq _ _
      have f8 := i32_b (r_5)
      have g9 := tI_eq.mp h7
      unfold B_X8_get_36
      have f10 : cR u 3 < 2 := U_u.r 3
      refine wq_ok.mpr ⟨by first | assumption | omega, ?_⟩
      have f11 : (3 : Int32).toInt = 3 := by decide
      have f12 := i32_b (l2)
      have f13 := tI_ad ((3 : Int32)) (l2)
      have f14 := i32_b ((3 : Int32) + l2)
      have f15 : (0 : Int) ≤ (mI u l1 9).toInt ∧ (mI u l1 9).toInt ≤ (3500 : Int) := U_u.m l1 9
      have f16 : (0 : Int) ≤ (mI u l1 5).toInt ∧ (mI u l1 5).toInt ≤ (4 : Int) := U_u.m l1 5
      have f17 := i32_b (l3)
      refine wq_bcV (v_X6_step hN U_u (show isImg ((3 : Int32) + l2) → 0 ≤ (mI u l1 5).toInt ∧ (mI u l1 5).toInt ≤ 4 by (unfold isImg; omega))) (fun r_3 u_2 U_u_2 G_u_2 p18 => ?_)
      have H_u_2 := H_u.call G_u_2 (show ∀ k ∈ [], k ∈ [] by decide)
      exact wq_some.mpr ⟨U_u_2, H_u_2, trivial⟩
    · show wq _ _
      have f19 := i32_b (r_5)
      have g20 := tI_ne h7
      refine wq_bcR (v_X4_isInput hN U_u ) (fun r_8 p21 => ?_)
      try dsimp only at p21
      refine wq_if.mpr ⟨fun h22 => ?_, fun h22 => ?_⟩
      · show wq _ _
        have f23 := i32_b (r_8)
        have g24 := tI_eq.mp h22
        unfold B_X8_get_34
        unfold B_X8_get_36
        have f25 : cR u 3 < 2 := U_u.r 3
        refine wq_ok.mpr ⟨by first | assumption | omega, ?_⟩
        have f26 : (6 : Int32).toInt = 6 := by decide
        have f27 := i32_b (l2)
        have f28 := tI_ad ((6 : Int32)) (l2)
        have f29 := i32_b ((6 : Int32) + l2)
        have f30 : (0 : Int) ≤ (mI u l1 9).toInt ∧ (mI u l1 9).toInt ≤ (3500 : Int) := U_u.m l1 9
        have f31 : (0 : Int) ≤ (mI u l1 5).toInt ∧ (mI u l1 5).toInt ≤ (4 : Int) := U_u.m l1 5
        have f32 := i32_b (l3)
        refine wq_bcV (v_X6_step hN U_u (show isImg ((6 : Int32) + l2) → 0 ≤ (mI u l1 5).toInt ∧ (mI u l1 5).toInt ≤ 4 by (unfold isImg; omega))) (fun r_3 u_2 U_u_2 G_u_2 p33 => ?_)
        have H_u_2 := H_u.call G_u_2 (show ∀ k ∈ [], k ∈ [] by decide)
        exact wq_some.mpr ⟨U_u_2, H_u_2, trivial⟩
      · show wq _ _
        have f34 := i32_b (r_8)
        have g35 := tI_ne h22
        unfold B_X8_get_34
        unfold B_X8_get_36
        have f36 : cR u 3 < 2 := U_u.r 3
        refine wq_ok.mpr ⟨by first | assumption | omega, ?_⟩
        have f37 : (5 : Int32).toInt = 5 := by decide
        have f38 := i32_b (l2)
        have f39 := tI_ad ((5 : Int32)) (l2)
        have f40 := i32_b ((5 : Int32) + l2)
        have f41 : (0 : Int) ≤ (mI u l1 9).toInt ∧ (mI u l1 9).toInt ≤ (3500 : Int) := U_u.m l1 9
        have f42 : (0 : Int) ≤ (mI u l1 5).toInt ∧ (mI u l1 5).toInt ≤ (4 : Int) := U_u.m l1 5
        have f43 := i32_b (l3)
        refine wq_bcV (v_X6_step hN U_u (show isImg ((5 : Int32) + l2) → 0 ≤ (mI u l1 5).toInt ∧ (mI u l1 5).toInt ≤ 4 by (unfold isImg; omega))) (fun r_3 u_2 U_u_2 G_u_2 p44 => ?_)
        have H_u_2 := H_u.call G_u_2 (show ∀ k ∈ [], k ∈ [] by decide)
        exact wq_some.mpr ⟨U_u_2, H_u_2, trivial⟩
  · show wq _ _
    have f45 := i32_b (r_11)
    have f46 : (0 : Int32).toInt = 0 := by decide
    have g47 := tI_ne h2
    unfold B_X8_get_12
    refine wq_bcR (v_X4_isPlaced hN U_u ) (fun r_5 p48 => ?_)
    try dsimp only at p48
    refine wq_if.mpr ⟨fun h49 => ?_, fun h49 => ?_⟩
    · show wq _ _
      have f50 := i32_b (r_5)
      have g51 := tI_eq.mp h49
      unfold B_X8_get_36
      have f52 : cR u 3 < 2 := U_u.r 3
      refine wq_ok.mpr ⟨by first | assumption | omega, ?_⟩
      have f53 : (4 : Int32).toInt = 4 := by decide
      have f54 := i32_b (l2)
      have f55 := tI_ad ((4 : Int32)) (l2)
      have f56 := i32_b ((4 : Int32) + l2)
      have f57 : (0 : Int) ≤ (mI u l1 9).toInt ∧ (mI u l1 9).toInt ≤ (3500 : Int) := U_u.m l1 9
      have f58 : (0 : Int) ≤ (mI u l1 5).toInt ∧ (mI u l1 5).toInt ≤ (4 : Int) := U_u.m l1 5
      have f59 := i32_b (l3)
      refine wq_bcV (v_X6_step hN U_u (show isImg ((4 : Int32) + l2) → 0 ≤ (mI u l1 5).toInt ∧ (mI u l1 5).toInt ≤ 4 by (unfold isImg; omega))) (fun r_3 u_2 U_u_2 G_u_2 p60 => ?_)
      have H_u_2 := H_u.call G_u_2 (show ∀ k ∈ [], k ∈ [] by decide)
      exact wq_some.mpr ⟨U_u_2, H_u_2, trivial⟩
    · show wq _ _
      have f61 := i32_b (r_5)
      have g62 := tI_ne h49
      refine wq_bcR (v_X4_isInput hN U_u ) (fun r_8 p63 => ?_)
      try dsimp only at p63
      refine wq_if.mpr ⟨fun h64 => ?_, fun h64 => ?_⟩
      · show wq _ _
        have f65 := i32_b (r_8)
        have g66 := tI_eq.mp h64
        unfold B_X8_get_34
        unfold B_X8_get_36
        have f67 : cR u 3 < 2 := U_u.r 3
        refine wq_ok.mpr ⟨by first | assumption | omega, ?_⟩
        have f68 : (6 : Int32).toInt = 6 := by decide
        have f69 := i32_b (l2)
        have f70 := tI_ad ((6 : Int32)) (l2)
        have f71 := i32_b ((6 : Int32) + l2)
        have f72 : (0 : Int) ≤ (mI u l1 9).toInt ∧ (mI u l1 9).toInt ≤ (3500 : Int) := U_u.m l1 9
        have f73 : (0 : Int) ≤ (mI u l1 5).toInt ∧ (mI u l1 5).toInt ≤ (4 : Int) := U_u.m l1 5
        have f74 := i32_b (l3)
        refine wq_bcV (v_X6_step hN U_u (show isImg ((6 : Int32) + l2) → 0 ≤ (mI u l1 5).toInt ∧ (mI u l1 5).toInt ≤ 4 by (unfold isImg; omega))) (fun r_3 u_2 U_u_2 G_u_2 p75 => ?_)
        have H_u_2 := H_u.call G_u_2 (show ∀ k ∈ [], k ∈ [] by decide)
        exact wq_some.mpr ⟨U_u_2, H_u_2, trivial⟩
      · show wq _ _
        have f76 := i32_b (r_8)
        have g77 := tI_ne h64
        unfold B_X8_get_34
        unfold B_X8_get_36
        have f78 : cR u 3 < 2 := U_u.r 3
        refine wq_ok.mpr ⟨by first | assumption | omega, ?_⟩
        have f79 : (5 : Int32).toInt = 5 := by decide
        have f80 := i32_b (l2)
        have f81 := tI_ad ((5 : Int32)) (l2)
        have f82 := i32_b ((5 : Int32) + l2)
        have f83 : (0 : Int) ≤ (mI u l1 9).toInt ∧ (mI u l1 9).toInt ≤ (3500 : Int) := U_u.m l1 9
        have f84 : (0 : Int) ≤ (mI u l1 5).toInt ∧ (mI u l1 5).toInt ≤ (4 : Int) := U_u.m l1 5
        have f85 := i32_b (l3)
        refine wq_bcV (v_X6_step hN U_u (show isImg ((5 : Int32) + l2) → 0 ≤ (mI u l1 5).toInt ∧ (mI u l1 5).toInt ≤ 4 by (unfold isImg; omega))) (fun r_3 u_2 U_u_2 G_u_2 p86 => ?_)
        have H_u_2 := H_u.call G_u_2 (show ∀ k ∈ [], k ∈ [] by decide)
        exact wq_some.mpr ⟨U_u_2, H_u_2, trivial⟩
set_option maxHeartbeats 4000000 in
theorem v_X8_set {N : Nat} {u : CSt} (hN : 5000000000 ≤ N) (U_u : UC u) {l1 : Nat} {l2 : Int32} : wq (F_X8_set N l1 l2 u) (VP [] (fun (r : Int32) (w : CSt) => True) u) := by
  have H_u : FR [] u u := FR.rf
  unfold F_X8_set
  unfold B_X8_set_0
  refine wq_bcR (v_X4_isLocal hN U_u ) (fun r_5 p1 => ?_)
  try dsimp only at p1
  refine wq_if.mpr ⟨fun h2 => ?_, fun h2 => ?_⟩
  · show wq _ _
    have f3 := i32_b (r_5)
    have f4 : (0 : Int32).toInt = 0 := by decide
    have g5 := tI_eq.mp h2
    refine wq_bcR (v_X4_isPlaced hN U_u ) (fun r_8 p6 => ?_)
    try dsimp only at p6
    refine wq_if.mpr ⟨fun h7 => ?_, fun h7 => ?_⟩
    · show wq _ _
      have f8 := i32_b (r_8)
      have g9 := tI_eq.mp h7
      unfold B_X8_set_26
      have f10 : cR u 3 < 2 := U_u.r 3
      refine wq_ok.mpr ⟨by first | assumption | omega, ?_⟩
      have f11 : (7 : Int32).toInt = 7 := by decide
      have f12 : (0 : Int) ≤ (mI u l1 9).toInt ∧ (mI u l1 9).toInt ≤ (3500 : Int) := U_u.m l1 9
      have f13 : (0 : Int) ≤ (mI u l1 5).toInt ∧ (mI u l1 5).toInt ≤ (4 : Int) := U_u.m l1 5
      have f14 := i32_b (l2)
      refine wq_bcV (v_X6_step hN U_u (show isImg ((7 : Int32)) → 0 ≤ (mI u l1 5).toInt ∧ (mI u l1 5).toInt ≤ 4 by (unfold isImg; omega))) (fun r_3 u_2 U_u_2 G_u_2 p15 => ?_)
      have H_u_2 := H_u.call G_u_2 (show ∀ k ∈ [], k ∈ [] by decide)
      exact wq_some.mpr ⟨U_u_2, H_u_2, trivial⟩
    · show wq _ _
      have f16 := i32_b (r_8)
      have g17 := tI_ne h7
      unfold B_X8_set_26
      have f18 : cR u 3 < 2 := U_u.r 3
      refine wq_ok.mpr ⟨by first | assumption | omega, ?_⟩
      have f19 : (9 : Int32).toInt = 9 := by decide
      have f20 : (0 : Int) ≤ (mI u l1 9).toInt ∧ (mI u l1 9).toInt ≤ (3500 : Int) := U_u.m l1 9
      have f21 : (0 : Int) ≤ (mI u l1 5).toInt ∧ (mI u l1 5).toInt ≤ (4 : Int) := U_u.m l1 5
      have f22 := i32_b (l2)
      refine wq_bcV (v_X6_step hN U_u (show isImg ((9 : Int32)) → 0 ≤ (mI u l1 5).toInt ∧ (mI u l1 5).toInt ≤ 4 by (unfold isImg; omega))) (fun r_3 u_2 U_u_2 G_u_2 p23 => ?_)
      have H_u_2 := H_u.call G_u_2 (show ∀ k ∈ [], k ∈ [] by decide)
      exact wq_some.mpr ⟨U_u_2, H_u_2, trivial⟩
  · show wq _ _
    have f24 := i32_b (r_5)
    have f25 : (0 : Int32).toInt = 0 := by decide
    have g26 := tI_ne h2
    unfold B_X8_set_26
    have f27 : cR u 3 < 2 := U_u.r 3
    refine wq_ok.mpr ⟨by first | assumption | omega, ?_⟩
    have f28 : (8 : Int32).toInt = 8 := by decide
    have f29 : (0 : Int) ≤ (mI u l1 9).toInt ∧ (mI u l1 9).toInt ≤ (3500 : Int) := U_u.m l1 9
    have f30 : (0 : Int) ≤ (mI u l1 5).toInt ∧ (mI u l1 5).toInt ≤ (4 : Int) := U_u.m l1 5
    have f31 := i32_b (l2)
    refine wq_bcV (v_X6_step hN U_u (show isImg ((8 : Int32)) → 0 ≤ (mI u l1 5).toInt ∧ (mI u l1 5).toInt ≤ 4 by (unfold isImg; omega))) (fun r_3 u_2 U_u_2 G_u_2 p32 => ?_)
    have H_u_2 := H_u.call G_u_2 (show ∀ k ∈ [], k ∈ [] by decide)
    exact wq_some.mpr ⟨U_u_2, H_u_2, trivial⟩
set_option maxHeartbeats 4000000 in
theorem v_X3_put {N : Nat} {u : CSt} (hN : 5000000000 ≤ N) (U_u : UC u) {l1 : Nat} {l2 : Int32} : wq (F_X3_put N l1 l2 u) (VP [] (fun (r : Int32) (w : CSt) => True) u) := by
  have H_u : FR [] u u := FR.rf
  unfold F_X3_put
  unfold B_X3_put_0
  refine wq_if.mpr ⟨fun h1 => ?_, fun h1 => ?_⟩
  · show wq _ _
    have f2 : (0 : Int) ≤ (mI u l1 8).toInt ∧ (mI u l1 8).toInt ≤ (1 : Int) := U_u.m l1 8
    have f3 : (0 : Int32).toInt = 0 := by decide
    have g4 := tI_eq.mp h1
    have f5 := i32_b (l2)
    refine wq_bcV (v_X8_set hN U_u ) (fun r6 u_2 U_u_2 G_u_2 p7 => ?_)
    have H_u_2 := H_u.call G_u_2 (show ∀ k ∈ [], k ∈ [] by decide)
    exact wq_some.mpr ⟨U_u_2, H_u_2, trivial⟩
  · show wq _ _
    have f8 : (0 : Int) ≤ (mI u l1 8).toInt ∧ (mI u l1 8).toInt ≤ (1 : Int) := U_u.m l1 8
    have f9 : (0 : Int32).toInt = 0 := by decide
    have g10 := tI_ne h1
    have f11 : cR u 2 < 2 := U_u.r 2
    refine wq_ok.mpr ⟨by first | assumption | omega, ?_⟩
    have f12 : (15 : Int32).toInt = 15 := by decide
    have f13 : (0 : Int) ≤ (mI u l1 5).toInt ∧ (mI u l1 5).toInt ≤ (4 : Int) := U_u.m l1 5
    have f14 := i32_b (l2)
    refine wq_bcV (v_X6_step hN U_u (show isImg ((15 : Int32)) → 0 ≤ (mI u l1 5).toInt ∧ (mI u l1 5).toInt ≤ 4 by (unfold isImg; omega))) (fun r_5 u_4 U_u_4 G_u_4 p15 => ?_)
    have H_u_4 := H_u.call G_u_4 (show ∀ k ∈ [], k ∈ [] by decide)
    exact wq_some.mpr ⟨U_u_4, H_u_4, trivial⟩
