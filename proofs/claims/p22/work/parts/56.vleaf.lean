/-! Small methods of the class keep the ranges. -/
set_option maxHeartbeats 4000000 in
theorem v_X4_become {N : Nat} {u : CSt} (hN : 5000000000 ≤ N) (U_u : UC u) {l0 : Nat} {l1 : Int32} {l2 : Int64} {l4 : Int32} : wq (F_X4_become N l0 l1 l2 l4 u) (VP [] (fun (r : Int32) (w : CSt) => True) u) := by
  have H_u : FR [] u u := FR.rf
  unfold F_X4_become
  unfold B_X4_become_0
  refine wq_pc.mpr ?_
  have U_u_1 : UC (xmL u l0 0 l2) := U_u.xmL
  have H_u_1 : FR [] u (xmL u l0 0 l2) := H_u.of rfl rfl
  generalize e_u_1 : xmL u l0 0 l2 = u_1 at U_u_1 H_u_1 ⊢
  refine wq_pc.mpr ?_
  have f1 := i32_b (l4)
  have U_u_2 : UC (xmI u_1 l0 1 l4) := U_u_1.xmI (k := 1) (show (-2147483648 : Int) ≤ (l4).toInt by omega) (show (l4).toInt ≤ (2147483647 : Int) by omega)
  have H_u_2 : FR [] u (xmI u_1 l0 1 l4) := H_u_1.of rfl rfl
  generalize e_u_2 : xmI u_1 l0 1 l4 = u_2 at U_u_2 H_u_2 ⊢
  refine wq_pc.mpr ?_
  have f2 := i32_b (l1)
  have U_u_3 : UC (xmI u_2 l0 2 l1) := U_u_2.xmI (k := 2) (show (-2147483648 : Int) ≤ (l1).toInt by omega) (show (l1).toInt ≤ (2147483647 : Int) by omega)
  have H_u_3 : FR [] u (xmI u_2 l0 2 l1) := H_u_2.of rfl rfl
  generalize e_u_3 : xmI u_2 l0 2 l1 = u_3 at U_u_3 H_u_3 ⊢
  refine wq_pc.mpr ?_
  have f3 : (0 : Int32).toInt = 0 := by decide
  have U_u_4 : UC (xmI u_3 l0 4 0) := U_u_3.xmI (k := 4) (show (0 : Int) ≤ ((0 : Int32)).toInt by omega) (show ((0 : Int32)).toInt ≤ (2147483647 : Int) by omega)
  have H_u_4 : FR [] u (xmI u_3 l0 4 0) := H_u_3.of rfl rfl
  generalize e_u_4 : xmI u_3 l0 4 0 = u_4 at U_u_4 H_u_4 ⊢
  refine wq_pc.mpr ?_
  have f4 : (3 : Int32).toInt = 3 := by decide
  have U_u_5 : UC (xmI u_4 l0 5 3) := U_u_4.xmI (k := 5) (show (0 : Int) ≤ ((3 : Int32)).toInt by omega) (show ((3 : Int32)).toInt ≤ (4 : Int) by omega)
  have H_u_5 : FR [] u (xmI u_4 l0 5 3) := H_u_4.of rfl rfl
  generalize e_u_5 : xmI u_4 l0 5 3 = u_5 at U_u_5 H_u_5 ⊢
  refine wq_pc.mpr ?_
  have U_u_6 : UC (xmI u_5 l0 6 0) := U_u_5.xmI (k := 6) (show (-2147483648 : Int) ≤ ((0 : Int32)).toInt by omega) (show ((0 : Int32)).toInt ≤ (2147483647 : Int) by omega)
  have H_u_6 : FR [] u (xmI u_5 l0 6 0) := H_u_5.of rfl rfl
  generalize e_u_6 : xmI u_5 l0 6 0 = u_6 at U_u_6 H_u_6 ⊢
  refine wq_pc.mpr ?_
  have U_u_7 : UC (xmI u_6 l0 7 0) := U_u_6.xmI (k := 7) (show (0 : Int) ≤ ((0 : Int32)).toInt by omega) (show ((0 : Int32)).toInt ≤ (300 : Int) by omega)
  have H_u_7 : FR [] u (xmI u_6 l0 7 0) := H_u_6.of rfl rfl
  generalize e_u_7 : xmI u_6 l0 7 0 = u_7 at U_u_7 H_u_7 ⊢
  refine wq_pc.mpr ?_
  have U_u_8 : UC (xmI u_7 l0 8 0) := U_u_7.xmI (k := 8) (show (0 : Int) ≤ ((0 : Int32)).toInt by omega) (show ((0 : Int32)).toInt ≤ (1 : Int) by omega)
  have H_u_8 : FR [] u (xmI u_7 l0 8 0) := H_u_7.of rfl rfl
  generalize e_u_8 : xmI u_7 l0 8 0 = u_8 at U_u_8 H_u_8 ⊢
  refine wq_pc.mpr ?_
  have U_u_9 : UC (xmI u_8 l0 9 0) := U_u_8.xmI (k := 9) (show (0 : Int) ≤ ((0 : Int32)).toInt by omega) (show ((0 : Int32)).toInt ≤ (3500 : Int) by omega)
  have H_u_9 : FR [] u (xmI u_8 l0 9 0) := H_u_8.of rfl rfl
  generalize e_u_9 : xmI u_8 l0 9 0 = u_9 at U_u_9 H_u_9 ⊢
  refine wq_pc.mpr ?_
  have U_u_10 : UC (xmL u_9 l0 10 0) := U_u_9.xmL
  have H_u_10 : FR [] u (xmL u_9 l0 10 0) := H_u_9.of rfl rfl
  generalize e_u_10 : xmL u_9 l0 10 0 = u_10 at U_u_10 H_u_10 ⊢
  refine wq_pc.mpr ?_
  have U_u_11 : UC (xmI u_10 l0 11 0) := U_u_10.xmI (k := 11) (show (-2147483648 : Int) ≤ ((0 : Int32)).toInt by omega) (show ((0 : Int32)).toInt ≤ (2147483647 : Int) by omega)
  have H_u_11 : FR [] u (xmI u_10 l0 11 0) := H_u_10.of rfl rfl
  generalize e_u_11 : xmI u_10 l0 11 0 = u_11 at U_u_11 H_u_11 ⊢
  refine wq_pc.mpr ?_
  have U_u_12 : UC (xmI u_11 l0 12 0) := U_u_11.xmI (k := 12) (show (-2147483648 : Int) ≤ ((0 : Int32)).toInt by omega) (show ((0 : Int32)).toInt ≤ (2147483647 : Int) by omega)
  have H_u_12 : FR [] u (xmI u_11 l0 12 0) := H_u_11.of rfl rfl
  generalize e_u_12 : xmI u_11 l0 12 0 = u_12 at U_u_12 H_u_12 ⊢
  refine wq_pc.mpr ?_
  have U_u_13 : UC (xmI u_12 l0 13 0) := U_u_12.xmI (k := 13) (show (-2147483648 : Int) ≤ ((0 : Int32)).toInt by omega) (show ((0 : Int32)).toInt ≤ (2147483647 : Int) by omega)
  have H_u_13 : FR [] u (xmI u_12 l0 13 0) := H_u_12.of rfl rfl
  generalize e_u_13 : xmI u_12 l0 13 0 = u_13 at U_u_13 H_u_13 ⊢
  refine wq_pc.mpr ?_
  have f5 : (-1 : Int32).toInt = -1 := by decide
  have U_u_14 : UC (xmI u_13 l0 14 (-1)) := U_u_13.xmI (k := 14) (show (-2147483648 : Int) ≤ (((-1) : Int32)).toInt by omega) (show (((-1) : Int32)).toInt ≤ (2147483647 : Int) by omega)
  have H_u_14 : FR [] u (xmI u_13 l0 14 (-1)) := H_u_13.of rfl rfl
  generalize e_u_14 : xmI u_13 l0 14 (-1) = u_14 at U_u_14 H_u_14 ⊢
  exact wq_some.mpr ⟨U_u_14, H_u_14, trivial⟩
set_option maxHeartbeats 4000000 in
theorem v_X4_isLocal {N : Nat} {u : CSt} (hN : 5000000000 ≤ N) (U_u : UC u) {l0 : Nat} : wq (F_X4_isLocal N l0 u) (VR (fun (r : Int32) => r.toInt = 0 ∨ r.toInt = 1) u) := by
  have H_u : FR [] u u := FR.rf
  unfold F_X4_isLocal
  unfold B_X4_isLocal_0
  refine wq_if.mpr ⟨fun h1 => ?_, fun h1 => ?_⟩
  · show wq _ _
    have f2 : (-2147483648 : Int) ≤ (mI u l0 2).toInt ∧ (mI u l0 2).toInt ≤ (2147483647 : Int) := U_u.m l0 2
    have f3 : (5 : Int32).toInt = 5 := by decide
    have g4 := tI_eq.mp h1
    unfold B_X4_isLocal_17
    have f5 : (1 : Int32).toInt = 1 := by decide
    exact wq_some.mpr ⟨rfl, (show ((1 : Int32)).toInt = 0 ∨ ((1 : Int32)).toInt = 1 by omega)⟩
  · show wq _ _
    have f6 : (-2147483648 : Int) ≤ (mI u l0 2).toInt ∧ (mI u l0 2).toInt ≤ (2147483647 : Int) := U_u.m l0 2
    have f7 : (5 : Int32).toInt = 5 := by decide
    have g8 := tI_ne h1
    refine wq_if.mpr ⟨fun h9 => ?_, fun h9 => ?_⟩
    · show wq _ _
      have f10 : (6 : Int32).toInt = 6 := by decide
      have g11 := tI_eq.mp h9
      unfold B_X4_isLocal_17
      have f12 : (1 : Int32).toInt = 1 := by decide
      exact wq_some.mpr ⟨rfl, (show ((1 : Int32)).toInt = 0 ∨ ((1 : Int32)).toInt = 1 by omega)⟩
    · show wq _ _
      have f13 : (6 : Int32).toInt = 6 := by decide
      have g14 := tI_ne h9
      have f15 : (0 : Int32).toInt = 0 := by decide
      exact wq_some.mpr ⟨rfl, (show ((0 : Int32)).toInt = 0 ∨ ((0 : Int32)).toInt = 1 by omega)⟩
set_option maxHeartbeats 4000000 in
theorem v_X4_hasNumbers {N : Nat} {u : CSt} (hN : 5000000000 ≤ N) (U_u : UC u) {l0 : Nat} : wq (F_X4_hasNumbers N l0 u) (VR (fun (r : Int32) => r.toInt = 0 ∨ r.toInt = 1) u) := by
  have H_u : FR [] u u := FR.rf
  unfold F_X4_hasNumbers
  unfold B_X4_hasNumbers_0
  refine wq_if.mpr ⟨fun h1 => ?_, fun h1 => ?_⟩
  · show wq _ _
    have f2 : (-2147483648 : Int) ≤ (mI u l0 2).toInt ∧ (mI u l0 2).toInt ≤ (2147483647 : Int) := U_u.m l0 2
    have f3 : (0 : Int32).toInt = 0 := by decide
    have g4 := tI_eq.mp h1
    unfold B_X4_hasNumbers_14
    have f5 : (1 : Int32).toInt = 1 := by decide
    exact wq_some.mpr ⟨rfl, (show ((1 : Int32)).toInt = 0 ∨ ((1 : Int32)).toInt = 1 by omega)⟩
  · show wq _ _
    have f6 : (-2147483648 : Int) ≤ (mI u l0 2).toInt ∧ (mI u l0 2).toInt ≤ (2147483647 : Int) := U_u.m l0 2
    have f7 : (0 : Int32).toInt = 0 := by decide
    have g8 := tI_ne h1
    refine wq_bcR (v_X4_isLocal hN U_u ) (fun r_3 p9 => ?_)
    try dsimp only at p9
    refine wq_if.mpr ⟨fun h10 => ?_, fun h10 => ?_⟩
    · show wq _ _
      have f11 := i32_b (r_3)
      have g12 := tI_eq.mp h10
      exact wq_some.mpr ⟨rfl, (show ((0 : Int32)).toInt = 0 ∨ ((0 : Int32)).toInt = 1 by omega)⟩
    · show wq _ _
      have f13 := i32_b (r_3)
      have g14 := tI_ne h10
      unfold B_X4_hasNumbers_14
      have f15 : (1 : Int32).toInt = 1 := by decide
      exact wq_some.mpr ⟨rfl, (show ((1 : Int32)).toInt = 0 ∨ ((1 : Int32)).toInt = 1 by omega)⟩
set_option maxHeartbeats 4000000 in
theorem v_X4_isPlaced {N : Nat} {u : CSt} (hN : 5000000000 ≤ N) (U_u : UC u) {l0 : Nat} : wq (F_X4_isPlaced N l0 u) (VR (fun (r : Int32) => r.toInt = 0 ∨ r.toInt = 1) u) := by
  have H_u : FR [] u u := FR.rf
  unfold F_X4_isPlaced
  unfold B_X4_isPlaced_0
  refine wq_if.mpr ⟨fun h1 => ?_, fun h1 => ?_⟩
  · show wq _ _
    have f2 : (-2147483648 : Int) ≤ (mI u l0 2).toInt ∧ (mI u l0 2).toInt ≤ (2147483647 : Int) := U_u.m l0 2
    have f3 : (0 : Int32).toInt = 0 := by decide
    have g4 := tI_eq.mp h1
    refine wq_if.mpr ⟨fun h5 => ?_, fun h5 => ?_⟩
    · show wq _ _
      have f6 : (-2147483648 : Int) ≤ (mI u l0 6).toInt ∧ (mI u l0 6).toInt ≤ (2147483647 : Int) := U_u.m l0 6
      have f7 : (2 : Int32).toInt = 2 := by decide
      have g8 := tI_eq.mp h5
      unfold B_X4_isPlaced_23
      have f9 : (1 : Int32).toInt = 1 := by decide
      exact wq_some.mpr ⟨rfl, (show ((1 : Int32)).toInt = 0 ∨ ((1 : Int32)).toInt = 1 by omega)⟩
    · show wq _ _
      have f10 : (-2147483648 : Int) ≤ (mI u l0 6).toInt ∧ (mI u l0 6).toInt ≤ (2147483647 : Int) := U_u.m l0 6
      have f11 : (2 : Int32).toInt = 2 := by decide
      have g12 := tI_ne h5
      refine wq_if.mpr ⟨fun h13 => ?_, fun h13 => ?_⟩
      · show wq _ _
        have f14 : (3 : Int32).toInt = 3 := by decide
        have g15 := tI_eq.mp h13
        unfold B_X4_isPlaced_23
        have f16 : (1 : Int32).toInt = 1 := by decide
        exact wq_some.mpr ⟨rfl, (show ((1 : Int32)).toInt = 0 ∨ ((1 : Int32)).toInt = 1 by omega)⟩
      · show wq _ _
        have f17 : (3 : Int32).toInt = 3 := by decide
        have g18 := tI_ne h13
        exact wq_some.mpr ⟨rfl, (show ((0 : Int32)).toInt = 0 ∨ ((0 : Int32)).toInt = 1 by omega)⟩
  · show wq _ _
    have f19 : (-2147483648 : Int) ≤ (mI u l0 2).toInt ∧ (mI u l0 2).toInt ≤ (2147483647 : Int) := U_u.m l0 2
    have f20 : (0 : Int32).toInt = 0 := by decide
    have g21 := tI_ne h1
    exact wq_some.mpr ⟨rfl, (show ((0 : Int32)).toInt = 0 ∨ ((0 : Int32)).toInt = 1 by omega)⟩
set_option maxHeartbeats 4000000 in
theorem v_X4_isInput {N : Nat} {u : CSt} (hN : 5000000000 ≤ N) (U_u : UC u) {l0 : Nat} : wq (F_X4_isInput N l0 u) (VR (fun (r : Int32) => r.toInt = 0 ∨ r.toInt = 1) u) := by
  have H_u : FR [] u u := FR.rf
  unfold F_X4_isInput
  unfold B_X4_isInput_0
  refine wq_if.mpr ⟨fun h1 => ?_, fun h1 => ?_⟩
  · show wq _ _
    have f2 : (-2147483648 : Int) ≤ (mI u l0 2).toInt ∧ (mI u l0 2).toInt ≤ (2147483647 : Int) := U_u.m l0 2
    have f3 : (0 : Int32).toInt = 0 := by decide
    have g4 := tI_eq.mp h1
    refine wq_if.mpr ⟨fun h5 => ?_, fun h5 => ?_⟩
    · show wq _ _
      have f6 : (-2147483648 : Int) ≤ (mI u l0 6).toInt ∧ (mI u l0 6).toInt ≤ (2147483647 : Int) := U_u.m l0 6
      have f7 : (2 : Int32).toInt = 2 := by decide
      have g8 := tI_eq.mp h5
      have f9 : (1 : Int32).toInt = 1 := by decide
      exact wq_some.mpr ⟨rfl, (show ((1 : Int32)).toInt = 0 ∨ ((1 : Int32)).toInt = 1 by omega)⟩
    · show wq _ _
      have f10 : (-2147483648 : Int) ≤ (mI u l0 6).toInt ∧ (mI u l0 6).toInt ≤ (2147483647 : Int) := U_u.m l0 6
      have f11 : (2 : Int32).toInt = 2 := by decide
      have g12 := tI_ne h5
      exact wq_some.mpr ⟨rfl, (show ((0 : Int32)).toInt = 0 ∨ ((0 : Int32)).toInt = 1 by omega)⟩
  · show wq _ _
    have f13 : (-2147483648 : Int) ≤ (mI u l0 2).toInt ∧ (mI u l0 2).toInt ≤ (2147483647 : Int) := U_u.m l0 2
    have f14 : (0 : Int32).toInt = 0 := by decide
    have g15 := tI_ne h1
    exact wq_some.mpr ⟨rfl, (show ((0 : Int32)).toInt = 0 ∨ ((0 : Int32)).toInt = 1 by omega)⟩
set_option maxHeartbeats 4000000 in
theorem v_X7_become {N : Nat} {u : CSt} (hN : 5000000000 ≤ N) (U_u : UC u) {l0 : Nat} {l1 : Int32} {l2 : Int32} {l3 : Int32} : wq (F_X7_become N l0 l1 l2 l3 u) (VP [] (fun (r : Int32) (w : CSt) => True) u) := by
  have H_u : FR [] u u := FR.rf
  unfold F_X7_become
  unfold B_X7_become_0
  refine wq_pc.mpr ?_
  have f1 := i32_b (l1)
  have U_u_1 : UC (xtI u l0 0 l1) := U_u.xtI (k := 0) (show (-2147483648 : Int) ≤ (l1).toInt by omega) (show (l1).toInt ≤ (2147483647 : Int) by omega)
  have H_u_1 : FR [] u (xtI u l0 0 l1) := H_u.of rfl rfl
  generalize e_u_1 : xtI u l0 0 l1 = u_1 at U_u_1 H_u_1 ⊢
  refine wq_pc.mpr ?_
  have f2 := i32_b (l2)
  have U_u_2 : UC (xtI u_1 l0 1 l2) := U_u_1.xtI (k := 1) (show (-2147483648 : Int) ≤ (l2).toInt by omega) (show (l2).toInt ≤ (2147483647 : Int) by omega)
  have H_u_2 : FR [] u (xtI u_1 l0 1 l2) := H_u_1.of rfl rfl
  generalize e_u_2 : xtI u_1 l0 1 l2 = u_2 at U_u_2 H_u_2 ⊢
  refine wq_pc.mpr ?_
  have f3 := i32_b (l3)
  have U_u_3 : UC (xtI u_2 l0 2 l3) := U_u_2.xtI (k := 2) (show (-2147483648 : Int) ≤ (l3).toInt by omega) (show (l3).toInt ≤ (2147483647 : Int) by omega)
  have H_u_3 : FR [] u (xtI u_2 l0 2 l3) := H_u_2.of rfl rfl
  generalize e_u_3 : xtI u_2 l0 2 l3 = u_3 at U_u_3 H_u_3 ⊢
  refine wq_pc.mpr ?_
  have f4 : (0 : Int32).toInt = 0 := by decide
  have U_u_4 : UC (xtI u_3 l0 3 0) := U_u_3.xtI (k := 3) (show (0 : Int) ≤ ((0 : Int32)).toInt by omega) (show ((0 : Int32)).toInt ≤ (1 : Int) by omega)
  have H_u_4 : FR [] u (xtI u_3 l0 3 0) := H_u_3.of rfl rfl
  generalize e_u_4 : xtI u_3 l0 3 0 = u_4 at U_u_4 H_u_4 ⊢
  refine wq_pc.mpr ?_
  have U_u_5 : UC (xtI u_4 l0 4 0) := U_u_4.xtI (k := 4) (show (-2147483648 : Int) ≤ ((0 : Int32)).toInt by omega) (show ((0 : Int32)).toInt ≤ (2147483647 : Int) by omega)
  have H_u_5 : FR [] u (xtI u_4 l0 4 0) := H_u_4.of rfl rfl
  generalize e_u_5 : xtI u_4 l0 4 0 = u_5 at U_u_5 H_u_5 ⊢
  refine wq_pc.mpr ?_
  have U_u_6 : UC (xtI u_5 l0 5 0) := U_u_5.xtI (k := 5) (show (-2147483648 : Int) ≤ ((0 : Int32)).toInt by omega) (show ((0 : Int32)).toInt ≤ (2147483647 : Int) by omega)
  have H_u_6 : FR [] u (xtI u_5 l0 5 0) := H_u_5.of rfl rfl
  generalize e_u_6 : xtI u_5 l0 5 0 = u_6 at U_u_6 H_u_6 ⊢
  refine wq_pc.mpr ?_
  have U_u_7 : UC (xtI u_6 l0 6 0) := U_u_6.xtI (k := 6) (show (-2147483648 : Int) ≤ ((0 : Int32)).toInt by omega) (show ((0 : Int32)).toInt ≤ (2147483647 : Int) by omega)
  have H_u_7 : FR [] u (xtI u_6 l0 6 0) := H_u_6.of rfl rfl
  generalize e_u_7 : xtI u_6 l0 6 0 = u_7 at U_u_7 H_u_7 ⊢
  refine wq_pc.mpr ?_
  have U_u_8 : UC (xtI u_7 l0 7 0) := U_u_7.xtI (k := 7) (show (-2147483648 : Int) ≤ ((0 : Int32)).toInt by omega) (show ((0 : Int32)).toInt ≤ (2147483647 : Int) by omega)
  have H_u_8 : FR [] u (xtI u_7 l0 7 0) := H_u_7.of rfl rfl
  generalize e_u_8 : xtI u_7 l0 7 0 = u_8 at U_u_8 H_u_8 ⊢
  refine wq_pc.mpr ?_
  have U_u_9 : UC (xtI u_8 l0 8 0) := U_u_8.xtI (k := 8) (show (-2147483648 : Int) ≤ ((0 : Int32)).toInt by omega) (show ((0 : Int32)).toInt ≤ (2147483647 : Int) by omega)
  have H_u_9 : FR [] u (xtI u_8 l0 8 0) := H_u_8.of rfl rfl
  generalize e_u_9 : xtI u_8 l0 8 0 = u_9 at U_u_9 H_u_9 ⊢
  refine wq_pc.mpr ?_
  have U_u_10 : UC (xtI u_9 l0 9 0) := U_u_9.xtI (k := 9) (show (-2147483648 : Int) ≤ ((0 : Int32)).toInt by omega) (show ((0 : Int32)).toInt ≤ (2147483647 : Int) by omega)
  have H_u_10 : FR [] u (xtI u_9 l0 9 0) := H_u_9.of rfl rfl
  generalize e_u_10 : xtI u_9 l0 9 0 = u_10 at U_u_10 H_u_10 ⊢
  exact wq_some.mpr ⟨U_u_10, H_u_10, trivial⟩
set_option maxHeartbeats 4000000 in
theorem v_X10_forget {N : Nat} {u : CSt} (hN : 5000000000 ≤ N) (U_u : UC u)  : wq (F_X10_forget N  u) (VP [9, 10, 11] (fun (r : Int32) (w : CSt) => True) u) := by
  have H_u : FR [9, 10, 11] u u := FR.rf
  unfold F_X10_forget
  unfold B_X10_forget_0
  refine wq_pc.mpr ?_
  have f1 : (0 : Int32).toInt = 0 := by decide
  have U_u_1 : UC (xI u 9 0) := U_u.xI (k := 9) (show (0 : Int) ≤ ((0 : Int32)).toInt by omega) (show ((0 : Int32)).toInt ≤ (16 : Int) by omega)
  have H_u_1 : FR [9, 10, 11] u (xI u 9 0) := H_u.xI (by decide)
  generalize e_u_1 : xI u 9 0 = u_1 at U_u_1 H_u_1 ⊢
  refine wq_pc.mpr ?_
  have U_u_2 : UC (xI u_1 10 0) := U_u_1.xI (k := 10) (show (0 : Int) ≤ ((0 : Int32)).toInt by omega) (show ((0 : Int32)).toInt ≤ (100 : Int) by omega)
  have H_u_2 : FR [9, 10, 11] u (xI u_1 10 0) := H_u_1.xI (by decide)
  generalize e_u_2 : xI u_1 10 0 = u_2 at U_u_2 H_u_2 ⊢
  refine wq_pc.mpr ?_
  have U_u_3 : UC (xI u_2 11 0) := U_u_2.xI (k := 11) (show (0 : Int) ≤ ((0 : Int32)).toInt by omega) (show ((0 : Int32)).toInt ≤ (99 : Int) by omega)
  have H_u_3 : FR [9, 10, 11] u (xI u_2 11 0) := H_u_2.xI (by decide)
  generalize e_u_3 : xI u_2 11 0 = u_3 at U_u_3 H_u_3 ⊢
  exact wq_some.mpr ⟨U_u_3, H_u_3, trivial⟩
set_option maxHeartbeats 4000000 in
theorem v_X10_indexOf {N : Nat} {u : CSt} (hN : 5000000000 ≤ N) (U_u : UC u) {l1 : Int32} {l2 : Int32} : wq (F_X10_indexOf N l1 l2 u) (VR (fun (r : Int32) => r.toInt = -1 ∨ (0 ≤ r.toInt ∧ r.toInt < (cI u 9).toInt)) u) := by
  have H_u : FR [] u u := FR.rf
  unfold F_X10_indexOf
  unfold B_X10_indexOf_0
  have f2 := i32_b (l1)
  have f3 := i32_b (l2)
  have f4 : (0 : Int32).toInt = 0 := by decide
  unfold LP_X10_indexOf_2
  refine wq_lp (fun (d : Nat) (a : Int32 × Int32 × Int32 × CSt) => a.2.2.2 = u ∧ a.1 = l1 ∧ a.2.1 = l2 ∧ 0 ≤ a.2.2.1.toInt ∧ d = (2147483648 - a.2.2.1.toInt).toNat) ?_ _ ((2147483648 - ((0 : Int32)).toInt).toNat) _ (by omega) ⟨rfl, rfl, rfl, (show 0 ≤ ((0 : Int32)).toInt by omega), rfl⟩
  rintro d_1 R_1 ⟨l1_1, l2_1, l3_1, u_1⟩ ⟨e_1, k_1_0, k_1_1, i_1_0, m_1⟩ ih_1
  have e_1 : u = u_1 := Eq.symm e_1
  subst e_1
  have k_1_0 : l1 = l1_1 := Eq.symm k_1_0
  subst k_1_0
  have k_1_1 : l2 = l2_1 := Eq.symm k_1_1
  subst k_1_1
  have i_1_0 : 0 ≤ l3_1.toInt := i_1_0
  have m_1 : d_1 = (2147483648 - l3_1.toInt).toNat := m_1
  show wq (B_X10_indexOf_2 N R_1 (l1) (l2) (l3_1) u) _
  unfold B_X10_indexOf_2
  refine wq_if.mpr ⟨fun h5 => ?_, fun h5 => ?_⟩
  · show wq _ _
    have f6 : (0 : Int) ≤ (cI u 9).toInt ∧ (cI u 9).toInt ≤ (16 : Int) := U_u.i  9
    have f7 := i32_b (l3_1)
    have g8 := Int32.le_iff_toInt_le.mp h5
    have f9 : (-1 : Int32).toInt = -1 := by decide
    exact wq_some.mpr ⟨rfl, (show (((-1) : Int32)).toInt = -1 ∨ (0 ≤ (((-1) : Int32)).toInt ∧ (((-1) : Int32)).toInt < (cI u 9).toInt) by omega)⟩
  · show wq _ _
    have f10 : (0 : Int) ≤ (cI u 9).toInt ∧ (cI u 9).toInt ≤ (16 : Int) := U_u.i  9
    have f11 := i32_b (l3_1)
    have g12 := Int32.lt_iff_toInt_lt.mp (Int32.not_le.mp h5)
    have x13 : vp_in (l3_1) 16 := vin_iff.mpr ⟨by omega, by omega⟩
    refine wq_rdU x13 (fun v_3 e_v_3 => ?_)
    refine wq_if.mpr ⟨fun h14 => ?_, fun h14 => ?_⟩
    · show wq _ _
      have f15 := i32_b (v_3)
      have g16 := tI_eq.mp h14
      have x17 : vp_in (l3_1) 16 := vin_iff.mpr ⟨by omega, by omega⟩
      refine wq_rdU x17 (fun v_6 e_v_6 => ?_)
      refine wq_if.mpr ⟨fun h18 => ?_, fun h18 => ?_⟩
      · show wq _ _
        have f19 := i32_b (v_6)
        have g20 := tI_eq.mp h18
        exact wq_some.mpr ⟨rfl, (show (l3_1).toInt = -1 ∨ (0 ≤ (l3_1).toInt ∧ (l3_1).toInt < (cI u 9).toInt) by omega)⟩
      · show wq _ _
        have f21 := i32_b (v_6)
        have g22 := tI_ne h18
        unfold B_X10_indexOf_32
        have f23 : (1 : Int32).toInt = 1 := by decide
        have f24 := tI_ad (l3_1) (1)
        have f25 := i32_b (l3_1 + 1)
        exact ih_1 ((2147483648 - (l3_1 + 1).toInt).toNat) (l1, l2, l3_1 + 1, u) (by omega) ⟨rfl, rfl, rfl, (show 0 ≤ (l3_1 + 1).toInt by omega), rfl⟩
    · show wq _ _
      have f26 := i32_b (v_3)
      have g27 := tI_ne h14
      unfold B_X10_indexOf_32
      have f28 : (1 : Int32).toInt = 1 := by decide
      have f29 := tI_ad (l3_1) (1)
      have f30 := i32_b (l3_1 + 1)
      exact ih_1 ((2147483648 - (l3_1 + 1).toInt).toNat) (l1, l2, l3_1 + 1, u) (by omega) ⟨rfl, rfl, rfl, (show 0 ≤ (l3_1 + 1).toInt by omega), rfl⟩
set_option maxHeartbeats 4000000 in
theorem v_X10_begin {N : Nat} {u : CSt} (hN : 5000000000 ≤ N) (U_u : UC u) {l1 : Int32} {l2 : Int32} {l3 : Int64} : wq (F_X10_begin N l1 l2 l3 u) (VP [9] (fun (r : Int32) (w : CSt) => True) u) := by
  have H_u : FR [9] u u := FR.rf
  unfold F_X10_begin
  unfold B_X10_begin_0
  refine wq_if.mpr ⟨fun h1 => ?_, fun h1 => ?_⟩
  · show wq _ _
    have f2 : (16 : Int32).toInt = 16 := by decide
    have f3 : (0 : Int) ≤ (cI u 9).toInt ∧ (cI u 9).toInt ≤ (16 : Int) := U_u.i  9
    have g4 := Int32.le_iff_toInt_le.mp h1
    exact wq_some.mpr ⟨U_u, H_u, trivial⟩
  · show wq _ _
    have f5 : (16 : Int32).toInt = 16 := by decide
    have f6 : (0 : Int) ≤ (cI u 9).toInt ∧ (cI u 9).toInt ≤ (16 : Int) := U_u.i  9
    have g7 := Int32.lt_iff_toInt_lt.mp (Int32.not_le.mp h1)
    have x8 : vp_in (cI u 9) 16 := vin_iff.mpr ⟨by omega, by omega⟩
    refine wq_wc.mpr ⟨x8, ?_⟩
    have U_u_3 : UC (xA u 220 ((cI u 9).toNatClampNeg) l1) := U_u.xA
    have H_u_3 : FR [9] u (xA u 220 ((cI u 9).toNatClampNeg) l1) := H_u.xA (by exact Or.inl (by decide))
    generalize e_u_3 : xA u 220 ((cI u 9).toNatClampNeg) l1 = u_3 at U_u_3 H_u_3 ⊢
    have f9 : (0 : Int) ≤ (cI u_3 9).toInt ∧ (cI u_3 9).toInt ≤ (16 : Int) := U_u_3.i  9
    have f10 : (cI u_3 9).toInt = (cI u 9).toInt := by rw [← e_u_3]; rfl
    have x11 : vp_in (cI u_3 9) 16 := vin_iff.mpr ⟨by omega, by omega⟩
    refine wq_wc.mpr ⟨x11, ?_⟩
    have U_u_5 : UC (xA u_3 221 ((cI u_3 9).toNatClampNeg) l2) := U_u_3.xA
    have H_u_5 : FR [9] u (xA u_3 221 ((cI u_3 9).toNatClampNeg) l2) := H_u_3.xA (by exact Or.inl (by decide))
    generalize e_u_5 : xA u_3 221 ((cI u_3 9).toNatClampNeg) l2 = u_5 at U_u_5 H_u_5 ⊢
    have f12 : (0 : Int) ≤ (cI u_5 9).toInt ∧ (cI u_5 9).toInt ≤ (16 : Int) := U_u_5.i  9
    have f13 : (cI u_5 9).toInt = (cI u_3 9).toInt := by rw [← e_u_5]; rfl
    have x14 : vp_in (cI u_5 9) 16 := vin_iff.mpr ⟨by omega, by omega⟩
    refine wq_wc.mpr ⟨x14, ?_⟩
    have U_u_7 : UC (xB u_5 222 ((cI u_5 9).toNatClampNeg) l3) := U_u_5.xB
    have H_u_7 : FR [9] u (xB u_5 222 ((cI u_5 9).toNatClampNeg) l3) := H_u_5.of rfl rfl
    generalize e_u_7 : xB u_5 222 ((cI u_5 9).toNatClampNeg) l3 = u_7 at U_u_7 H_u_7 ⊢
    refine wq_pc.mpr ?_
    have f15 : (0 : Int) ≤ (cI u_7 9).toInt ∧ (cI u_7 9).toInt ≤ (16 : Int) := U_u_7.i  9
    have f16 : (cI u_7 9).toInt = (cI u_5 9).toInt := by rw [← e_u_7]; rfl
    have f17 : (1 : Int32).toInt = 1 := by decide
    have f18 := tI_ad (cI u_7 9) (1)
    have f19 := i32_b ((cI u_7 9) + 1)
    have U_u_8 : UC (xI u_7 9 ((cI u_7 9) + 1)) := U_u_7.xI (k := 9) (show (0 : Int) ≤ ((cI u_7 9) + 1).toInt by omega) (show ((cI u_7 9) + 1).toInt ≤ (16 : Int) by omega)
    have H_u_8 : FR [9] u (xI u_7 9 ((cI u_7 9) + 1)) := H_u_7.xI (by decide)
    generalize e_u_8 : xI u_7 9 ((cI u_7 9) + 1) = u_8 at U_u_8 H_u_8 ⊢
    exact wq_some.mpr ⟨U_u_8, H_u_8, trivial⟩
set_option maxHeartbeats 4000000 in
theorem v_X10_leave {N : Nat} {u : CSt} (hN : 5000000000 ≤ N) (U_u : UC u) {l1 : Int32} (h_0 : 0 < (cI u 9).toInt) (h_1 : l1.toInt < 100) : wq (F_X10_leave N l1 u) (VP [9] (fun (r : Int32) (w : CSt) => True) u) := by
  have H_u : FR [9] u u := FR.rf
  unfold F_X10_leave
  unfold B_X10_leave_0
  have f2 := i32_b (l1)
  have f3 : (0 : Int) ≤ (cI u 9).toInt ∧ (cI u 9).toInt ≤ (16 : Int) := U_u.i  9
  unfold LP_X10_leave_2
  refine wq_lp (fun (d : Nat) (a : Int32 × CSt) => UC a.2 ∧ FR [9] u a.2 ∧ 0 < (cI a.2 9).toInt ∧ a.1.toInt < 100 ∧ d = (2147483648 - a.1.toInt).toNat) ?_ _ ((2147483648 - (l1).toInt).toNat) _ (by omega) ⟨U_u, H_u, (show 0 < (cI u 9).toInt by omega), (show (l1).toInt < 100 by omega), rfl⟩
  rintro d_1 R_1 ⟨l2_1, u_1⟩ ⟨U_1, H_1, i_1_0, i_1_1, m_1⟩ ih_1
  have i_1_0 : 0 < (cI u_1 9).toInt := i_1_0
  have i_1_1 : l2_1.toInt < 100 := i_1_1
  have m_1 : d_1 = (2147483648 - l2_1.toInt).toNat := m_1
  have U_1 : UC u_1 := U_1
  have H_1 : FR [9] u u_1 := H_1
  show wq (B_X10_leave_2 N R_1 (l2_1) u_1) _
  unfold B_X10_leave_2
  refine wq_if.mpr ⟨fun h4 => ?_, fun h4 => ?_⟩
  · show wq _ _
    have f5 := i32_b (l2_1)
    have f6 : (0 : Int32).toInt = 0 := by decide
    have g7 := Int32.lt_iff_toInt_lt.mp h4
    unfold B_X10_leave_64
    refine wq_pc.mpr ?_
    have f8 : (0 : Int) ≤ (cI u_1 9).toInt ∧ (cI u_1 9).toInt ≤ (16 : Int) := U_1.i  9
    have f9 : (1 : Int32).toInt = 1 := by decide
    have f10 := tI_sb (cI u_1 9) (1)
    have f11 := i32_b ((cI u_1 9) - 1)
    have U_u_1 : UC (xI u_1 9 ((cI u_1 9) - 1)) := U_1.xI (k := 9) (show (0 : Int) ≤ ((cI u_1 9) - 1).toInt by omega) (show ((cI u_1 9) - 1).toInt ≤ (16 : Int) by omega)
    have H_u_1 : FR [9] u (xI u_1 9 ((cI u_1 9) - 1)) := H_1.xI (by decide)
    generalize e_u_1 : xI u_1 9 ((cI u_1 9) - 1) = u_1 at U_u_1 H_u_1 ⊢
    exact wq_some.mpr ⟨U_u_1, H_u_1, trivial⟩
  · show wq _ _
    have f12 := i32_b (l2_1)
    have f13 : (0 : Int32).toInt = 0 := by decide
    have g14 := Int32.le_iff_toInt_le.mp (Int32.not_lt.mp h4)
    refine wq_if.mpr ⟨fun h15 => ?_, fun h15 => ?_⟩
    · show wq _ _
      have f16 : (0 : Int) ≤ (cI u_1 9).toInt ∧ (cI u_1 9).toInt ≤ (16 : Int) := U_1.i  9
      have f17 : (1 : Int32).toInt = 1 := by decide
      have f18 := tI_ad (l2_1) (1)
      have f19 := i32_b (l2_1 + 1)
      have g20 := Int32.le_iff_toInt_le.mp h15
      unfold B_X10_leave_64
      refine wq_pc.mpr ?_
      have f21 := tI_sb (cI u_1 9) (1)
      have f22 := i32_b ((cI u_1 9) - 1)
      have U_u_1 : UC (xI u_1 9 ((cI u_1 9) - 1)) := U_1.xI (k := 9) (show (0 : Int) ≤ ((cI u_1 9) - 1).toInt by omega) (show ((cI u_1 9) - 1).toInt ≤ (16 : Int) by omega)
      have H_u_1 : FR [9] u (xI u_1 9 ((cI u_1 9) - 1)) := H_1.xI (by decide)
      generalize e_u_1 : xI u_1 9 ((cI u_1 9) - 1) = u_1 at U_u_1 H_u_1 ⊢
      exact wq_some.mpr ⟨U_u_1, H_u_1, trivial⟩
    · show wq _ _
      have f23 : (0 : Int) ≤ (cI u_1 9).toInt ∧ (cI u_1 9).toInt ≤ (16 : Int) := U_1.i  9
      have f24 : (1 : Int32).toInt = 1 := by decide
      have f25 := tI_ad (l2_1) (1)
      have f26 := i32_b (l2_1 + 1)
      have g27 := Int32.lt_iff_toInt_lt.mp (Int32.not_le.mp h15)
      have x28 : vp_in (l2_1 + 1) 16 := vin_iff.mpr ⟨by omega, by omega⟩
      refine wq_rdU x28 (fun v_5 e_v_5 => ?_)
      have x29 : vp_in (l2_1) 16 := vin_iff.mpr ⟨by omega, by omega⟩
      refine wq_wc.mpr ⟨x29, ?_⟩
      have U_u_7 : UC (xA u_1 220 l2_1.toNatClampNeg v_5) := U_1.xA
      have H_u_7 : FR [9] u (xA u_1 220 l2_1.toNatClampNeg v_5) := H_1.xA (by exact Or.inl (by decide))
      generalize e_u_7 : xA u_1 220 l2_1.toNatClampNeg v_5 = u_7 at U_u_7 H_u_7 ⊢
      have x30 : vp_in (l2_1 + 1) 16 := vin_iff.mpr ⟨by omega, by omega⟩
      refine wq_rdU x30 (fun v_9 e_v_9 => ?_)
      have x31 : vp_in (l2_1) 16 := vin_iff.mpr ⟨by omega, by omega⟩
      refine wq_wc.mpr ⟨x31, ?_⟩
      have U_u_11 : UC (xA u_7 221 l2_1.toNatClampNeg v_9) := U_u_7.xA
      have H_u_11 : FR [9] u (xA u_7 221 l2_1.toNatClampNeg v_9) := H_u_7.xA (by exact Or.inl (by decide))
      generalize e_u_11 : xA u_7 221 l2_1.toNatClampNeg v_9 = u_11 at U_u_11 H_u_11 ⊢
      have x32 : vp_in (l2_1 + 1) 16 := vin_iff.mpr ⟨by omega, by omega⟩
      refine wq_rdU x32 (fun v_13 e_v_13 => ?_)
      have x33 : vp_in (l2_1) 16 := vin_iff.mpr ⟨by omega, by omega⟩
      refine wq_wc.mpr ⟨x33, ?_⟩
      have U_u_15 : UC (xB u_11 222 l2_1.toNatClampNeg v_13) := U_u_11.xB
      have H_u_15 : FR [9] u (xB u_11 222 l2_1.toNatClampNeg v_13) := H_u_11.of rfl rfl
      generalize e_u_15 : xB u_11 222 l2_1.toNatClampNeg v_13 = u_15 at U_u_15 H_u_15 ⊢
      have f34 : (0 : Int) ≤ (cI u_15 9).toInt ∧ (cI u_15 9).toInt ≤ (16 : Int) := U_u_15.i  9
      have f35 : (cI u_15 9).toInt = (cI u_11 9).toInt := by rw [← e_u_15]; rfl
      have f36 : (0 : Int) ≤ (cI u_11 9).toInt ∧ (cI u_11 9).toInt ≤ (16 : Int) := U_u_11.i  9
      have f37 : (cI u_11 9).toInt = (cI u_7 9).toInt := by rw [← e_u_11]; rfl
      have f38 : (0 : Int) ≤ (cI u_7 9).toInt ∧ (cI u_7 9).toInt ≤ (16 : Int) := U_u_7.i  9
      have f39 : (cI u_7 9).toInt = (cI u_1 9).toInt := by rw [← e_u_7]; rfl
      exact ih_1 ((2147483648 - (l2_1 + 1).toInt).toNat) (l2_1 + 1, u_15) (by omega) ⟨U_u_15, H_u_15, (show 0 < (cI u_15 9).toInt by omega), (show (l2_1 + 1).toInt < 100 by omega), rfl⟩
set_option maxHeartbeats 4000000 in
theorem v_X10_see {N : Nat} {u : CSt} (hN : 5000000000 ≤ N) (U_u : UC u) {l1 : Int32} {l2 : Int32} {l3 : Int64} (h_0 : 0 ≤ l1.toInt ∧ l1.toInt < 16) : wq (F_X10_see N l1 l2 l3 u) (VP [10, 11] (fun (r : Int32) (w : CSt) => True) u) := by
  have H_u : FR [10, 11] u u := FR.rf
  unfold F_X10_see
  unfold B_X10_see_0
  have f1 := i32_b (l1)
  have x2 : vp_in (l1) 16 := vin_iff.mpr ⟨by omega, by omega⟩
  refine wq_rdU x2 (fun v_2 e_v_2 => ?_)
  refine wq_if.mpr ⟨fun h3 => ?_, fun h3 => ?_⟩
  · show wq _ _
    exact wq_some.mpr ⟨U_u, H_u, trivial⟩
  · show wq _ _
    have x4 : vp_in (l1) 16 := vin_iff.mpr ⟨by omega, by omega⟩
    refine wq_wc.mpr ⟨x4, ?_⟩
    have U_u_5 : UC (xB u 222 l1.toNatClampNeg l3) := U_u.xB
    have H_u_5 : FR [10, 11] u (xB u 222 l1.toNatClampNeg l3) := H_u.of rfl rfl
    generalize e_u_5 : xB u 222 l1.toNatClampNeg l3 = u_5 at U_u_5 H_u_5 ⊢
    have f5 : (0 : Int) ≤ (cI u_5 11).toInt ∧ (cI u_5 11).toInt ≤ (99 : Int) := U_u_5.i  11
    have f6 : (cI u_5 11).toInt = (cI u 11).toInt := by rw [← e_u_5]; rfl
    have f7 : (0 : Int) ≤ (cI u 11).toInt ∧ (cI u 11).toInt ≤ (99 : Int) := U_u.i  11
    have x8 : vp_in (cI u_5 11) 100 := vin_iff.mpr ⟨by omega, by omega⟩
    refine wq_wc.mpr ⟨x8, ?_⟩
    have U_u_7 : UC (xA u_5 223 ((cI u_5 11).toNatClampNeg) l2) := U_u_5.xA
    have H_u_7 : FR [10, 11] u (xA u_5 223 ((cI u_5 11).toNatClampNeg) l2) := H_u_5.xA (by exact Or.inl (by decide))
    generalize e_u_7 : xA u_5 223 ((cI u_5 11).toNatClampNeg) l2 = u_7 at U_u_7 H_u_7 ⊢
    have x9 : vp_in (l1) 16 := vin_iff.mpr ⟨by omega, by omega⟩
    refine wq_rdU x9 (fun v_9 e_v_9 => ?_)
    have f10 : (0 : Int) ≤ (cI u_7 11).toInt ∧ (cI u_7 11).toInt ≤ (99 : Int) := U_u_7.i  11
    have f11 : (cI u_7 11).toInt = (cI u_5 11).toInt := by rw [← e_u_7]; rfl
    have x12 : vp_in (cI u_7 11) 100 := vin_iff.mpr ⟨by omega, by omega⟩
    refine wq_wc.mpr ⟨x12, ?_⟩
    have U_u_11 : UC (xA u_7 224 ((cI u_7 11).toNatClampNeg) v_9) := U_u_7.xA
    have H_u_11 : FR [10, 11] u (xA u_7 224 ((cI u_7 11).toNatClampNeg) v_9) := H_u_7.xA (by exact Or.inl (by decide))
    generalize e_u_11 : xA u_7 224 ((cI u_7 11).toNatClampNeg) v_9 = u_11 at U_u_11 H_u_11 ⊢
    have x13 : vp_in (l1) 16 := vin_iff.mpr ⟨by omega, by omega⟩
    refine wq_rdU x13 (fun v_13 e_v_13 => ?_)
    have f14 : (0 : Int) ≤ (cI u_11 11).toInt ∧ (cI u_11 11).toInt ≤ (99 : Int) := U_u_11.i  11
    have f15 : (cI u_11 11).toInt = (cI u_7 11).toInt := by rw [← e_u_11]; rfl
    have x16 : vp_in (cI u_11 11) 100 := vin_iff.mpr ⟨by omega, by omega⟩
    refine wq_wc.mpr ⟨x16, ?_⟩
    have U_u_15 : UC (xA u_11 225 ((cI u_11 11).toNatClampNeg) v_13) := U_u_11.xA
    have H_u_15 : FR [10, 11] u (xA u_11 225 ((cI u_11 11).toNatClampNeg) v_13) := H_u_11.xA (by exact Or.inl (by decide))
    generalize e_u_15 : xA u_11 225 ((cI u_11 11).toNatClampNeg) v_13 = u_15 at U_u_15 H_u_15 ⊢
    have f17 : (0 : Int) ≤ (cI u_15 11).toInt ∧ (cI u_15 11).toInt ≤ (99 : Int) := U_u_15.i  11
    have f18 : (cI u_15 11).toInt = (cI u_11 11).toInt := by rw [← e_u_15]; rfl
    have x19 : vp_in (cI u_15 11) 100 := vin_iff.mpr ⟨by omega, by omega⟩
    refine wq_wc.mpr ⟨x19, ?_⟩
    have U_u_17 : UC (xB u_15 226 ((cI u_15 11).toNatClampNeg) l3) := U_u_15.xB
    have H_u_17 : FR [10, 11] u (xB u_15 226 ((cI u_15 11).toNatClampNeg) l3) := H_u_15.of rfl rfl
    generalize e_u_17 : xB u_15 226 ((cI u_15 11).toNatClampNeg) l3 = u_17 at U_u_17 H_u_17 ⊢
    refine wq_pc.mpr ?_
    have f20 : (0 : Int) ≤ (cI u_17 11).toInt ∧ (cI u_17 11).toInt ≤ (99 : Int) := U_u_17.i  11
    have f21 : (cI u_17 11).toInt = (cI u_15 11).toInt := by rw [← e_u_17]; rfl
    have f22 : (1 : Int32).toInt = 1 := by decide
    have f23 := tI_ad (cI u_17 11) (1)
    have f24 := i32_b ((cI u_17 11) + 1)
    have f25 : (100 : Int32).toInt = 100 := by decide
    have f26 := i32_b (((cI u_17 11) + 1) / 100)
    have f27 := i32_b ((((cI u_17 11) + 1) / 100) * 100)
    have f28 := i32_rem ((cI u_17 11) + 1) (100)
    have f29 := i32_b (((cI u_17 11) + 1) - ((((cI u_17 11) + 1) / 100) * 100))
    have U_u_18 : UC (xI u_17 11 (((cI u_17 11) + 1) - ((((cI u_17 11) + 1) / 100) * 100))) := U_u_17.xI (k := 11) (show (0 : Int) ≤ (((cI u_17 11) + 1) - ((((cI u_17 11) + 1) / 100) * 100)).toInt by omega) (show (((cI u_17 11) + 1) - ((((cI u_17 11) + 1) / 100) * 100)).toInt ≤ (99 : Int) by omega)
    have H_u_18 : FR [10, 11] u (xI u_17 11 (((cI u_17 11) + 1) - ((((cI u_17 11) + 1) / 100) * 100))) := H_u_17.xI (by decide)
    generalize e_u_18 : xI u_17 11 (((cI u_17 11) + 1) - ((((cI u_17 11) + 1) / 100) * 100)) = u_18 at U_u_18 H_u_18 ⊢
    refine wq_if.mpr ⟨fun h30 => ?_, fun h30 => ?_⟩
    · show wq _ _
      have f31 : (0 : Int) ≤ (cI u_18 10).toInt ∧ (cI u_18 10).toInt ≤ (100 : Int) := U_u_18.i  10
      have f32 : (cI u_18 10).toInt = (cI u_17 10).toInt := by rw [← e_u_18]; rfl
      have f33 : (0 : Int) ≤ (cI u_17 10).toInt ∧ (cI u_17 10).toInt ≤ (100 : Int) := U_u_17.i  10
      have f34 : (cI u_17 10).toInt = (cI u_15 10).toInt := by rw [← e_u_17]; rfl
      have f35 : (0 : Int) ≤ (cI u_15 10).toInt ∧ (cI u_15 10).toInt ≤ (100 : Int) := U_u_15.i  10
      have f36 : (cI u_15 10).toInt = (cI u_11 10).toInt := by rw [← e_u_15]; rfl
      have f37 : (0 : Int) ≤ (cI u_11 10).toInt ∧ (cI u_11 10).toInt ≤ (100 : Int) := U_u_11.i  10
      have f38 : (cI u_11 10).toInt = (cI u_7 10).toInt := by rw [← e_u_11]; rfl
      have f39 : (0 : Int) ≤ (cI u_7 10).toInt ∧ (cI u_7 10).toInt ≤ (100 : Int) := U_u_7.i  10
      have f40 : (cI u_7 10).toInt = (cI u_5 10).toInt := by rw [← e_u_7]; rfl
      have f41 : (0 : Int) ≤ (cI u_5 10).toInt ∧ (cI u_5 10).toInt ≤ (100 : Int) := U_u_5.i  10
      have f42 : (cI u_5 10).toInt = (cI u 10).toInt := by rw [← e_u_5]; rfl
      have f43 : (0 : Int) ≤ (cI u 10).toInt ∧ (cI u 10).toInt ≤ (100 : Int) := U_u.i  10
      have g44 := Int32.le_iff_toInt_le.mp h30
      refine wq_pc.mpr ?_
      have U_u_20 : UC (xI u_18 10 100) := U_u_18.xI (k := 10) (show (0 : Int) ≤ ((100 : Int32)).toInt by omega) (show ((100 : Int32)).toInt ≤ (100 : Int) by omega)
      have H_u_20 : FR [10, 11] u (xI u_18 10 100) := H_u_18.xI (by decide)
      generalize e_u_20 : xI u_18 10 100 = u_20 at U_u_20 H_u_20 ⊢
      exact wq_some.mpr ⟨U_u_20, H_u_20, trivial⟩
    · show wq _ _
      have f45 : (0 : Int) ≤ (cI u_18 10).toInt ∧ (cI u_18 10).toInt ≤ (100 : Int) := U_u_18.i  10
      have f46 : (cI u_18 10).toInt = (cI u_17 10).toInt := by rw [← e_u_18]; rfl
      have f47 : (0 : Int) ≤ (cI u_17 10).toInt ∧ (cI u_17 10).toInt ≤ (100 : Int) := U_u_17.i  10
      have f48 : (cI u_17 10).toInt = (cI u_15 10).toInt := by rw [← e_u_17]; rfl
      have f49 : (0 : Int) ≤ (cI u_15 10).toInt ∧ (cI u_15 10).toInt ≤ (100 : Int) := U_u_15.i  10
      have f50 : (cI u_15 10).toInt = (cI u_11 10).toInt := by rw [← e_u_15]; rfl
      have f51 : (0 : Int) ≤ (cI u_11 10).toInt ∧ (cI u_11 10).toInt ≤ (100 : Int) := U_u_11.i  10
      have f52 : (cI u_11 10).toInt = (cI u_7 10).toInt := by rw [← e_u_11]; rfl
      have f53 : (0 : Int) ≤ (cI u_7 10).toInt ∧ (cI u_7 10).toInt ≤ (100 : Int) := U_u_7.i  10
      have f54 : (cI u_7 10).toInt = (cI u_5 10).toInt := by rw [← e_u_7]; rfl
      have f55 : (0 : Int) ≤ (cI u_5 10).toInt ∧ (cI u_5 10).toInt ≤ (100 : Int) := U_u_5.i  10
      have f56 : (cI u_5 10).toInt = (cI u 10).toInt := by rw [← e_u_5]; rfl
      have f57 : (0 : Int) ≤ (cI u 10).toInt ∧ (cI u 10).toInt ≤ (100 : Int) := U_u.i  10
      have g58 := Int32.lt_iff_toInt_lt.mp (Int32.not_le.mp h30)
      refine wq_pc.mpr ?_
      have f59 := tI_ad (cI u_18 10) (1)
      have f60 := i32_b ((cI u_18 10) + 1)
      have U_u_21 : UC (xI u_18 10 ((cI u_18 10) + 1)) := U_u_18.xI (k := 10) (show (0 : Int) ≤ ((cI u_18 10) + 1).toInt by omega) (show ((cI u_18 10) + 1).toInt ≤ (100 : Int) by omega)
      have H_u_21 : FR [10, 11] u (xI u_18 10 ((cI u_18 10) + 1)) := H_u_18.xI (by decide)
      generalize e_u_21 : xI u_18 10 ((cI u_18 10) + 1) = u_21 at U_u_21 H_u_21 ⊢
      exact wq_some.mpr ⟨U_u_21, H_u_21, trivial⟩
set_option maxHeartbeats 4000000 in
theorem v_X6_ofSort {N : Nat} {u : CSt} (hN : 5000000000 ≤ N) (U_u : UC u) {l0 : Nat} {l1 : Int32} (h_0 : 0 ≤ l1.toInt ∧ l1.toInt < 5) : wq (F_X6_ofSort N l0 l1 u) (VR (fun (r : Int32) => 0 ≤ r.toInt ∧ r.toInt ≤ 160 ∧ (l1.toInt = 2 → r.toInt ≤ 8)) u) := by
  have H_u : FR [] u u := FR.rf
  unfold F_X6_ofSort
  unfold B_X6_ofSort_0
  have f1 := i32_b (l1)
  have x2 : vp_in (l1) 5 := vin_iff.mpr ⟨by omega, by omega⟩
  refine wq_rdU x2 (fun v_2 e_v_2 => ?_)
  have f3 := U_u.s l0 (l1 : Int32)
  rw [← e_v_2] at f3
  have f4 := i32_b (v_2)
  exact wq_some.mpr ⟨rfl, (show 0 ≤ (v_2).toInt ∧ (v_2).toInt ≤ 160 ∧ (l1.toInt = 2 → (v_2).toInt ≤ 8) by omega)⟩
set_option maxHeartbeats 4000000 in
theorem v_X6_has {N : Nat} {u : CSt} (hN : 5000000000 ≤ N) (U_u : UC u) {l0 : Nat} {l1 : Int32} {l2 : Int32} (h_0 : 0 ≤ l1.toInt ∧ l1.toInt < 5) : wq (F_X6_has N l0 l1 l2 u) (VR (fun (r : Int32) => r.toInt = 0 ∨ (r.toInt = 1 ∧ 0 ≤ l2.toInt ∧ l2.toInt < 160 ∧ (l1.toInt = 2 → l2.toInt < 8))) u) := by
  have H_u : FR [] u u := FR.rf
  unfold F_X6_has
  unfold B_X6_has_0
  refine wq_if.mpr ⟨fun h1 => ?_, fun h1 => ?_⟩
  · show wq _ _
    have f2 := i32_b (l2)
    have f3 : (0 : Int32).toInt = 0 := by decide
    have g4 := Int32.lt_iff_toInt_lt.mp h1
    have f5 := i32_b (l1)
    exact wq_some.mpr ⟨rfl, (show ((0 : Int32)).toInt = 0 ∨ (((0 : Int32)).toInt = 1 ∧ 0 ≤ l2.toInt ∧ l2.toInt < 160 ∧ (l1.toInt = 2 → l2.toInt < 8)) by omega)⟩
  · show wq _ _
    have f6 := i32_b (l2)
    have f7 : (0 : Int32).toInt = 0 := by decide
    have g8 := Int32.le_iff_toInt_le.mp (Int32.not_lt.mp h1)
    have f9 := i32_b (l1)
    have x10 : vp_in (l1) 5 := vin_iff.mpr ⟨by omega, by omega⟩
    refine wq_rdU x10 (fun v_3 e_v_3 => ?_)
    have f11 := U_u.s l0 (l1 : Int32)
    rw [← e_v_3] at f11
    refine wq_if.mpr ⟨fun h12 => ?_, fun h12 => ?_⟩
    · show wq _ _
      have f13 := i32_b (v_3)
      have g14 := Int32.le_iff_toInt_le.mp h12
      exact wq_some.mpr ⟨rfl, (show ((0 : Int32)).toInt = 0 ∨ (((0 : Int32)).toInt = 1 ∧ 0 ≤ l2.toInt ∧ l2.toInt < 160 ∧ (l1.toInt = 2 → l2.toInt < 8)) by omega)⟩
    · show wq _ _
      have f15 := i32_b (v_3)
      have g16 := Int32.lt_iff_toInt_lt.mp (Int32.not_le.mp h12)
      have f17 : (1 : Int32).toInt = 1 := by decide
      exact wq_some.mpr ⟨rfl, (show ((1 : Int32)).toInt = 0 ∨ (((1 : Int32)).toInt = 1 ∧ 0 ≤ l2.toInt ∧ l2.toInt < 160 ∧ (l1.toInt = 2 → l2.toInt < 8)) by omega)⟩
set_option maxHeartbeats 4000000 in
theorem v_X6_name {N : Nat} {u : CSt} (hN : 5000000000 ≤ N) (U_u : UC u) {l0 : Nat} {l1 : Int32} (h_0 : l0 < 2) : wq (F_X6_name N l0 l1 u) (VR (fun (r : Nat) => r < 338) u) := by
  have H_u : FR [] u u := FR.rf
  unfold F_X6_name
  unfold B_X6_name_0
  refine wq_if.mpr ⟨fun h1 => ?_, fun h1 => ?_⟩
  · show wq _ _
    have f2 := i32_b (l1)
    have f3 : (0 : Int32).toInt = 0 := by decide
    have g4 := Int32.lt_iff_toInt_lt.mp h1
    exact wq_some.mpr ⟨rfl, (show ((169 * l0) + 168) < 338 by omega)⟩
  · show wq _ _
    have f5 := i32_b (l1)
    have f6 : (0 : Int32).toInt = 0 := by decide
    have g7 := Int32.le_iff_toInt_le.mp (Int32.not_lt.mp h1)
    refine wq_if.mpr ⟨fun h8 => ?_, fun h8 => ?_⟩
    · show wq _ _
      have f9 : (0 : Int) ≤ (pI u l0 12).toInt ∧ (pI u l0 12).toInt ≤ (160 : Int) := U_u.p l0 12
      have g10 := Int32.le_iff_toInt_le.mp h8
      exact wq_some.mpr ⟨rfl, (show ((169 * l0) + 168) < 338 by omega)⟩
    · show wq _ _
      have f11 : (0 : Int) ≤ (pI u l0 12).toInt ∧ (pI u l0 12).toInt ≤ (160 : Int) := U_u.p l0 12
      have g12 := Int32.lt_iff_toInt_lt.mp (Int32.not_le.mp h8)
      have x13 : vp_in (l1) 160 := vin_iff.mpr ⟨by omega, by omega⟩
      refine wq_ix.mpr ⟨x13, ?_⟩
      have f14 : l1.toNatClampNeg = (l1).toInt.toNat := rfl
      exact wq_some.mpr ⟨rfl, (show ((169 * l0) + l1.toNatClampNeg) < 338 by omega)⟩
set_option maxHeartbeats 4000000 in
theorem v_X6_nth {N : Nat} {u : CSt} (hN : 5000000000 ≤ N) (U_u : UC u) {l0 : Nat} {l1 : Int32} {l2 : Int32} (h_0 : l0 < 2) (h_1 : 0 ≤ l1.toInt ∧ l1.toInt < 5) : wq (F_X6_nth N l0 l1 l2 u) (VR (fun (r : Nat) => r < 338) u) := by
  have H_u : FR [] u u := FR.rf
  unfold F_X6_nth
  unfold B_X6_nth_0
  have f1 := i32_b (l1)
  have f2 := i32_b (l2)
  refine wq_bcR (v_X6_has hN U_u (show 0 ≤ (l1).toInt ∧ (l1).toInt < 5 by omega)) (fun r_2 p3 => ?_)
  try dsimp only at p3
  refine wq_if.mpr ⟨fun h4 => ?_, fun h4 => ?_⟩
  · show wq _ _
    have f5 := i32_b (r_2)
    have f6 : (0 : Int32).toInt = 0 := by decide
    have g7 := tI_eq.mp h4
    exact wq_some.mpr ⟨rfl, (show ((169 * l0) + 168) < 338 by omega)⟩
  · show wq _ _
    have f8 := i32_b (r_2)
    have f9 : (0 : Int32).toInt = 0 := by decide
    have g10 := tI_ne h4
    have x11 : vp_in (l1) 5 := vin_iff.mpr ⟨by omega, by omega⟩
    refine wq_ix.mpr ⟨x11, ?_⟩
    have x12 : vp_in (l2) 160 := vin_iff.mpr ⟨by omega, by omega⟩
    refine wq_rdU x12 (fun v_6 e_v_6 => ?_)
    have f13 := i32_b (v_6)
    refine wq_bcR (v_X6_name hN U_u (show (l0) < 2 by omega)) (fun r_8 p14 => ?_)
    try dsimp only at p14
    refine wq_ok.mpr ⟨by first | assumption | omega, ?_⟩
    exact wq_some.mpr ⟨rfl, (show (r_8) < 338 by omega)⟩
set_option maxHeartbeats 4000000 in
theorem v_X6_local {N : Nat} {u : CSt} (hN : 5000000000 ≤ N) (U_u : UC u) {l0 : Nat} {l1 : Nat} {l2 : Int32} (h_0 : l0 < 2) : wq (F_X6_local N l0 l1 l2 u) (VR (fun (r : Nat) => r < 338) u) := by
  have H_u : FR [] u u := FR.rf
  unfold F_X6_local
  unfold B_X6_local_0
  refine wq_if.mpr ⟨fun h1 => ?_, fun h1 => ?_⟩
  · show wq _ _
    have f2 := i32_b (l2)
    have f3 : (0 : Int32).toInt = 0 := by decide
    have g4 := Int32.lt_iff_toInt_lt.mp h1
    exact wq_some.mpr ⟨rfl, (show ((169 * l0) + 168) < 338 by omega)⟩
  · show wq _ _
    have f5 := i32_b (l2)
    have f6 : (0 : Int32).toInt = 0 := by decide
    have g7 := Int32.le_iff_toInt_le.mp (Int32.not_lt.mp h1)
    refine wq_if.mpr ⟨fun h8 => ?_, fun h8 => ?_⟩
    · show wq _ _
      have f9 : (-2147483648 : Int) ≤ (mI u l1 12).toInt ∧ (mI u l1 12).toInt ≤ (2147483647 : Int) := U_u.m l1 12
      have g10 := Int32.le_iff_toInt_le.mp h8
      exact wq_some.mpr ⟨rfl, (show ((169 * l0) + 168) < 338 by omega)⟩
    · show wq _ _
      have f11 : (-2147483648 : Int) ≤ (mI u l1 12).toInt ∧ (mI u l1 12).toInt ≤ (2147483647 : Int) := U_u.m l1 12
      have g12 := Int32.lt_iff_toInt_lt.mp (Int32.not_le.mp h8)
      have f13 : (-1 : Int) ≤ (mI u l1 3).toInt ∧ (mI u l1 3).toInt ≤ (159 : Int) := U_u.m l1 3
      have f14 : (1 : Int32).toInt = 1 := by decide
      have f15 := tI_ad (mI u l1 3) (1)
      have f16 := i32_b ((mI u l1 3) + 1)
      have f17 := tI_ad ((mI u l1 3) + 1) (l2)
      have f18 := i32_b (((mI u l1 3) + 1) + l2)
      refine wq_bcR (v_X6_name hN U_u (show (l0) < 2 by omega)) (fun r_4 p19 => ?_)
      try dsimp only at p19
      refine wq_ok.mpr ⟨by first | assumption | omega, ?_⟩
      exact wq_some.mpr ⟨rfl, (show (r_4) < 338 by omega)⟩
set_option maxHeartbeats 4000000 in
theorem v_X6_localCalled {N : Nat} {u : CSt} (hN : 5000000000 ≤ N) (U_u : UC u) {l0 : Nat} {l1 : Nat} {l2 : Int64} {l4 : Int32} (h_0 : l0 < 2) : wq (F_X6_localCalled N l0 l1 l2 l4 u) (VR (fun (r : Nat) => r < 338) u) := by
  have H_u : FR [] u u := FR.rf
  unfold F_X6_localCalled
  unfold B_X6_localCalled_0
  have f2 := i32_b (l4)
  have f3 : (-1 : Int) ≤ (mI u l1 3).toInt ∧ (mI u l1 3).toInt ≤ (159 : Int) := U_u.m l1 3
  have f4 : (1 : Int32).toInt = 1 := by decide
  have f5 := tI_ad (mI u l1 3) (1)
  have f6 := i32_b ((mI u l1 3) + 1)
  unfold LP_X6_localCalled_12
  refine wq_lp (fun (d : Nat) (a : Nat × Nat × Int64 × Int32 × Int32 × Int32 × CSt) => a.2.2.2.2.2.2 = u ∧ a.1 = l0 ∧ a.2.1 = l1 ∧ a.2.2.1 = l2 ∧ a.2.2.2.1 = l4 ∧ a.2.2.2.2.1 = (mI u l1 3) + 1 ∧ 0 ≤ a.2.2.2.2.2.1.toInt ∧ d = (2147483648 - a.2.2.2.2.2.1.toInt).toNat) ?_ _ ((2147483648 - ((mI u l1 3) + 1).toInt).toNat) _ (by omega) ⟨rfl, rfl, rfl, rfl, rfl, rfl, (show 0 ≤ ((mI u l1 3) + 1).toInt by omega), rfl⟩
  rintro d_1 R_1 ⟨l0_1, l1_1, l2_1, l4_1, l5_1, l6_1, u_1⟩ ⟨e_1, k_1_0, k_1_1, k_1_2, k_1_3, k_1_4, i_1_0, m_1⟩ ih_1
  have e_1 : u = u_1 := Eq.symm e_1
  subst e_1
  have k_1_0 : l0 = l0_1 := Eq.symm k_1_0
  subst k_1_0
  have k_1_1 : l1 = l1_1 := Eq.symm k_1_1
  subst k_1_1
  have k_1_2 : l2 = l2_1 := Eq.symm k_1_2
  subst k_1_2
  have k_1_3 : l4 = l4_1 := Eq.symm k_1_3
  subst k_1_3
  have k_1_4 : (mI u l1 3) + 1 = l5_1 := Eq.symm k_1_4
  subst k_1_4
  have i_1_0 : 0 ≤ l6_1.toInt := i_1_0
  have m_1 : d_1 = (2147483648 - l6_1.toInt).toNat := m_1
  show wq (B_X6_localCalled_12 N R_1 (l0) (l1) (l2) (l4) ((mI u l1 3) + 1) (l6_1) u) _
  unfold B_X6_localCalled_12
  refine wq_if.mpr ⟨fun h7 => ?_, fun h7 => ?_⟩
  · show wq _ _
    have f8 : (-2147483648 : Int) ≤ (mI u l1 12).toInt ∧ (mI u l1 12).toInt ≤ (2147483647 : Int) := U_u.m l1 12
    have f9 := tI_ad (((mI u l1 3) + 1)) (mI u l1 12)
    have f10 := i32_b (((mI u l1 3) + 1) + (mI u l1 12))
    have f11 := i32_b (l6_1)
    have g12 := Int32.le_iff_toInt_le.mp h7
    exact wq_some.mpr ⟨rfl, (show ((169 * l0) + 168) < 338 by omega)⟩
  · show wq _ _
    have f13 : (-2147483648 : Int) ≤ (mI u l1 12).toInt ∧ (mI u l1 12).toInt ≤ (2147483647 : Int) := U_u.m l1 12
    have f14 := tI_ad (((mI u l1 3) + 1)) (mI u l1 12)
    have f15 := i32_b (((mI u l1 3) + 1) + (mI u l1 12))
    have f16 := i32_b (l6_1)
    have g17 := Int32.lt_iff_toInt_lt.mp (Int32.not_le.mp h7)
    refine wq_if.mpr ⟨fun h18 => ?_, fun h18 => ?_⟩
    · show wq _ _
      have f19 : (0 : Int) ≤ (pI u l0 12).toInt ∧ (pI u l0 12).toInt ≤ (160 : Int) := U_u.p l0 12
      have g20 := Int32.le_iff_toInt_le.mp h18
      exact wq_some.mpr ⟨rfl, (show ((169 * l0) + 168) < 338 by omega)⟩
    · show wq _ _
      have f21 : (0 : Int) ≤ (pI u l0 12).toInt ∧ (pI u l0 12).toInt ≤ (160 : Int) := U_u.p l0 12
      have g22 := Int32.lt_iff_toInt_lt.mp (Int32.not_le.mp h18)
      have x23 : vp_in (l6_1) 160 := vin_iff.mpr ⟨by omega, by omega⟩
      refine wq_ix.mpr ⟨x23, ?_⟩
      refine wq_if.mpr ⟨fun h24 => ?_, fun h24 => ?_⟩
      · show wq _ _
        have x25 : vp_in (l6_1) 160 := vin_iff.mpr ⟨by omega, by omega⟩
        refine wq_ix.mpr ⟨x25, ?_⟩
        refine wq_if.mpr ⟨fun h26 => ?_, fun h26 => ?_⟩
        · show wq _ _
          have f27 : l6_1.toNatClampNeg = (l6_1).toInt.toNat := rfl
          have f28 : (-2147483648 : Int) ≤ (mI u ((169 * l0) + l6_1.toNatClampNeg) 1).toInt ∧ (mI u ((169 * l0) + l6_1.toNatClampNeg) 1).toInt ≤ (2147483647 : Int) := U_u.m ((169 * l0) + l6_1.toNatClampNeg) 1
          have g29 := tI_eq.mp h26
          have x30 : vp_in (l6_1) 160 := vin_iff.mpr ⟨by omega, by omega⟩
          refine wq_ix.mpr ⟨x30, ?_⟩
          exact wq_some.mpr ⟨rfl, (show ((169 * l0) + l6_1.toNatClampNeg) < 338 by omega)⟩
        · show wq _ _
          have f31 : l6_1.toNatClampNeg = (l6_1).toInt.toNat := rfl
          have f32 : (-2147483648 : Int) ≤ (mI u ((169 * l0) + l6_1.toNatClampNeg) 1).toInt ∧ (mI u ((169 * l0) + l6_1.toNatClampNeg) 1).toInt ≤ (2147483647 : Int) := U_u.m ((169 * l0) + l6_1.toNatClampNeg) 1
          have g33 := tI_ne h26
          unfold B_X6_localCalled_71
          have f34 := tI_ad (l6_1) (1)
          have f35 := i32_b (l6_1 + 1)
          exact ih_1 ((2147483648 - (l6_1 + 1).toInt).toNat) (l0, l1, l2, l4, ((mI u l1 3) + 1), l6_1 + 1, u) (by omega) ⟨rfl, rfl, rfl, rfl, rfl, rfl, (show 0 ≤ (l6_1 + 1).toInt by omega), rfl⟩
      · show wq _ _
        unfold B_X6_localCalled_71
        have f36 := tI_ad (l6_1) (1)
        have f37 := i32_b (l6_1 + 1)
        exact ih_1 ((2147483648 - (l6_1 + 1).toInt).toNat) (l0, l1, l2, l4, ((mI u l1 3) + 1), l6_1 + 1, u) (by omega) ⟨rfl, rfl, rfl, rfl, rfl, rfl, (show 0 ≤ (l6_1 + 1).toInt by omega), rfl⟩
set_option maxHeartbeats 4000000 in
theorem v_X6_ofText {N : Nat} {u : CSt} (hN : 5000000000 ≤ N) (U_u : UC u) {l0 : Nat} {l1 : Int64} {l3 : Int32} (h_0 : l0 < 2) : wq (F_X6_ofText N l0 l1 l3 u) (VR (fun (r : Nat) => r < 338) u) := by
  have H_u : FR [] u u := FR.rf
  unfold F_X6_ofText
  unfold B_X6_ofText_0
  have f2 := i32_b (l3)
  have f3 : (0 : Int32).toInt = 0 := by decide
  unfold LP_X6_ofText_3
  refine wq_lp (fun (d : Nat) (a : Nat × Int64 × Int32 × Int32 × CSt) => a.2.2.2.2 = u ∧ a.1 = l0 ∧ a.2.1 = l1 ∧ a.2.2.1 = l3 ∧ 0 ≤ a.2.2.2.1.toInt ∧ d = (2147483648 - a.2.2.2.1.toInt).toNat) ?_ _ ((2147483648 - ((0 : Int32)).toInt).toNat) _ (by omega) ⟨rfl, rfl, rfl, rfl, (show 0 ≤ ((0 : Int32)).toInt by omega), rfl⟩
  rintro d_1 R_1 ⟨l0_1, l1_1, l3_1, l4_1, u_1⟩ ⟨e_1, k_1_0, k_1_1, k_1_2, i_1_0, m_1⟩ ih_1
  have e_1 : u = u_1 := Eq.symm e_1
  subst e_1
  have k_1_0 : l0 = l0_1 := Eq.symm k_1_0
  subst k_1_0
  have k_1_1 : l1 = l1_1 := Eq.symm k_1_1
  subst k_1_1
  have k_1_2 : l3 = l3_1 := Eq.symm k_1_2
  subst k_1_2
  have i_1_0 : 0 ≤ l4_1.toInt := i_1_0
  have m_1 : d_1 = (2147483648 - l4_1.toInt).toNat := m_1
  show wq (B_X6_ofText_3 N R_1 (l0) (l1) (l3) (l4_1) u) _
  unfold B_X6_ofText_3
  refine wq_if.mpr ⟨fun h4 => ?_, fun h4 => ?_⟩
  · show wq _ _
    have f5 : (0 : Int) ≤ (pI u l0 12).toInt ∧ (pI u l0 12).toInt ≤ (160 : Int) := U_u.p l0 12
    have f6 := i32_b (l4_1)
    have g7 := Int32.le_iff_toInt_le.mp h4
    unfold LP_X6_ofText_61
    refine wq_lp (fun (d : Nat) (a : Nat × Int64 × Int32 × Int32 × CSt) => a.2.2.2.2 = u ∧ a.1 = l0 ∧ a.2.1 = l1 ∧ a.2.2.1 = l3 ∧ 0 ≤ a.2.2.2.1.toInt ∧ d = (2147483648 - a.2.2.2.1.toInt).toNat) ?_ _ ((2147483648 - ((0 : Int32)).toInt).toNat) _ (by omega) ⟨rfl, rfl, rfl, rfl, (show 0 ≤ ((0 : Int32)).toInt by omega), rfl⟩
    rintro d_8 R_8 ⟨l0_8, l1_8, l3_8, l4_8, u_8⟩ ⟨e_8, k_8_0, k_8_1, k_8_2, i_8_0, m_8⟩ ih_8
    have e_8 : u = u_8 := Eq.symm e_8
    subst e_8
    have k_8_0 : l0 = l0_8 := Eq.symm k_8_0
    subst k_8_0
    have k_8_1 : l1 = l1_8 := Eq.symm k_8_1
    subst k_8_1
    have k_8_2 : l3 = l3_8 := Eq.symm k_8_2
    subst k_8_2
    have i_8_0 : 0 ≤ l4_8.toInt := i_8_0
    have m_8 : d_8 = (2147483648 - l4_8.toInt).toNat := m_8
    show wq (B_X6_ofText_61 N R_8 (l0) (l1) (l3) (l4_8) u) _
    unfold B_X6_ofText_61
    refine wq_if.mpr ⟨fun h9 => ?_, fun h9 => ?_⟩
    · show wq _ _
      have f10 : (8 : Int32).toInt = 8 := by decide
      have f11 := i32_b (l4_8)
      have g12 := Int32.le_iff_toInt_le.mp h9
      exact wq_some.mpr ⟨rfl, (show ((169 * l0) + 168) < 338 by omega)⟩
    · show wq _ _
      have f13 : (8 : Int32).toInt = 8 := by decide
      have f14 := i32_b (l4_8)
      have g15 := Int32.lt_iff_toInt_lt.mp (Int32.not_le.mp h9)
      refine wq_if.mpr ⟨fun h16 => ?_, fun h16 => ?_⟩
      · show wq _ _
        have g17 := tI_eq.mp h16
        have x18 : vp_in (l4_8) 8 := vin_iff.mpr ⟨by omega, by omega⟩
        refine wq_ix.mpr ⟨x18, ?_⟩
        refine wq_if.mpr ⟨fun h19 => ?_, fun h19 => ?_⟩
        · show wq _ _
          have x20 : vp_in (l4_8) 8 := vin_iff.mpr ⟨by omega, by omega⟩
          refine wq_ix.mpr ⟨x20, ?_⟩
          have f21 : l4_8.toNatClampNeg = (l4_8).toInt.toNat := rfl
          exact wq_some.mpr ⟨rfl, (show ((169 * l0) + (160 + l4_8.toNatClampNeg)) < 338 by omega)⟩
        · show wq _ _
          have f22 : (1 : Int32).toInt = 1 := by decide
          have f23 := tI_ad (l4_8) (1)
          have f24 := i32_b (l4_8 + 1)
          exact ih_8 ((2147483648 - (l4_8 + 1).toInt).toNat) (l0, l1, l3, l4_8 + 1, u) (by omega) ⟨rfl, rfl, rfl, rfl, (show 0 ≤ (l4_8 + 1).toInt by omega), rfl⟩
      · show wq _ _
        have g25 := tI_ne h16
        exact wq_some.mpr ⟨rfl, (show ((169 * l0) + 168) < 338 by omega)⟩
  · show wq _ _
    have f26 : (0 : Int) ≤ (pI u l0 12).toInt ∧ (pI u l0 12).toInt ≤ (160 : Int) := U_u.p l0 12
    have f27 := i32_b (l4_1)
    have g28 := Int32.lt_iff_toInt_lt.mp (Int32.not_le.mp h4)
    have x29 : vp_in (l4_1) 160 := vin_iff.mpr ⟨by omega, by omega⟩
    refine wq_ix.mpr ⟨x29, ?_⟩
    refine wq_if.mpr ⟨fun h30 => ?_, fun h30 => ?_⟩
    · show wq _ _
      refine wq_if.mpr ⟨fun h31 => ?_, fun h31 => ?_⟩
      · show wq _ _
        have f32 : l4_1.toNatClampNeg = (l4_1).toInt.toNat := rfl
        have f33 : (-2147483648 : Int) ≤ (mI u ((169 * l0) + l4_1.toNatClampNeg) 1).toInt ∧ (mI u ((169 * l0) + l4_1.toNatClampNeg) 1).toInt ≤ (2147483647 : Int) := U_u.m ((169 * l0) + l4_1.toNatClampNeg) 1
        have g34 := tI_eq.mp h31
        refine wq_if.mpr ⟨fun h35 => ?_, fun h35 => ?_⟩
        · show wq _ _
          have f36 : (4 : Int32).toInt = 4 := by decide
          have f37 : (-2147483648 : Int) ≤ (mI u ((169 * l0) + l4_1.toNatClampNeg) 2).toInt ∧ (mI u ((169 * l0) + l4_1.toNatClampNeg) 2).toInt ≤ (2147483647 : Int) := U_u.m ((169 * l0) + l4_1.toNatClampNeg) 2
          have g38 := Int32.lt_iff_toInt_lt.mp h35
          unfold B_X6_ofText_52
          have f39 : (1 : Int32).toInt = 1 := by decide
          have f40 := tI_ad (l4_1) (1)
          have f41 := i32_b (l4_1 + 1)
          exact ih_1 ((2147483648 - (l4_1 + 1).toInt).toNat) (l0, l1, l3, l4_1 + 1, u) (by omega) ⟨rfl, rfl, rfl, rfl, (show 0 ≤ (l4_1 + 1).toInt by omega), rfl⟩
        · show wq _ _
          have f42 : (4 : Int32).toInt = 4 := by decide
          have f43 : (-2147483648 : Int) ≤ (mI u ((169 * l0) + l4_1.toNatClampNeg) 2).toInt ∧ (mI u ((169 * l0) + l4_1.toNatClampNeg) 2).toInt ≤ (2147483647 : Int) := U_u.m ((169 * l0) + l4_1.toNatClampNeg) 2
          have g44 := Int32.le_iff_toInt_le.mp (Int32.not_lt.mp h35)
          exact wq_some.mpr ⟨rfl, (show ((169 * l0) + l4_1.toNatClampNeg) < 338 by omega)⟩
      · show wq _ _
        have f45 : l4_1.toNatClampNeg = (l4_1).toInt.toNat := rfl
        have f46 : (-2147483648 : Int) ≤ (mI u ((169 * l0) + l4_1.toNatClampNeg) 1).toInt ∧ (mI u ((169 * l0) + l4_1.toNatClampNeg) 1).toInt ≤ (2147483647 : Int) := U_u.m ((169 * l0) + l4_1.toNatClampNeg) 1
        have g47 := tI_ne h31
        unfold B_X6_ofText_52
        have f48 : (1 : Int32).toInt = 1 := by decide
        have f49 := tI_ad (l4_1) (1)
        have f50 := i32_b (l4_1 + 1)
        exact ih_1 ((2147483648 - (l4_1 + 1).toInt).toNat) (l0, l1, l3, l4_1 + 1, u) (by omega) ⟨rfl, rfl, rfl, rfl, (show 0 ≤ (l4_1 + 1).toInt by omega), rfl⟩
    · show wq _ _
      unfold B_X6_ofText_52
      have f51 : (1 : Int32).toInt = 1 := by decide
      have f52 := tI_ad (l4_1) (1)
      have f53 := i32_b (l4_1 + 1)
      exact ih_1 ((2147483648 - (l4_1 + 1).toInt).toNat) (l0, l1, l3, l4_1 + 1, u) (by omega) ⟨rfl, rfl, rfl, rfl, (show 0 ≤ (l4_1 + 1).toInt by omega), rfl⟩
set_option maxHeartbeats 4000000 in
theorem v_X6_stoppedTasks {N : Nat} {u : CSt} (hN : 5000000000 ≤ N) (U_u : UC u) {l0 : Nat} : wq (F_X6_stoppedTasks N l0 u) (VR (fun (r : Int32) => True) u) := by
  have H_u : FR [] u u := FR.rf
  unfold F_X6_stoppedTasks
  unfold B_X6_stoppedTasks_0
  have f2 : (0 : Int32).toInt = 0 := by decide
  unfold LP_X6_stoppedTasks_4
  refine wq_lp (fun (d : Nat) (a : Nat × Int32 × Int32 × CSt) => a.2.2.2 = u ∧ a.1 = l0 ∧ 0 ≤ a.2.2.1.toInt ∧ d = (2147483648 - a.2.2.1.toInt).toNat) ?_ _ ((2147483648 - ((0 : Int32)).toInt).toNat) _ (by omega) ⟨rfl, rfl, (show 0 ≤ ((0 : Int32)).toInt by omega), rfl⟩
  rintro d_1 R_1 ⟨l0_1, l1_1, l2_1, u_1⟩ ⟨e_1, k_1_0, i_1_0, m_1⟩ ih_1
  have e_1 : u = u_1 := Eq.symm e_1
  subst e_1
  have k_1_0 : l0 = l0_1 := Eq.symm k_1_0
  subst k_1_0
  have i_1_0 : 0 ≤ l2_1.toInt := i_1_0
  have m_1 : d_1 = (2147483648 - l2_1.toInt).toNat := m_1
  show wq (B_X6_stoppedTasks_4 N R_1 (l0) (l1_1) (l2_1) u) _
  unfold B_X6_stoppedTasks_4
  have f3 : (2 : Int32).toInt = 2 := by decide
  have x4 : vp_in ((2 : Int32)) 5 := vin_iff.mpr ⟨by omega, by omega⟩
  refine wq_rdU x4 (fun v_2 e_v_2 => ?_)
  have f5 := U_u.s l0 (2 : Int32)
  rw [← e_v_2] at f5
  refine wq_if.mpr ⟨fun h6 => ?_, fun h6 => ?_⟩
  · show wq _ _
    have f7 := i32_b (v_2)
    have f8 := i32_b (l2_1)
    have g9 := Int32.le_iff_toInt_le.mp h6
    exact wq_some.mpr ⟨rfl, trivial⟩
  · show wq _ _
    have f10 := i32_b (v_2)
    have f11 := i32_b (l2_1)
    have g12 := Int32.lt_iff_toInt_lt.mp (Int32.not_le.mp h6)
    have x13 : vp_in (l2_1) 8 := vin_iff.mpr ⟨by omega, by omega⟩
    refine wq_ix.mpr ⟨x13, ?_⟩
    refine wq_if.mpr ⟨fun h14 => ?_, fun h14 => ?_⟩
    · show wq _ _
      have f15 : l2_1.toNatClampNeg = (l2_1).toInt.toNat := rfl
      have f16 : (0 : Int) ≤ (tI u ((8 * l0) + l2_1.toNatClampNeg) 3).toInt ∧ (tI u ((8 * l0) + l2_1.toNatClampNeg) 3).toInt ≤ (1 : Int) := U_u.t ((8 * l0) + l2_1.toNatClampNeg) 3
      have g17 := tI_eq.mp h14
      unfold B_X6_stoppedTasks_32
      have f18 := i32_b (l1_1)
      have f19 := tI_ad (l1_1) ((0 : Int32))
      have f20 := i32_b (l1_1 + (0 : Int32))
      have f21 : (1 : Int32).toInt = 1 := by decide
      have f22 := tI_ad (l2_1) (1)
      have f23 := i32_b (l2_1 + 1)
      exact ih_1 ((2147483648 - (l2_1 + 1).toInt).toNat) (l0, l1_1 + (0 : Int32), l2_1 + 1, u) (by omega) ⟨rfl, rfl, (show 0 ≤ (l2_1 + 1).toInt by omega), rfl⟩
    · show wq _ _
      have f24 : l2_1.toNatClampNeg = (l2_1).toInt.toNat := rfl
      have f25 : (0 : Int) ≤ (tI u ((8 * l0) + l2_1.toNatClampNeg) 3).toInt ∧ (tI u ((8 * l0) + l2_1.toNatClampNeg) 3).toInt ≤ (1 : Int) := U_u.t ((8 * l0) + l2_1.toNatClampNeg) 3
      have g26 := tI_ne h14
      unfold B_X6_stoppedTasks_32
      have f27 := i32_b (l1_1)
      have f28 : (1 : Int32).toInt = 1 := by decide
      have f29 := tI_ad (l1_1) ((1 : Int32))
      have f30 := i32_b (l1_1 + (1 : Int32))
      have f31 := tI_ad (l2_1) (1)
      have f32 := i32_b (l2_1 + 1)
      exact ih_1 ((2147483648 - (l2_1 + 1).toInt).toNat) (l0, l1_1 + (1 : Int32), l2_1 + 1, u) (by omega) ⟨rfl, rfl, (show 0 ≤ (l2_1 + 1).toInt by omega), rfl⟩
set_option maxHeartbeats 4000000 in
theorem v_X6_step {N : Nat} {u : CSt} (hN : 5000000000 ≤ N) (U_u : UC u) {l0 : Nat} {l1 : Int32} {l2 : Int32} {l3 : Int32} {l4 : Int32} (h_0 : isImg l1 → 0 ≤ l3.toInt ∧ l3.toInt ≤ 4) : wq (F_X6_step N l0 l1 l2 l3 l4 u) (VP [] (fun (r : Int32) (w : CSt) => True) u) := by
  have g0 := U_u.p l0 13
  have g1 : (0 : Int) ≤ (pI u l0 13).toInt ∧ (pI u l0 13).toInt ≤ (3200 : Int) := g0
  unfold F_X6_step B_X6_step_0
  refine wq_if.mpr ⟨fun h => ?_, fun h => ?_⟩
  · have g2 := Int32.lt_iff_toInt_lt.mp h
    have g3 : (3200 : Int32).toInt = 3200 := by decide
    have g4 : (1 : Int32).toInt = 1 := by decide
    have x : vp_in (pI u l0 13) 3200 := vin_iff.mpr ⟨by omega, by omega⟩
    refine wq_wc.mpr ⟨x, ?_⟩
    refine wq_wc.mpr ⟨x, ?_⟩
    refine wq_wc.mpr ⟨x, ?_⟩
    refine wq_wc.mpr ⟨x, ?_⟩
    refine wq_pc.mpr (wq_some.mpr ?_)
    have g5 := tI_ad (pI u l0 13) 1
    have e : (pI u l0 13 + 1).toInt = (pI u l0 13).toInt + 1 := by omega
    have U1 : UC (xpA (xpA (xpA (xpA u l0 11 (pI u l0 13).toNatClampNeg l1) l0 12 (pI u l0 13).toNatClampNeg l2) l0 13 (pI u l0 13).toNatClampNeg l3) l0 14 (pI u l0 13).toNatClampNeg l4) := by
      refine UC.xpA ?_ (by decide)
      refine ⟨U_u.1, U_u.2.1, fun p j => ?_, U_u.2.2.2.1, U_u.2.2.2.2.1, U_u.2.2.2.2.2.1, fun p j => ?_⟩
      · rw [pA_ne (by decide), pA_ne (by decide), pA_ne (by decide)]; exact U_u.s p j
      · rw [pA_ne (k := 13) (by decide), pA_ne (k := 12) (by decide)]
        by_cases q : p = l0 ∧ j = (pI u l0 13).toNatClampNeg
        · rw [q.1, q.2, pA_eq, pA_eq]
          exact h_0
        · rw [pA_ne2 (k := 11) (by omega), pA_ne2 (k := 13) (by omega), pA_ne (k := 12) (by decide), pA_ne (k := 11) (by decide)]
          exact U_u.g p j
    exact ⟨UC.xpI (k := 13) U1 (show (0 : Int) ≤ (pI u l0 13 + 1).toInt by omega) (show (pI u l0 13 + 1).toInt ≤ (3200 : Int) by omega), FR.of FR.rf rfl rfl, trivial⟩
  · exact wq_some.mpr ⟨U_u, FR.rf, trivial⟩
set_option maxHeartbeats 4000000 in
theorem v_X6_cost {N : Nat} {u : CSt} (hN : 5000000000 ≤ N) (U_u : UC u) {l0 : Nat} {l1 : Int32} : wq (F_X6_cost N l0 l1 u) (VP [] (fun (r : Int32) (w : CSt) => True) u) := by
  have H_u : FR [] u u := FR.rf
  unfold F_X6_cost
  unfold B_X6_cost_0
  have f1 : (64 : Int32).toInt = 64 := by decide
  have f2 : (0 : Int32).toInt = 0 := by decide
  have f3 := i32_b (l1)
  refine wq_bcV (v_X6_step hN U_u (show isImg ((64 : Int32)) → 0 ≤ ((0 : Int32)).toInt ∧ ((0 : Int32)).toInt ≤ 4 by (unfold isImg; omega))) (fun r_2 u_1 U_u_1 G_u_1 p4 => ?_)
  have H_u_1 := H_u.call G_u_1 (show ∀ k ∈ [], k ∈ [] by decide)
  exact wq_some.mpr ⟨U_u_1, H_u_1, trivial⟩
set_option maxHeartbeats 4000000 in
theorem v_X6_constant {N : Nat} {u : CSt} (hN : 5000000000 ≤ N) (U_u : UC u) {l0 : Nat} {l1 : Int64} {l3 : Int32} {l4 : Int32} (h_0 : l3.toInt = 0 ∨ l3.toInt = 64) : wq (F_X6_constant N l0 l1 l3 l4 u) (VP [] (fun (r : Int32) (w : CSt) => True) u) := by
  have H_u : FR [] u u := FR.rf
  unfold F_X6_constant
  unfold B_X6_constant_0
  have f1 : (1 : Int32).toInt = 1 := by decide
  have f2 := i32_b (l3)
  have f3 := tI_ad (1) (l3)
  have f4 := i32_b (1 + l3)
  have f5 := i32_b ((l1 >>> (((32 : Int32).toInt64) &&& 63)).toInt32)
  have f6 := i32_b (l1.toInt32)
  have f7 := i32_b (l4)
  refine wq_bcV (v_X6_step hN U_u (show isImg (1 + l3) → 0 ≤ (l1.toInt32).toInt ∧ (l1.toInt32).toInt ≤ 4 by (unfold isImg; omega))) (fun r_2 u_1 U_u_1 G_u_1 p8 => ?_)
  have H_u_1 := H_u.call G_u_1 (show ∀ k ∈ [], k ∈ [] by decide)
  exact wq_some.mpr ⟨U_u_1, H_u_1, trivial⟩
set_option maxHeartbeats 4000000 in
theorem v_X6_land {N : Nat} {u : CSt} (hN : 5000000000 ≤ N) (U_u : UC u) {l0 : Nat} {l1 : Int32} : wq (F_X6_land N l0 l1 u) (VP [] (fun (r : Int32) (w : CSt) => True) u) := by
  have H_u : FR [] u u := FR.rf
  unfold F_X6_land
  unfold B_X6_land_0
  have f2 := i32_b (l1)
  have f3 : (0 : Int32).toInt = 0 := by decide
  unfold LP_X6_land_4
  refine wq_lp (fun (d : Nat) (a : Nat × Int32 × Int32 × CSt) => UC a.2.2.2 ∧ FR [] u a.2.2.2 ∧ a.1 = l0 ∧ 0 ≤ a.2.2.1.toInt ∧ d = (2147483648 - a.2.2.1.toInt).toNat) ?_ _ ((2147483648 - ((0 : Int32)).toInt).toNat) _ (by omega) ⟨U_u, H_u, rfl, (show 0 ≤ ((0 : Int32)).toInt by omega), rfl⟩
  rintro d_1 R_1 ⟨l0_1, l2_1, l3_1, u_1⟩ ⟨U_1, H_1, k_1_0, i_1_0, m_1⟩ ih_1
  have k_1_0 : l0 = l0_1 := Eq.symm k_1_0
  subst k_1_0
  have i_1_0 : 0 ≤ l3_1.toInt := i_1_0
  have m_1 : d_1 = (2147483648 - l3_1.toInt).toNat := m_1
  have U_1 : UC u_1 := U_1
  have H_1 : FR [] u u_1 := H_1
  show wq (B_X6_land_4 N R_1 (l0) (l2_1) (l3_1) u_1) _
  unfold B_X6_land_4
  refine wq_if.mpr ⟨fun h4 => ?_, fun h4 => ?_⟩
  · show wq _ _
    have f5 : (3200 : Int32).toInt = 3200 := by decide
    have f6 := i32_b (l3_1)
    have g7 := Int32.le_iff_toInt_le.mp h4
    exact wq_some.mpr ⟨U_1, H_1, trivial⟩
  · show wq _ _
    have f8 : (3200 : Int32).toInt = 3200 := by decide
    have f9 := i32_b (l3_1)
    have g10 := Int32.lt_iff_toInt_lt.mp (Int32.not_le.mp h4)
    refine wq_if.mpr ⟨fun h11 => ?_, fun h11 => ?_⟩
    · show wq _ _
      have f12 := i32_b (l2_1)
      have f13 : (0 : Int32).toInt = 0 := by decide
      have g14 := Int32.lt_iff_toInt_lt.mp h11
      exact wq_some.mpr ⟨U_1, H_1, trivial⟩
    · show wq _ _
      have f15 := i32_b (l2_1)
      have f16 : (0 : Int32).toInt = 0 := by decide
      have g17 := Int32.le_iff_toInt_le.mp (Int32.not_lt.mp h11)
      refine wq_if.mpr ⟨fun h18 => ?_, fun h18 => ?_⟩
      · show wq _ _
        have f19 : (0 : Int) ≤ (pI u_1 l0 13).toInt ∧ (pI u_1 l0 13).toInt ≤ (3200 : Int) := U_1.p l0 13
        have g20 := Int32.le_iff_toInt_le.mp h18
        exact wq_some.mpr ⟨U_1, H_1, trivial⟩
      · show wq _ _
        have f21 : (0 : Int) ≤ (pI u_1 l0 13).toInt ∧ (pI u_1 l0 13).toInt ≤ (3200 : Int) := U_1.p l0 13
        have g22 := Int32.lt_iff_toInt_lt.mp (Int32.not_le.mp h18)
        have x23 : vp_in (l2_1) 3200 := vin_iff.mpr ⟨by omega, by omega⟩
        refine wq_rdU x23 (fun v_5 e_v_5 => ?_)
        have x24 : vp_in (l2_1) 3200 := vin_iff.mpr ⟨by omega, by omega⟩
        refine wq_wc.mpr ⟨x24, ?_⟩
        have U_u_7 : UC (xpA u_1 l0 12 l2_1.toNatClampNeg (pI u_1 l0 13)) := U_1.xpA (by decide)
        have H_u_7 : FR [] u (xpA u_1 l0 12 l2_1.toNatClampNeg (pI u_1 l0 13)) := H_1.of rfl rfl
        generalize e_u_7 : xpA u_1 l0 12 l2_1.toNatClampNeg (pI u_1 l0 13) = u_7 at U_u_7 H_u_7 ⊢
        have f25 := i32_b (v_5)
        have f26 : (1 : Int32).toInt = 1 := by decide
        have f27 := tI_ad (l3_1) (1)
        have f28 := i32_b (l3_1 + 1)
        exact ih_1 ((2147483648 - (l3_1 + 1).toInt).toNat) (l0, v_5, l3_1 + 1, u_7) (by omega) ⟨U_u_7, H_u_7, rfl, (show 0 ≤ (l3_1 + 1).toInt by omega), rfl⟩
set_option maxHeartbeats 4000000 in
theorem v_X6_label {N : Nat} {u : CSt} (hN : 5000000000 ≤ N) (U_u : UC u) {l0 : Nat} {l1 : Int64} {l3 : Int64} : wq (F_X6_label N l0 l1 l3 u) (VP [] (fun (r : Int32) (w : CSt) => True) u) := by
  have H_u : FR [] u u := FR.rf
  unfold F_X6_label
  unfold B_X6_label_0
  refine wq_if.mpr ⟨fun h1 => ?_, fun h1 => ?_⟩
  · show wq _ _
    have f2 : (750 : Int32).toInt = 750 := by decide
    have f3 : (0 : Int) ≤ (pI u l0 14).toInt ∧ (pI u l0 14).toInt ≤ (750 : Int) := U_u.p l0 14
    have g4 := Int32.le_iff_toInt_le.mp h1
    exact wq_some.mpr ⟨U_u, H_u, trivial⟩
  · show wq _ _
    have f5 : (750 : Int32).toInt = 750 := by decide
    have f6 : (0 : Int) ≤ (pI u l0 14).toInt ∧ (pI u l0 14).toInt ≤ (750 : Int) := U_u.p l0 14
    have g7 := Int32.lt_iff_toInt_lt.mp (Int32.not_le.mp h1)
    have x8 : vp_in (pI u l0 14) 750 := vin_iff.mpr ⟨by omega, by omega⟩
    refine wq_wc.mpr ⟨x8, ?_⟩
    have U_u_3 : UC (xpB u l0 15 ((pI u l0 14).toNatClampNeg) l1) := U_u.xpB
    have H_u_3 : FR [] u (xpB u l0 15 ((pI u l0 14).toNatClampNeg) l1) := H_u.of rfl rfl
    generalize e_u_3 : xpB u l0 15 ((pI u l0 14).toNatClampNeg) l1 = u_3 at U_u_3 H_u_3 ⊢
    have f9 : (0 : Int) ≤ (pI u_3 l0 14).toInt ∧ (pI u_3 l0 14).toInt ≤ (750 : Int) := U_u_3.p l0 14
    have f10 : (pI u_3 l0 14).toInt = (pI u l0 14).toInt := by rw [← e_u_3]; rfl
    have x11 : vp_in (pI u_3 l0 14) 750 := vin_iff.mpr ⟨by omega, by omega⟩
    refine wq_wc.mpr ⟨x11, ?_⟩
    have U_u_5 : UC (xpB u_3 l0 16 ((pI u_3 l0 14).toNatClampNeg) l3) := U_u_3.xpB
    have H_u_5 : FR [] u (xpB u_3 l0 16 ((pI u_3 l0 14).toNatClampNeg) l3) := H_u_3.of rfl rfl
    generalize e_u_5 : xpB u_3 l0 16 ((pI u_3 l0 14).toNatClampNeg) l3 = u_5 at U_u_5 H_u_5 ⊢
    refine wq_pc.mpr ?_
    have f12 : (0 : Int) ≤ (pI u_5 l0 14).toInt ∧ (pI u_5 l0 14).toInt ≤ (750 : Int) := U_u_5.p l0 14
    have f13 : (pI u_5 l0 14).toInt = (pI u_3 l0 14).toInt := by rw [← e_u_5]; rfl
    have f14 : (1 : Int32).toInt = 1 := by decide
    have f15 := tI_ad (pI u_5 l0 14) (1)
    have f16 := i32_b ((pI u_5 l0 14) + 1)
    have U_u_6 : UC (xpI u_5 l0 14 ((pI u_5 l0 14) + 1)) := U_u_5.xpI (k := 14) (show (0 : Int) ≤ ((pI u_5 l0 14) + 1).toInt by omega) (show ((pI u_5 l0 14) + 1).toInt ≤ (750 : Int) by omega)
    have H_u_6 : FR [] u (xpI u_5 l0 14 ((pI u_5 l0 14) + 1)) := H_u_5.of rfl rfl
    generalize e_u_6 : xpI u_5 l0 14 ((pI u_5 l0 14) + 1) = u_6 at U_u_6 H_u_6 ⊢
    exact wq_some.mpr ⟨U_u_6, H_u_6, trivial⟩
set_option maxHeartbeats 4000000 in
theorem v_X6_liesIn {N : Nat} {u : CSt} (hN : 5000000000 ≤ N) (U_u : UC u) {l0 : Nat} {l1 : Int64} {l3 : Int32} {l4 : Int32} : wq (F_X6_liesIn N l0 l1 l3 l4 u) (VR (fun (r : Int32) => True) u) := by
  have H_u : FR [] u u := FR.rf
  unfold F_X6_liesIn
  unfold B_X6_liesIn_0
  have f2 := i32_b (l3)
  have f3 := i32_b (l4)
  unfold LP_X6_liesIn_3
  refine wq_lp (fun (d : Nat) (a : Nat × Int64 × Int32 × Int32 × Int32 × CSt) => a.2.2.2.2.2 = u ∧ a.1 = l0 ∧ a.2.1 = l1 ∧ a.2.2.1 = l3 ∧ a.2.2.2.1 = l4 ∧ d = (2147483648 - a.2.2.2.2.1.toInt).toNat) ?_ _ ((2147483648 - (l3).toInt).toNat) _ (by omega) ⟨rfl, rfl, rfl, rfl, rfl, rfl⟩
  rintro d_1 R_1 ⟨l0_1, l1_1, l3_1, l4_1, l5_1, u_1⟩ ⟨e_1, k_1_0, k_1_1, k_1_2, k_1_3, m_1⟩ ih_1
  have e_1 : u = u_1 := Eq.symm e_1
  subst e_1
  have k_1_0 : l0 = l0_1 := Eq.symm k_1_0
  subst k_1_0
  have k_1_1 : l1 = l1_1 := Eq.symm k_1_1
  subst k_1_1
  have k_1_2 : l3 = l3_1 := Eq.symm k_1_2
  subst k_1_2
  have k_1_3 : l4 = l4_1 := Eq.symm k_1_3
  subst k_1_3
  have m_1 : d_1 = (2147483648 - l5_1.toInt).toNat := m_1
  show wq (B_X6_liesIn_3 N R_1 (l0) (l1) (l3) (l4) (l5_1) u) _
  unfold B_X6_liesIn_3
  refine wq_if.mpr ⟨fun h4 => ?_, fun h4 => ?_⟩
  · show wq _ _
    have f5 := tI_ad (l3) (l4)
    have f6 := i32_b (l3 + l4)
    have f7 := i32_b (l5_1)
    have g8 := Int32.le_iff_toInt_le.mp h4
    exact wq_some.mpr ⟨rfl, trivial⟩
  · show wq _ _
    have f9 := tI_ad (l3) (l4)
    have f10 := i32_b (l3 + l4)
    have f11 := i32_b (l5_1)
    have g12 := Int32.lt_iff_toInt_lt.mp (Int32.not_le.mp h4)
    refine wq_if.mpr ⟨fun h13 => ?_, fun h13 => ?_⟩
    · show wq _ _
      have f14 : (0 : Int32).toInt = 0 := by decide
      have g15 := Int32.lt_iff_toInt_lt.mp h13
      exact wq_some.mpr ⟨rfl, trivial⟩
    · show wq _ _
      have f16 : (0 : Int32).toInt = 0 := by decide
      have g17 := Int32.le_iff_toInt_le.mp (Int32.not_lt.mp h13)
      refine wq_if.mpr ⟨fun h18 => ?_, fun h18 => ?_⟩
      · show wq _ _
        have f19 : (0 : Int) ≤ (pI u l0 14).toInt ∧ (pI u l0 14).toInt ≤ (750 : Int) := U_u.p l0 14
        have g20 := Int32.le_iff_toInt_le.mp h18
        exact wq_some.mpr ⟨rfl, trivial⟩
      · show wq _ _
        have f21 : (0 : Int) ≤ (pI u l0 14).toInt ∧ (pI u l0 14).toInt ≤ (750 : Int) := U_u.p l0 14
        have g22 := Int32.lt_iff_toInt_lt.mp (Int32.not_le.mp h18)
        have x23 : vp_in (l5_1) 750 := vin_iff.mpr ⟨by omega, by omega⟩
        refine wq_rdU x23 (fun v_5 e_v_5 => ?_)
        refine wq_if.mpr ⟨fun h24 => ?_, fun h24 => ?_⟩
        · show wq _ _
          unfold B_X6_liesIn_52
          have f25 : (1 : Int32).toInt = 1 := by decide
          have f26 := tI_ad (l5_1) (1)
          have f27 := i32_b (l5_1 + 1)
          exact ih_1 ((2147483648 - (l5_1 + 1).toInt).toNat) (l0, l1, l3, l4, l5_1 + 1, u) (by omega) ⟨rfl, rfl, rfl, rfl, rfl, rfl⟩
        · show wq _ _
          have x28 : vp_in (l5_1) 750 := vin_iff.mpr ⟨by omega, by omega⟩
          refine wq_rdU x28 (fun v_8 e_v_8 => ?_)
          refine wq_if.mpr ⟨fun h29 => ?_, fun h29 => ?_⟩
          · show wq _ _
            unfold B_X6_liesIn_52
            have f30 : (1 : Int32).toInt = 1 := by decide
            have f31 := tI_ad (l5_1) (1)
            have f32 := i32_b (l5_1 + 1)
            exact ih_1 ((2147483648 - (l5_1 + 1).toInt).toNat) (l0, l1, l3, l4, l5_1 + 1, u) (by omega) ⟨rfl, rfl, rfl, rfl, rfl, rfl⟩
          · show wq _ _
            exact wq_some.mpr ⟨rfl, trivial⟩
