set_option maxHeartbeats 4000000 in
theorem v_X9_mostRepeats {N : Nat} (hN : 5000000000 ≤ N) {l0 : Int32} : ∃ r, F_X9_mostRepeats N l0 = some r ∧ True := by
  unfold F_X9_mostRepeats
  simp only [B_X9_mostRepeats_0]
  repeat' (refine pu_if ?_ ?_)
  all_goals exact ⟨_, rfl, trivial⟩
set_option maxHeartbeats 4000000 in
theorem v_X9_takesEquals {N : Nat} (hN : 5000000000 ≤ N) {l0 : Int32} {l1 : Int32} : ∃ r, F_X9_takesEquals N l0 l1 = some r ∧ True := by
  unfold F_X9_takesEquals
  simp only [B_X9_takesEquals_0]
  repeat' (refine pu_if ?_ ?_)
  all_goals exact ⟨_, rfl, trivial⟩
set_option maxHeartbeats 4000000 in
theorem v_X9_digit {N : Nat} (hN : 5000000000 ≤ N) {l0 : Int32} {l1 : Int32} : ∃ r, F_X9_digit N l0 l1 = some r ∧ True := by
  unfold F_X9_digit
  simp only [B_X9_digit_0, B_X9_digit_17, B_X9_digit_41]
  repeat' (refine pu_if ?_ ?_)
  all_goals exact ⟨_, rfl, trivial⟩
set_option maxHeartbeats 4000000 in
theorem v_X9_isWordByte {N : Nat} (hN : 5000000000 ≤ N) {l0 : Int32} : ∃ r, F_X9_isWordByte N l0 = some r ∧ True := by
  unfold F_X9_isWordByte
  simp only [B_X9_isWordByte_0, B_X9_isWordByte_12, B_X9_isWordByte_24, B_X9_isWordByte_42]
  repeat' (refine pu_if ?_ ?_)
  all_goals exact ⟨_, rfl, trivial⟩
set_option maxHeartbeats 4000000 in
theorem v_X9_strength {N : Nat} (hN : 5000000000 ≤ N) {l0 : Int32} : ∃ r, F_X9_strength N l0 = some r ∧ True := by
  unfold F_X9_strength
  simp only [B_X9_strength_0]
  repeat' (refine pu_if ?_ ?_)
  all_goals exact ⟨_, rfl, trivial⟩
set_option maxHeartbeats 4000000 in
theorem v_X9_operation {N : Nat} (hN : 5000000000 ≤ N) {l0 : Int32} : ∃ r, F_X9_operation N l0 = some r ∧ True := by
  unfold F_X9_operation
  simp only [B_X9_operation_0]
  repeat' (refine pu_if ?_ ?_)
  all_goals exact ⟨_, rfl, trivial⟩
set_option maxHeartbeats 4000000 in
theorem v_X9_comparison {N : Nat} (hN : 5000000000 ≤ N) {l0 : Int32} : ∃ r, F_X9_comparison N l0 = some r ∧ True := by
  unfold F_X9_comparison
  simp only [B_X9_comparison_0]
  repeat' (refine pu_if ?_ ?_)
  all_goals exact ⟨_, rfl, trivial⟩
set_option maxHeartbeats 4000000 in
theorem v_X9_assigned {N : Nat} (hN : 5000000000 ≤ N) {l0 : Int32} : ∃ r, F_X9_assigned N l0 = some r ∧ True := by
  unfold F_X9_assigned
  simp only [B_X9_assigned_0]
  split
  · obtain ⟨z, hz, -⟩ := v_X9_operation (N := N) hN (l0 := l0 >>> (8 &&& 31))
    rw [hz]
    exact ⟨_, rfl, trivial⟩
  · exact ⟨_, rfl, trivial⟩
set_option maxHeartbeats 4000000 in
theorem v_J9_floorMod_7cf53 {N : Nat} (hN : 5000000000 ≤ N) {l0 : Int32} {l1 : Int32} (h_0 : ¬ l1.toInt = 0) : ∃ r, F_J9_floorMod_7cf53 N l0 l1 = some r ∧ True := by
  have h1 : ¬ l1 = 0 := fun q => h_0 (by rw [q]; decide)
  unfold F_J9_floorMod_7cf53
  simp only [B_J9_floorMod_7cf53_0, nz, if_neg h1]
  repeat' split
  all_goals exact ⟨_, rfl, trivial⟩
set_option maxHeartbeats 4000000 in
theorem v_X9_rewind {N : Nat} {u : CSt} (hN : 5000000000 ≤ N) (U_u : UC u)  : wq (F_X9_rewind N  u) (VP [5] (fun (r : Int32) (w : CSt) => True) u) := by
  have H_u : FR [5] u u := FR.rf
  unfold F_X9_rewind
  unfold B_X9_rewind_0
  refine wq_pc.mpr ?_
  have f1 : (0 : Int32).toInt = 0 := by decide
  have U_u_1 : UC (xI u 5 0) := U_u.xI (k := 5) (show (0 : Int) ≤ ((0 : Int32)).toInt by omega) (show ((0 : Int32)).toInt ≤ (1500 : Int) by omega)
  have H_u_1 : FR [5] u (xI u 5 0) := H_u.xI (by decide)
  generalize e_u_1 : xI u 5 0 = u_1 at U_u_1 H_u_1 ⊢
  exact wq_some.mpr ⟨U_u_1, H_u_1, trivial⟩
set_option maxHeartbeats 4000000 in
theorem v_X9_type {N : Nat} {u : CSt} (hN : 5000000000 ≤ N) (U_u : UC u)  : wq (F_X9_type N  u) (VR (fun (r : Int32) => True) u) := by
  have H_u : FR [] u u := FR.rf
  unfold F_X9_type
  unfold B_X9_type_0
  have f1 : (0 : Int) ≤ (cI u 5).toInt ∧ (cI u 5).toInt ≤ (1500 : Int) := U_u.i  5
  have x2 : vp_in (cI u 5) 1501 := vin_iff.mpr ⟨by omega, by omega⟩
  refine wq_rdU x2 (fun v_2 e_v_2 => ?_)
  exact wq_some.mpr ⟨rfl, trivial⟩
set_option maxHeartbeats 4000000 in
theorem v_X9_typeAhead {N : Nat} {u : CSt} (hN : 5000000000 ≤ N) (U_u : UC u) {l1 : Int32} (h_0 : 0 ≤ l1.toInt ∧ l1.toInt ≤ 2) : wq (F_X9_typeAhead N l1 u) (VR (fun (r : Int32) => True) u) := by
  have H_u : FR [] u u := FR.rf
  unfold F_X9_typeAhead
  unfold B_X9_typeAhead_0
  refine wq_if.mpr ⟨fun h1 => ?_, fun h1 => ?_⟩
  · show wq _ _
    have f2 : (0 : Int) ≤ (cI u 4).toInt ∧ (cI u 4).toInt ≤ (1500 : Int) := U_u.i  4
    have f3 : (0 : Int) ≤ (cI u 5).toInt ∧ (cI u 5).toInt ≤ (1500 : Int) := U_u.i  5
    have f4 := i32_b (l1)
    have f5 := tI_ad (cI u 5) (l1)
    have f6 := i32_b ((cI u 5) + l1)
    have g7 := Int32.lt_iff_toInt_lt.mp h1
    exact wq_some.mpr ⟨rfl, trivial⟩
  · show wq _ _
    have f8 : (0 : Int) ≤ (cI u 4).toInt ∧ (cI u 4).toInt ≤ (1500 : Int) := U_u.i  4
    have f9 : (0 : Int) ≤ (cI u 5).toInt ∧ (cI u 5).toInt ≤ (1500 : Int) := U_u.i  5
    have f10 := i32_b (l1)
    have f11 := tI_ad (cI u 5) (l1)
    have f12 := i32_b ((cI u 5) + l1)
    have g13 := Int32.le_iff_toInt_le.mp (Int32.not_lt.mp h1)
    have x14 : vp_in ((cI u 5) + l1) 1501 := vin_iff.mpr ⟨by omega, by omega⟩
    refine wq_rdU x14 (fun v_3 e_v_3 => ?_)
    exact wq_some.mpr ⟨rfl, trivial⟩
set_option maxHeartbeats 4000000 in
theorem v_X9_is {N : Nat} {u : CSt} (hN : 5000000000 ≤ N) (U_u : UC u) {l1 : Int32} : wq (F_X9_is N l1 u) (VR (fun (r : Int32) => True) u) := by
  have H_u : FR [] u u := FR.rf
  unfold F_X9_is
  unfold B_X9_is_0
  have f1 : (0 : Int) ≤ (cI u 5).toInt ∧ (cI u 5).toInt ≤ (1500 : Int) := U_u.i  5
  have x2 : vp_in (cI u 5) 1501 := vin_iff.mpr ⟨by omega, by omega⟩
  refine wq_rdU x2 (fun v_2 e_v_2 => ?_)
  refine wq_if.mpr ⟨fun h3 => ?_, fun h3 => ?_⟩
  · show wq _ _
    have f4 := i32_b (v_2)
    have f5 := i32_b (l1)
    have g6 := tI_eq.mp h3
    exact wq_some.mpr ⟨rfl, trivial⟩
  · show wq _ _
    have f7 := i32_b (v_2)
    have f8 := i32_b (l1)
    have g9 := tI_ne h3
    exact wq_some.mpr ⟨rfl, trivial⟩
set_option maxHeartbeats 4000000 in
theorem v_X9_isKindWord {N : Nat} {u : CSt} (hN : 5000000000 ≤ N) (U_u : UC u)  : wq (F_X9_isKindWord N  u) (VR (fun (r : Int32) => True) u) := by
  have H_u : FR [] u u := FR.rf
  unfold F_X9_isKindWord
  unfold B_X9_isKindWord_0
  have f1 : (0 : Int) ≤ (cI u 5).toInt ∧ (cI u 5).toInt ≤ (1500 : Int) := U_u.i  5
  have x2 : vp_in (cI u 5) 1501 := vin_iff.mpr ⟨by omega, by omega⟩
  refine wq_rdU x2 (fun v_2 e_v_2 => ?_)
  refine wq_if.mpr ⟨fun h3 => ?_, fun h3 => ?_⟩
  · show wq _ _
    have f4 := i32_b (v_2)
    have f5 : (12 : Int32).toInt = 12 := by decide
    have g6 := Int32.lt_iff_toInt_lt.mp h3
    exact wq_some.mpr ⟨rfl, trivial⟩
  · show wq _ _
    have f7 := i32_b (v_2)
    have f8 : (12 : Int32).toInt = 12 := by decide
    have g9 := Int32.le_iff_toInt_le.mp (Int32.not_lt.mp h3)
    have x10 : vp_in (cI u 5) 1501 := vin_iff.mpr ⟨by omega, by omega⟩
    refine wq_rdU x10 (fun v_5 e_v_5 => ?_)
    refine wq_if.mpr ⟨fun h11 => ?_, fun h11 => ?_⟩
    · show wq _ _
      have f12 : (16 : Int32).toInt = 16 := by decide
      have f13 := i32_b (v_5)
      have g14 := Int32.lt_iff_toInt_lt.mp h11
      exact wq_some.mpr ⟨rfl, trivial⟩
    · show wq _ _
      have f15 : (16 : Int32).toInt = 16 := by decide
      have f16 := i32_b (v_5)
      have g17 := Int32.le_iff_toInt_le.mp (Int32.not_lt.mp h11)
      exact wq_some.mpr ⟨rfl, trivial⟩
set_option maxHeartbeats 4000000 in
theorem v_X9_here {N : Nat} {u : CSt} (hN : 5000000000 ≤ N) (U_u : UC u)  : wq (F_X9_here N  u) (VR (fun (r : Int32) => True) u) := by
  have H_u : FR [] u u := FR.rf
  unfold F_X9_here
  unfold B_X9_here_0
  have f1 : (0 : Int) ≤ (cI u 5).toInt ∧ (cI u 5).toInt ≤ (1500 : Int) := U_u.i  5
  have x2 : vp_in (cI u 5) 1501 := vin_iff.mpr ⟨by omega, by omega⟩
  refine wq_rdU x2 (fun v_2 e_v_2 => ?_)
  exact wq_some.mpr ⟨rfl, trivial⟩
set_option maxHeartbeats 4000000 in
theorem v_X9_head {N : Nat} {u : CSt} (hN : 5000000000 ≤ N) (U_u : UC u)  : wq (F_X9_head N  u) (VR (fun (r : Int64) => True) u) := by
  have H_u : FR [] u u := FR.rf
  unfold F_X9_head
  unfold B_X9_head_0
  have f1 : (0 : Int) ≤ (cI u 5).toInt ∧ (cI u 5).toInt ≤ (1500 : Int) := U_u.i  5
  have x2 : vp_in (cI u 5) 1501 := vin_iff.mpr ⟨by omega, by omega⟩
  refine wq_rdU x2 (fun v_2 e_v_2 => ?_)
  exact wq_some.mpr ⟨rfl, trivial⟩
set_option maxHeartbeats 4000000 in
theorem v_X9_tail {N : Nat} {u : CSt} (hN : 5000000000 ≤ N) (U_u : UC u)  : wq (F_X9_tail N  u) (VR (fun (r : Int32) => True) u) := by
  have H_u : FR [] u u := FR.rf
  unfold F_X9_tail
  unfold B_X9_tail_0
  have f1 : (0 : Int) ≤ (cI u 5).toInt ∧ (cI u 5).toInt ≤ (1500 : Int) := U_u.i  5
  have x2 : vp_in (cI u 5) 1501 := vin_iff.mpr ⟨by omega, by omega⟩
  refine wq_rdU x2 (fun v_2 e_v_2 => ?_)
  exact wq_some.mpr ⟨rfl, trivial⟩
set_option maxHeartbeats 4000000 in
theorem v_X9_isWide {N : Nat} {u : CSt} (hN : 5000000000 ≤ N) (U_u : UC u)  : wq (F_X9_isWide N  u) (VR (fun (r : Int32) => True) u) := by
  have H_u : FR [] u u := FR.rf
  unfold F_X9_isWide
  unfold B_X9_isWide_0
  have f1 : (0 : Int) ≤ (cI u 5).toInt ∧ (cI u 5).toInt ≤ (1500 : Int) := U_u.i  5
  have x2 : vp_in (cI u 5) 1501 := vin_iff.mpr ⟨by omega, by omega⟩
  refine wq_rdU x2 (fun v_2 e_v_2 => ?_)
  refine wq_if.mpr ⟨fun h3 => ?_, fun h3 => ?_⟩
  · show wq _ _
    have f4 := i32_b (v_2)
    have f5 : (1 : Int32).toInt = 1 := by decide
    have f6 := i32_b (v_2 &&& 1)
    have f7 : (0 : Int32).toInt = 0 := by decide
    have g8 := tI_eq.mp h3
    exact wq_some.mpr ⟨rfl, trivial⟩
  · show wq _ _
    have f9 := i32_b (v_2)
    have f10 : (1 : Int32).toInt = 1 := by decide
    have f11 := i32_b (v_2 &&& 1)
    have f12 : (0 : Int32).toInt = 0 := by decide
    have g13 := tI_ne h3
    exact wq_some.mpr ⟨rfl, trivial⟩
set_option maxHeartbeats 4000000 in
theorem v_X9_next {N : Nat} {u : CSt} (hN : 5000000000 ≤ N) (U_u : UC u)  : wq (F_X9_next N  u) (VP [5] (fun (r : Int32) (w : CSt) => True) u) := by
  have H_u : FR [5] u u := FR.rf
  unfold F_X9_next
  unfold B_X9_next_0
  refine wq_if.mpr ⟨fun h1 => ?_, fun h1 => ?_⟩
  · show wq _ _
    have f2 : (0 : Int) ≤ (cI u 4).toInt ∧ (cI u 4).toInt ≤ (1500 : Int) := U_u.i  4
    have f3 : (0 : Int) ≤ (cI u 5).toInt ∧ (cI u 5).toInt ≤ (1500 : Int) := U_u.i  5
    have g4 := Int32.le_iff_toInt_le.mp h1
    exact wq_some.mpr ⟨U_u, H_u, trivial⟩
  · show wq _ _
    have f5 : (0 : Int) ≤ (cI u 4).toInt ∧ (cI u 4).toInt ≤ (1500 : Int) := U_u.i  4
    have f6 : (0 : Int) ≤ (cI u 5).toInt ∧ (cI u 5).toInt ≤ (1500 : Int) := U_u.i  5
    have g7 := Int32.lt_iff_toInt_lt.mp (Int32.not_le.mp h1)
    refine wq_pc.mpr ?_
    have f8 : (1 : Int32).toInt = 1 := by decide
    have f9 := tI_ad (cI u 5) (1)
    have f10 := i32_b ((cI u 5) + 1)
    have U_u_2 : UC (xI u 5 ((cI u 5) + 1)) := U_u.xI (k := 5) (show (0 : Int) ≤ ((cI u 5) + 1).toInt by omega) (show ((cI u 5) + 1).toInt ≤ (1500 : Int) by omega)
    have H_u_2 : FR [5] u (xI u 5 ((cI u 5) + 1)) := H_u.xI (by decide)
    generalize e_u_2 : xI u 5 ((cI u 5) + 1) = u_2 at U_u_2 H_u_2 ⊢
    exact wq_some.mpr ⟨U_u_2, H_u_2, trivial⟩
set_option maxHeartbeats 4000000 in
theorem v_X9_misfit {N : Nat} {u : CSt} (hN : 5000000000 ≤ N) (U_u : UC u)  : wq (F_X9_misfit N  u) (VR (fun (r : Int32) => True) u) := by
  have H_u : FR [] u u := FR.rf
  unfold F_X9_misfit
  unfold B_X9_misfit_0
  have f1 : (0 : Int) ≤ (cI u 5).toInt ∧ (cI u 5).toInt ≤ (1500 : Int) := U_u.i  5
  have x2 : vp_in (cI u 5) 1501 := vin_iff.mpr ⟨by omega, by omega⟩
  refine wq_rdU x2 (fun v_2 e_v_2 => ?_)
  refine wq_if.mpr ⟨fun h3 => ?_, fun h3 => ?_⟩
  · show wq _ _
    have f4 := i32_b (v_2)
    have f5 : (131 : Int32).toInt = 131 := by decide
    have g6 := tI_eq.mp h3
    exact wq_some.mpr ⟨rfl, trivial⟩
  · show wq _ _
    have f7 := i32_b (v_2)
    have f8 : (131 : Int32).toInt = 131 := by decide
    have g9 := tI_ne h3
    exact wq_some.mpr ⟨rfl, trivial⟩
set_option maxHeartbeats 4000000 in
theorem v_X9_refuse {N : Nat} {u : CSt} (hN : 5000000000 ≤ N) (U_u : UC u) {l1 : Int32} {l2 : Int32} : wq (F_X9_refuse N l1 l2 u) (VS [6, 7] [0] (fun (r : Int32) (w : CSt) => False) u) := by
  have H_u : FR [6, 7] u u := FR.rf
  unfold F_X9_refuse
  unfold B_X9_refuse_0
  refine wq_pc.mpr ?_
  have f1 := i32_b (l1)
  have U_u_1 : UC (xI u 6 l1) := U_u.xI (k := 6) (show (-2147483648 : Int) ≤ (l1).toInt by omega) (show (l1).toInt ≤ (2147483647 : Int) by omega)
  have H_u_1 : FR [6, 7] u (xI u 6 l1) := H_u.xI (by decide)
  generalize e_u_1 : xI u 6 l1 = u_1 at U_u_1 H_u_1 ⊢
  refine wq_pc.mpr ?_
  have f2 := i32_b (l2)
  have U_u_2 : UC (xI u_1 7 l2) := U_u_1.xI (k := 7) (show (-2147483648 : Int) ≤ (l2).toInt by omega) (show (l2).toInt ≤ (2147483647 : Int) by omega)
  have H_u_2 : FR [6, 7] u (xI u_1 7 l2) := H_u_1.xI (by decide)
  generalize e_u_2 : xI u_1 7 l2 = u_2 at U_u_2 H_u_2 ⊢
  exact wq_some.mpr ⟨U_u_2, H_u_2, Or.inl ⟨0, rfl, by decide⟩⟩
set_option maxHeartbeats 4000000 in
theorem v_X9_take {N : Nat} {u : CSt} (hN : 5000000000 ≤ N) (U_u : UC u) {l1 : Int32} : wq (F_X9_take N l1 u) (VS [5, 6, 7] [0] (fun (r : Int32) (w : CSt) => True) u) := by
  have H_u : FR [5, 6, 7] u u := FR.rf
  unfold F_X9_take
  unfold B_X9_take_0
  have f1 : (0 : Int) ≤ (cI u 5).toInt ∧ (cI u 5).toInt ≤ (1500 : Int) := U_u.i  5
  have x2 : vp_in (cI u 5) 1501 := vin_iff.mpr ⟨by omega, by omega⟩
  refine wq_rdU x2 (fun v_3 e_v_3 => ?_)
  refine wq_if.mpr ⟨fun h3 => ?_, fun h3 => ?_⟩
  · show wq _ _
    have f4 := i32_b (v_3)
    have f5 := i32_b (l1)
    have g6 := tI_eq.mp h3
    unfold B_X9_take_30
    refine wq_bcV (v_X9_next hN U_u ) (fun r7 u_1 U_u_1 G_u_1 p8 => ?_)
    have H_u_1 := H_u.call G_u_1 (show ∀ k ∈ [5], k ∈ [5, 6, 7] by decide)
    exact wq_some.mpr ⟨U_u_1, H_u_1, Or.inr ⟨_, rfl, trivial⟩⟩
  · show wq _ _
    have f9 := i32_b (v_3)
    have f10 := i32_b (l1)
    have g11 := tI_ne h3
    refine wq_bcR (v_X9_misfit hN U_u ) (fun r_6 p12 => ?_)
    have x13 : vp_in (cI u 5) 1501 := vin_iff.mpr ⟨by omega, by omega⟩
    refine wq_rdU x13 (fun v_8 e_v_8 => ?_)
    have f14 := i32_b (r_6)
    have f15 := i32_b (v_8)
    refine wq_btV (v_X9_refuse hN U_u ) (fun x w hx U G => ⟨U, H_u.call G (by decide), Or.inl ⟨x, rfl, (by decide : ∀ x ∈ [0], x ∈ [0]) x hx⟩⟩) (fun r16 u_9 U_u_9 G_u_9 p17 => ?_)
    have H_u_9 := H_u.call G_u_9 (show ∀ k ∈ [6, 7], k ∈ [5, 6, 7] by decide)
    exact p17.elim
set_option maxHeartbeats 4000000 in
theorem v_X9_refuseToken {N : Nat} {u : CSt} (hN : 5000000000 ≤ N) (U_u : UC u)  : wq (F_X9_refuseToken N  u) (VS [6, 7] [0] (fun (r : Int32) (w : CSt) => False) u) := by
  have H_u : FR [6, 7] u u := FR.rf
  unfold F_X9_refuseToken
  unfold B_X9_refuseToken_0
  refine wq_bcR (v_X9_misfit hN U_u ) (fun r_2 p1 => ?_)
  have f2 : (0 : Int) ≤ (cI u 5).toInt ∧ (cI u 5).toInt ≤ (1500 : Int) := U_u.i  5
  have x3 : vp_in (cI u 5) 1501 := vin_iff.mpr ⟨by omega, by omega⟩
  refine wq_rdU x3 (fun v_4 e_v_4 => ?_)
  have f4 := i32_b (r_2)
  have f5 := i32_b (v_4)
  refine wq_btV (v_X9_refuse hN U_u ) (fun x w hx U G => ⟨U, H_u.call G (by decide), Or.inl ⟨x, rfl, (by decide : ∀ x ∈ [0], x ∈ [0]) x hx⟩⟩) (fun r6 u_5 U_u_5 G_u_5 p7 => ?_)
  have H_u_5 := H_u.call G_u_5 (show ∀ k ∈ [6, 7], k ∈ [6, 7] by decide)
  exact p7.elim
set_option maxHeartbeats 4000000 in
theorem v_X9_takeNumber {N : Nat} {u : CSt} (hN : 5000000000 ≤ N) (U_u : UC u)  : wq (F_X9_takeNumber N  u) (VS [5, 6, 7] [0] (fun (r : Int64) (w : CSt) => True) u) := by
  have H_u : FR [5, 6, 7] u u := FR.rf
  unfold F_X9_takeNumber
  unfold B_X9_takeNumber_0
  have f1 : (0 : Int) ≤ (cI u 5).toInt ∧ (cI u 5).toInt ≤ (1500 : Int) := U_u.i  5
  have x2 : vp_in (cI u 5) 1501 := vin_iff.mpr ⟨by omega, by omega⟩
  refine wq_rdU x2 (fun v_5 e_v_5 => ?_)
  refine wq_if.mpr ⟨fun h3 => ?_, fun h3 => ?_⟩
  · show wq _ _
    have f4 := i32_b (v_5)
    have f5 : (2 : Int32).toInt = 2 := by decide
    have f6 := i32_b (v_5 &&& 2)
    have f7 : (0 : Int32).toInt = 0 := by decide
    have g8 := tI_eq.mp h3
    unfold B_X9_takeNumber_28
    have x9 : vp_in (cI u 5) 1501 := vin_iff.mpr ⟨by omega, by omega⟩
    refine wq_rdU x9 (fun v_2 e_v_2 => ?_)
    refine wq_bcV (v_X9_next hN U_u ) (fun r10 u_3 U_u_3 G_u_3 p11 => ?_)
    have H_u_3 := H_u.call G_u_3 (show ∀ k ∈ [5], k ∈ [5, 6, 7] by decide)
    exact wq_some.mpr ⟨U_u_3, H_u_3, Or.inr ⟨_, rfl, trivial⟩⟩
  · show wq _ _
    have f12 := i32_b (v_5)
    have f13 : (2 : Int32).toInt = 2 := by decide
    have f14 := i32_b (v_5 &&& 2)
    have f15 : (0 : Int32).toInt = 0 := by decide
    have g16 := tI_ne h3
    have x17 : vp_in (cI u 5) 1501 := vin_iff.mpr ⟨by omega, by omega⟩
    refine wq_rdU x17 (fun v_8 e_v_8 => ?_)
    have f18 : (5 : Int32).toInt = 5 := by decide
    have f19 := i32_b (v_8)
    refine wq_btV (v_X9_refuse hN U_u ) (fun x w hx U G => ⟨U, H_u.call G (by decide), Or.inl ⟨x, rfl, (by decide : ∀ x ∈ [0], x ∈ [0]) x hx⟩⟩) (fun r20 u_9 U_u_9 G_u_9 p21 => ?_)
    have H_u_9 := H_u.call G_u_9 (show ∀ k ∈ [6, 7], k ∈ [5, 6, 7] by decide)
    exact p21.elim
set_option maxHeartbeats 4000000 in
theorem v_X9_takeBounded {N : Nat} {u : CSt} (hN : 5000000000 ≤ N) (U_u : UC u) {l1 : Int64} {l3 : Int64} : wq (F_X9_takeBounded N l1 l3 u) (VS [5, 6, 7] [0] (fun (r : Int64) (w : CSt) => True) u) := by
  have H_u : FR [5, 6, 7] u u := FR.rf
  unfold F_X9_takeBounded
  unfold B_X9_takeBounded_0
  have f1 : (0 : Int) ≤ (cI u 5).toInt ∧ (cI u 5).toInt ≤ (1500 : Int) := U_u.i  5
  have x2 : vp_in (cI u 5) 1501 := vin_iff.mpr ⟨by omega, by omega⟩
  refine wq_rdU x2 (fun v_7 e_v_7 => ?_)
  have x3 : vp_in (cI u 5) 1501 := vin_iff.mpr ⟨by omega, by omega⟩
  refine wq_rdU x3 (fun v_9 e_v_9 => ?_)
  refine wq_if.mpr ⟨fun h4 => ?_, fun h4 => ?_⟩
  · show wq _ _
    have f5 := i32_b (v_9)
    have f6 : (2 : Int32).toInt = 2 := by decide
    have f7 := i32_b (v_9 &&& 2)
    have f8 : (0 : Int32).toInt = 0 := by decide
    have g9 := tI_eq.mp h4
    refine wq_if.mpr ⟨fun h10 => ?_, fun h10 => ?_⟩
    · show wq _ _
      unfold B_X9_takeBounded_39
      have x11 : vp_in (cI u 5) 1501 := vin_iff.mpr ⟨by omega, by omega⟩
      refine wq_rdU x11 (fun v_3 e_v_3 => ?_)
      have f12 : (5 : Int32).toInt = 5 := by decide
      have f13 := i32_b (v_3)
      refine wq_btV (v_X9_refuse hN U_u ) (fun x w hx U G => ⟨U, H_u.call G (by decide), Or.inl ⟨x, rfl, (by decide : ∀ x ∈ [0], x ∈ [0]) x hx⟩⟩) (fun r14 u_4 U_u_4 G_u_4 p15 => ?_)
      have H_u_4 := H_u.call G_u_4 (show ∀ k ∈ [6, 7], k ∈ [5, 6, 7] by decide)
      exact p15.elim
    · show wq _ _
      refine wq_if.mpr ⟨fun h16 => ?_, fun h16 => ?_⟩
      · show wq _ _
        unfold B_X9_takeBounded_53
        refine wq_bcV (v_X9_next hN U_u ) (fun r17 u_1 U_u_1 G_u_1 p18 => ?_)
        have H_u_1 := H_u.call G_u_1 (show ∀ k ∈ [5], k ∈ [5, 6, 7] by decide)
        exact wq_some.mpr ⟨U_u_1, H_u_1, Or.inr ⟨_, rfl, trivial⟩⟩
      · show wq _ _
        unfold B_X9_takeBounded_39
        have x19 : vp_in (cI u 5) 1501 := vin_iff.mpr ⟨by omega, by omega⟩
        refine wq_rdU x19 (fun v_3 e_v_3 => ?_)
        have f20 : (5 : Int32).toInt = 5 := by decide
        have f21 := i32_b (v_3)
        refine wq_btV (v_X9_refuse hN U_u ) (fun x w hx U G => ⟨U, H_u.call G (by decide), Or.inl ⟨x, rfl, (by decide : ∀ x ∈ [0], x ∈ [0]) x hx⟩⟩) (fun r22 u_4 U_u_4 G_u_4 p23 => ?_)
        have H_u_4 := H_u.call G_u_4 (show ∀ k ∈ [6, 7], k ∈ [5, 6, 7] by decide)
        exact p23.elim
  · show wq _ _
    have f24 := i32_b (v_9)
    have f25 : (2 : Int32).toInt = 2 := by decide
    have f26 := i32_b (v_9 &&& 2)
    have f27 : (0 : Int32).toInt = 0 := by decide
    have g28 := tI_ne h4
    unfold B_X9_takeBounded_39
    have x29 : vp_in (cI u 5) 1501 := vin_iff.mpr ⟨by omega, by omega⟩
    refine wq_rdU x29 (fun v_3 e_v_3 => ?_)
    have f30 : (5 : Int32).toInt = 5 := by decide
    have f31 := i32_b (v_3)
    refine wq_btV (v_X9_refuse hN U_u ) (fun x w hx U G => ⟨U, H_u.call G (by decide), Or.inl ⟨x, rfl, (by decide : ∀ x ∈ [0], x ∈ [0]) x hx⟩⟩) (fun r32 u_4 U_u_4 G_u_4 p33 => ?_)
    have H_u_4 := H_u.call G_u_4 (show ∀ k ∈ [6, 7], k ∈ [5, 6, 7] by decide)
    exact p33.elim
set_option maxHeartbeats 4000000 in
theorem v_X9_takeKind {N : Nat} {u : CSt} (hN : 5000000000 ≤ N) (U_u : UC u)  : wq (F_X9_takeKind N  u) (VP [5] (fun (r : Int32) (w : CSt) => True) u) := by
  have H_u : FR [5] u u := FR.rf
  unfold F_X9_takeKind
  unfold B_X9_takeKind_0
  have f1 : (0 : Int) ≤ (cI u 5).toInt ∧ (cI u 5).toInt ≤ (1500 : Int) := U_u.i  5
  have x2 : vp_in (cI u 5) 1501 := vin_iff.mpr ⟨by omega, by omega⟩
  refine wq_rdU x2 (fun v_2 e_v_2 => ?_)
  refine wq_bcV (v_X9_next hN U_u ) (fun r3 u_3 U_u_3 G_u_3 p4 => ?_)
  have H_u_3 := H_u.call G_u_3 (show ∀ k ∈ [5], k ∈ [5] by decide)
  exact wq_some.mpr ⟨U_u_3, H_u_3, trivial⟩
set_option maxHeartbeats 4000000 in
theorem v_X9_byteAt {N : Nat} {u : CSt} (hN : 5000000000 ≤ N) (U_u : UC u) {l1 : Int32} : wq (F_X9_byteAt N l1 u) (VR (fun (r : Int32) => True) u) := by
  have H_u : FR [] u u := FR.rf
  unfold F_X9_byteAt
  unfold B_X9_byteAt_0
  refine wq_if.mpr ⟨fun h1 => ?_, fun h1 => ?_⟩
  · show wq _ _
    have f2 := i32_b (l1)
    have f3 : (0 : Int32).toInt = 0 := by decide
    have g4 := Int32.lt_iff_toInt_lt.mp h1
    exact wq_some.mpr ⟨rfl, trivial⟩
  · show wq _ _
    have f5 := i32_b (l1)
    have f6 : (0 : Int32).toInt = 0 := by decide
    have g7 := Int32.le_iff_toInt_le.mp (Int32.not_lt.mp h1)
    refine wq_if.mpr ⟨fun h8 => ?_, fun h8 => ?_⟩
    · show wq _ _
      have f9 : (0 : Int) ≤ (cI u 3).toInt ∧ (cI u 3).toInt ≤ (6000 : Int) := U_u.i  3
      have g10 := Int32.le_iff_toInt_le.mp h8
      exact wq_some.mpr ⟨rfl, trivial⟩
    · show wq _ _
      have f11 : (0 : Int) ≤ (cI u 3).toInt ∧ (cI u 3).toInt ≤ (6000 : Int) := U_u.i  3
      have g12 := Int32.lt_iff_toInt_lt.mp (Int32.not_le.mp h8)
      refine wq_if.mpr ⟨fun h13 => ?_, fun h13 => ?_⟩
      · show wq _ _
        have f14 : (6000 : Int32).toInt = 6000 := by decide
        have g15 := Int32.le_iff_toInt_le.mp h13
        exact wq_some.mpr ⟨rfl, trivial⟩
      · show wq _ _
        have f16 : (6000 : Int32).toInt = 6000 := by decide
        have g17 := Int32.lt_iff_toInt_lt.mp (Int32.not_le.mp h13)
        have x18 : vp_in (l1) 6000 := vin_iff.mpr ⟨by omega, by omega⟩
        refine wq_rdU x18 (fun v_5 e_v_5 => ?_)
        exact wq_some.mpr ⟨rfl, trivial⟩
set_option maxHeartbeats 4000000 in
theorem v_X9_behindGap {N : Nat} {u : CSt} (hN : 5000000000 ≤ N) (U_u : UC u) {l1 : Int32} : wq (F_X9_behindGap N l1 u) (VR (fun (r : Int32) => True) u) := by
  have H_u : FR [] u u := FR.rf
  unfold F_X9_behindGap
  unfold B_X9_behindGap_0
  have f2 : (0 : Int32).toInt = 0 := by decide
  have f3 := i32_b (l1)
  unfold LP_X9_behindGap_4
  refine wq_lp (fun (d : Nat) (a : Int32 × Int32 × CSt) => a.2.2 = u ∧ d = (2147483648 - a.2.1.toInt).toNat) ?_ _ ((2147483648 - (l1).toInt).toNat) _ (by omega) ⟨rfl, rfl⟩
  rintro d_1 R_1 ⟨l2_1, l3_1, u_1⟩ ⟨e_1, m_1⟩ ih_1
  have e_1 : u = u_1 := Eq.symm e_1
  subst e_1
  have m_1 : d_1 = (2147483648 - l3_1.toInt).toNat := m_1
  show wq (B_X9_behindGap_4 N R_1 (l2_1) (l3_1) u) _
  unfold B_X9_behindGap_4
  refine wq_if.mpr ⟨fun h4 => ?_, fun h4 => ?_⟩
  · show wq _ _
    have f5 : (0 : Int) ≤ (cI u 3).toInt ∧ (cI u 3).toInt ≤ (6000 : Int) := U_u.i  3
    have f6 := i32_b (l3_1)
    have g7 := Int32.le_iff_toInt_le.mp h4
    exact wq_some.mpr ⟨rfl, trivial⟩
  · show wq _ _
    have f8 : (0 : Int) ≤ (cI u 3).toInt ∧ (cI u 3).toInt ≤ (6000 : Int) := U_u.i  3
    have f9 := i32_b (l3_1)
    have g10 := Int32.lt_iff_toInt_lt.mp (Int32.not_le.mp h4)
    refine wq_bcR (v_X9_byteAt hN U_u ) (fun r_7 p11 => ?_)
    refine wq_if.mpr ⟨fun h12 => ?_, fun h12 => ?_⟩
    · show wq _ _
      have f13 := i32_b (l2_1)
      have g14 := tI_eq.mp h12
      refine wq_if.mpr ⟨fun h15 => ?_, fun h15 => ?_⟩
      · show wq _ _
        have f16 := i32_b (r_7)
        have f17 : (47 : Int32).toInt = 47 := by decide
        have g18 := tI_eq.mp h15
        have f19 : (1 : Int32).toInt = 1 := by decide
        have f20 := tI_ad (l3_1) (1)
        have f21 := i32_b (l3_1 + 1)
        refine wq_bcR (v_X9_byteAt hN U_u ) (fun r_11 p22 => ?_)
        refine wq_if.mpr ⟨fun h23 => ?_, fun h23 => ?_⟩
        · show wq _ _
          have f24 := i32_b (r_11)
          have g25 := tI_eq.mp h23
          unfold B_X9_behindGap_93
          exact ih_1 ((2147483648 - (l3_1 + 1).toInt).toNat) ((1 : Int32), l3_1 + 1, u) (by omega) ⟨rfl, rfl⟩
        · show wq _ _
          have f26 := i32_b (r_11)
          have g27 := tI_ne h23
          unfold B_X9_behindGap_63
          refine wq_if.mpr ⟨fun h28 => ?_, fun h28 => ?_⟩
          · show wq _ _
            have f29 : (9 : Int32).toInt = 9 := by decide
            have g30 := tI_eq.mp h28
            unfold B_X9_behindGap_93
            exact ih_1 ((2147483648 - (l3_1 + 1).toInt).toNat) (l2_1, l3_1 + 1, u) (by omega) ⟨rfl, rfl⟩
          · show wq _ _
            have f31 : (9 : Int32).toInt = 9 := by decide
            have g32 := tI_ne h28
            refine wq_if.mpr ⟨fun h33 => ?_, fun h33 => ?_⟩
            · show wq _ _
              have f34 : (10 : Int32).toInt = 10 := by decide
              have g35 := tI_eq.mp h33
              unfold B_X9_behindGap_93
              exact ih_1 ((2147483648 - (l3_1 + 1).toInt).toNat) (l2_1, l3_1 + 1, u) (by omega) ⟨rfl, rfl⟩
            · show wq _ _
              have f36 : (10 : Int32).toInt = 10 := by decide
              have g37 := tI_ne h33
              refine wq_if.mpr ⟨fun h38 => ?_, fun h38 => ?_⟩
              · show wq _ _
                have f39 : (13 : Int32).toInt = 13 := by decide
                have g40 := tI_eq.mp h38
                unfold B_X9_behindGap_93
                exact ih_1 ((2147483648 - (l3_1 + 1).toInt).toNat) (l2_1, l3_1 + 1, u) (by omega) ⟨rfl, rfl⟩
              · show wq _ _
                have f41 : (13 : Int32).toInt = 13 := by decide
                have g42 := tI_ne h38
                refine wq_if.mpr ⟨fun h43 => ?_, fun h43 => ?_⟩
                · show wq _ _
                  have f44 : (32 : Int32).toInt = 32 := by decide
                  have g45 := tI_eq.mp h43
                  unfold B_X9_behindGap_93
                  exact ih_1 ((2147483648 - (l3_1 + 1).toInt).toNat) (l2_1, l3_1 + 1, u) (by omega) ⟨rfl, rfl⟩
                · show wq _ _
                  have f46 : (32 : Int32).toInt = 32 := by decide
                  have g47 := tI_ne h43
                  exact wq_some.mpr ⟨rfl, trivial⟩
      · show wq _ _
        have f48 := i32_b (r_7)
        have f49 : (47 : Int32).toInt = 47 := by decide
        have g50 := tI_ne h15
        unfold B_X9_behindGap_63
        refine wq_if.mpr ⟨fun h51 => ?_, fun h51 => ?_⟩
        · show wq _ _
          have f52 : (9 : Int32).toInt = 9 := by decide
          have g53 := tI_eq.mp h51
          unfold B_X9_behindGap_93
          have f54 : (1 : Int32).toInt = 1 := by decide
          have f55 := tI_ad (l3_1) (1)
          have f56 := i32_b (l3_1 + 1)
          exact ih_1 ((2147483648 - (l3_1 + 1).toInt).toNat) (l2_1, l3_1 + 1, u) (by omega) ⟨rfl, rfl⟩
        · show wq _ _
          have f57 : (9 : Int32).toInt = 9 := by decide
          have g58 := tI_ne h51
          refine wq_if.mpr ⟨fun h59 => ?_, fun h59 => ?_⟩
          · show wq _ _
            have f60 : (10 : Int32).toInt = 10 := by decide
            have g61 := tI_eq.mp h59
            unfold B_X9_behindGap_93
            have f62 : (1 : Int32).toInt = 1 := by decide
            have f63 := tI_ad (l3_1) (1)
            have f64 := i32_b (l3_1 + 1)
            exact ih_1 ((2147483648 - (l3_1 + 1).toInt).toNat) (l2_1, l3_1 + 1, u) (by omega) ⟨rfl, rfl⟩
          · show wq _ _
            have f65 : (10 : Int32).toInt = 10 := by decide
            have g66 := tI_ne h59
            refine wq_if.mpr ⟨fun h67 => ?_, fun h67 => ?_⟩
            · show wq _ _
              have f68 : (13 : Int32).toInt = 13 := by decide
              have g69 := tI_eq.mp h67
              unfold B_X9_behindGap_93
              have f70 : (1 : Int32).toInt = 1 := by decide
              have f71 := tI_ad (l3_1) (1)
              have f72 := i32_b (l3_1 + 1)
              exact ih_1 ((2147483648 - (l3_1 + 1).toInt).toNat) (l2_1, l3_1 + 1, u) (by omega) ⟨rfl, rfl⟩
            · show wq _ _
              have f73 : (13 : Int32).toInt = 13 := by decide
              have g74 := tI_ne h67
              refine wq_if.mpr ⟨fun h75 => ?_, fun h75 => ?_⟩
              · show wq _ _
                have f76 : (32 : Int32).toInt = 32 := by decide
                have g77 := tI_eq.mp h75
                unfold B_X9_behindGap_93
                have f78 : (1 : Int32).toInt = 1 := by decide
                have f79 := tI_ad (l3_1) (1)
                have f80 := i32_b (l3_1 + 1)
                exact ih_1 ((2147483648 - (l3_1 + 1).toInt).toNat) (l2_1, l3_1 + 1, u) (by omega) ⟨rfl, rfl⟩
              · show wq _ _
                have f81 : (32 : Int32).toInt = 32 := by decide
                have g82 := tI_ne h75
                exact wq_some.mpr ⟨rfl, trivial⟩
    · show wq _ _
      have f83 := i32_b (l2_1)
      have g84 := tI_ne h12
      refine wq_if.mpr ⟨fun h85 => ?_, fun h85 => ?_⟩
      · show wq _ _
        have f86 := i32_b (r_7)
        have f87 : (10 : Int32).toInt = 10 := by decide
        have g88 := tI_eq.mp h85
        unfold B_X9_behindGap_35
        unfold B_X9_behindGap_93
        have f89 : (1 : Int32).toInt = 1 := by decide
        have f90 := tI_ad (l3_1) (1)
        have f91 := i32_b (l3_1 + 1)
        exact ih_1 ((2147483648 - (l3_1 + 1).toInt).toNat) ((0 : Int32), l3_1 + 1, u) (by omega) ⟨rfl, rfl⟩
      · show wq _ _
        have f92 := i32_b (r_7)
        have f93 : (10 : Int32).toInt = 10 := by decide
        have g94 := tI_ne h85
        unfold B_X9_behindGap_35
        unfold B_X9_behindGap_93
        have f95 : (1 : Int32).toInt = 1 := by decide
        have f96 := tI_ad (l3_1) (1)
        have f97 := i32_b (l3_1 + 1)
        exact ih_1 ((2147483648 - (l3_1 + 1).toInt).toNat) ((1 : Int32), l3_1 + 1, u) (by omega) ⟨rfl, rfl⟩
set_option maxHeartbeats 4000000 in
theorem v_X9_put {N : Nat} {u : CSt} (hN : 5000000000 ≤ N) (U_u : UC u) {l1 : Int32} {l2 : Int64} {l4 : Int32} : wq (F_X9_put N l1 l2 l4 u) (VP [203] (fun (r : Int32) (w : CSt) => True) u) := by
  have H_u : FR [203] u u := FR.rf
  unfold F_X9_put
  unfold B_X9_put_0
  have f1 : (0 : Int) ≤ (cI u 4).toInt ∧ (cI u 4).toInt ≤ (1500 : Int) := U_u.i  4
  have x2 : vp_in (cI u 4) 1501 := vin_iff.mpr ⟨by omega, by omega⟩
  refine wq_wc.mpr ⟨x2, ?_⟩
  have U_u_2 : UC (xA u 203 ((cI u 4).toNatClampNeg) l1) := U_u.xA
  have H_u_2 : FR [203] u (xA u 203 ((cI u 4).toNatClampNeg) l1) := H_u.xA (by exact Or.inr (by decide))
  generalize e_u_2 : xA u 203 ((cI u 4).toNatClampNeg) l1 = u_2 at U_u_2 H_u_2 ⊢
  have f3 : (0 : Int) ≤ (cI u_2 4).toInt ∧ (cI u_2 4).toInt ≤ (1500 : Int) := U_u_2.i  4
  have f4 : (cI u_2 4).toInt = (cI u 4).toInt := by rw [← e_u_2]; rfl
  have x5 : vp_in (cI u_2 4) 1501 := vin_iff.mpr ⟨by omega, by omega⟩
  refine wq_wc.mpr ⟨x5, ?_⟩
  have U_u_4 : UC (xB u_2 205 ((cI u_2 4).toNatClampNeg) l2) := U_u_2.xB
  have H_u_4 : FR [203] u (xB u_2 205 ((cI u_2 4).toNatClampNeg) l2) := H_u_2.of rfl rfl
  generalize e_u_4 : xB u_2 205 ((cI u_2 4).toNatClampNeg) l2 = u_4 at U_u_4 H_u_4 ⊢
  have f6 : (0 : Int) ≤ (cI u_4 4).toInt ∧ (cI u_4 4).toInt ≤ (1500 : Int) := U_u_4.i  4
  have f7 : (cI u_4 4).toInt = (cI u_2 4).toInt := by rw [← e_u_4]; rfl
  have x8 : vp_in (cI u_4 4) 1501 := vin_iff.mpr ⟨by omega, by omega⟩
  refine wq_wc.mpr ⟨x8, ?_⟩
  have U_u_6 : UC (xA u_4 206 ((cI u_4 4).toNatClampNeg) l4) := U_u_4.xA
  have H_u_6 : FR [203] u (xA u_4 206 ((cI u_4 4).toNatClampNeg) l4) := H_u_4.xA (by exact Or.inl (by decide))
  generalize e_u_6 : xA u_4 206 ((cI u_4 4).toNatClampNeg) l4 = u_6 at U_u_6 H_u_6 ⊢
  exact wq_some.mpr ⟨U_u_6, H_u_6, trivial⟩
set_option maxHeartbeats 4000000 in
theorem v_X9_closeWith {N : Nat} {u : CSt} (hN : 5000000000 ≤ N) (U_u : UC u) {l1 : Int32} {l2 : Int32} : wq (F_X9_closeWith N l1 l2 u) (VP [203] (fun (r : Int32) (w : CSt) => cA w 203 (cI w 4).toNatClampNeg = l1) u) := by
  have f7 : (0 : Int) ≤ (cI u 4).toInt ∧ (cI u 4).toInt ≤ (1500 : Int) := U_u.i 4
  have x8 : vp_in (cI u 4) 1501 := vin_iff.mpr ⟨by omega, by omega⟩
  unfold F_X9_closeWith B_X9_closeWith_0 F_X9_put B_X9_put_0
  rw [wq_bc]
  refine wq_wc.mpr ⟨x8, wq_wc.mpr ⟨x8, wq_wc.mpr ⟨x8, wq_some.mpr (wq_wc.mpr ⟨x8, wq_some.mpr ?_⟩)⟩⟩⟩
  refine ⟨UC.xA (UC.xA (UC.xB (UC.xA U_u))), FR.xA (FR.xA (FR.of (FR.xA FR.rf (Or.inr (by decide))) rfl rfl) (Or.inl (by decide))) (Or.inl (by decide)), ?_⟩
  show upd (cA u 203) (cI u 4).toNatClampNeg l1 (cI u 4).toNatClampNeg = l1
  unfold upd
  rw [if_pos rfl]
set_option maxHeartbeats 4000000 in
theorem v_X9_isWord {N : Nat} {u : CSt} (hN : 5000000000 ≤ N) (U_u : UC u) {l1 : Int32} (h_0 : 0 ≤ l1.toInt ∧ l1.toInt ≤ 6000) : wq (F_X9_isWord N l1 u) (VP [3] (fun (r : Int32) (w : CSt) => r.toInt = 0 ∨ r.toInt = 1) u) := by
  have H_u : FR [3] u u := FR.rf
  unfold F_X9_isWord
  unfold B_X9_isWord_0
  refine wq_pc.mpr ?_
  have f1 := i32_b (l1)
  have U_u_8 : UC (xI u 3 l1) := U_u.xI (k := 3) (show (0 : Int) ≤ (l1).toInt by omega) (show (l1).toInt ≤ (6000 : Int) by omega)
  have H_u_8 : FR [3] u (xI u 3 l1) := H_u.xI (by decide)
  generalize e_u_8 : xI u 3 l1 = u_8 at U_u_8 H_u_8 ⊢
  refine wq_if.mpr ⟨fun h2 => ?_, fun h2 => ?_⟩
  · show wq _ _
    have f3 : (1 : Int32).toInt = 1 := by decide
    have g4 := Int32.lt_iff_toInt_lt.mp h2
    have f5 : (0 : Int32).toInt = 0 := by decide
    exact wq_some.mpr ⟨U_u_8, H_u_8, (show ((0 : Int32)).toInt = 0 ∨ ((0 : Int32)).toInt = 1 by omega)⟩
  · show wq _ _
    have f6 : (1 : Int32).toInt = 1 := by decide
    have g7 := Int32.le_iff_toInt_le.mp (Int32.not_lt.mp h2)
    refine wq_if.mpr ⟨fun h8 => ?_, fun h8 => ?_⟩
    · show wq _ _
      have f9 : (12 : Int32).toInt = 12 := by decide
      have g10 := Int32.le_iff_toInt_le.mp h8
      have f12 : (0 : Int32).toInt = 0 := by decide
      unfold LP_X9_isWord_20
      refine wq_lp (fun (d : Nat) (a : Int32 × Int32 × CSt) => UC a.2.2 ∧ FR [3] u a.2.2 ∧ a.1 = l1 ∧ 0 ≤ a.2.1.toInt ∧ d = (2147483648 - a.2.1.toInt).toNat) ?_ _ ((2147483648 - ((0 : Int32)).toInt).toNat) _ (by omega) ⟨U_u_8, H_u_8, rfl, (show 0 ≤ ((0 : Int32)).toInt by omega), rfl⟩
      rintro d_11 R_11 ⟨l1_11, l2_11, u_11⟩ ⟨U_11, H_11, k_11_0, i_11_0, m_11⟩ ih_11
      have k_11_0 : l1 = l1_11 := Eq.symm k_11_0
      subst k_11_0
      have i_11_0 : 0 ≤ l2_11.toInt := i_11_0
      have m_11 : d_11 = (2147483648 - l2_11.toInt).toNat := m_11
      have U_11 : UC u_11 := U_11
      have H_11 : FR [3] u u_11 := H_11
      show wq (B_X9_isWord_20 N R_11 (l1) (l2_11) u_11) _
      unfold B_X9_isWord_20
      refine wq_if.mpr ⟨fun h13 => ?_, fun h13 => ?_⟩
      · show wq _ _
        have f14 := i32_b (l1)
        have f15 := i32_b (l2_11)
        have g16 := Int32.le_iff_toInt_le.mp h13
        have f17 : (1 : Int32).toInt = 1 := by decide
        exact wq_some.mpr ⟨U_11, H_11, (show ((1 : Int32)).toInt = 0 ∨ ((1 : Int32)).toInt = 1 by omega)⟩
      · show wq _ _
        have f18 := i32_b (l1)
        have f19 := i32_b (l2_11)
        have g20 := Int32.lt_iff_toInt_lt.mp (Int32.not_le.mp h13)
        refine wq_bcR (v_X9_byteAt hN U_11 ) (fun r_3 p21 => ?_)
        have f22 := i32_b (r_3)
        refine wq_pbU (v_X9_isWordByte hN ) (fun r_4 p23 => ?_)
        refine wq_if.mpr ⟨fun h24 => ?_, fun h24 => ?_⟩
        · show wq _ _
          have f25 := i32_b (r_4)
          have f26 : (0 : Int32).toInt = 0 := by decide
          have g27 := tI_eq.mp h24
          exact wq_some.mpr ⟨U_11, H_11, (show ((0 : Int32)).toInt = 0 ∨ ((0 : Int32)).toInt = 1 by omega)⟩
        · show wq _ _
          have f28 := i32_b (r_4)
          have f29 : (0 : Int32).toInt = 0 := by decide
          have g30 := tI_ne h24
          have f31 : (1 : Int32).toInt = 1 := by decide
          have f32 := tI_ad (l2_11) (1)
          have f33 := i32_b (l2_11 + 1)
          exact ih_11 ((2147483648 - (l2_11 + 1).toInt).toNat) (l1, l2_11 + 1, u_11) (by omega) ⟨U_11, H_11, rfl, (show 0 ≤ (l2_11 + 1).toInt by omega), rfl⟩
    · show wq _ _
      have f34 : (12 : Int32).toInt = 12 := by decide
      have g35 := Int32.lt_iff_toInt_lt.mp (Int32.not_le.mp h8)
      have f36 : (0 : Int32).toInt = 0 := by decide
      exact wq_some.mpr ⟨U_u_8, H_u_8, (show ((0 : Int32)).toInt = 0 ∨ ((0 : Int32)).toInt = 1 by omega)⟩
set_option maxHeartbeats 4000000 in
theorem v_X9_wordHead {N : Nat} {u : CSt} (hN : 5000000000 ≤ N) (U_u : UC u) {l1 : Int32} {l2 : Int32} : wq (F_X9_wordHead N l1 l2 u) (VR (fun (r : Int64) => True) u) := by
  have H_u : FR [] u u := FR.rf
  unfold F_X9_wordHead
  unfold B_X9_wordHead_0
  have f2 := i32_b (l1)
  have f3 := i32_b (l2)
  have f4 : (0 : Int32).toInt = 0 := by decide
  unfold LP_X9_wordHead_5
  refine wq_lp (fun (d : Nat) (a : Int32 × Int32 × Int64 × Int32 × CSt) => a.2.2.2.2 = u ∧ a.1 = l1 ∧ a.2.1 = l2 ∧ d = (2147483648 - a.2.2.2.1.toInt).toNat) ?_ _ ((2147483648 - (l1).toInt).toNat) _ (by omega) ⟨rfl, rfl, rfl, rfl⟩
  rintro d_1 R_1 ⟨l1_1, l2_1, l3_1, l5_1, u_1⟩ ⟨e_1, k_1_0, k_1_1, m_1⟩ ih_1
  have e_1 : u = u_1 := Eq.symm e_1
  subst e_1
  have k_1_0 : l1 = l1_1 := Eq.symm k_1_0
  subst k_1_0
  have k_1_1 : l2 = l2_1 := Eq.symm k_1_1
  subst k_1_1
  have m_1 : d_1 = (2147483648 - l5_1.toInt).toNat := m_1
  show wq (B_X9_wordHead_5 N R_1 (l1) (l2) (l3_1) (l5_1) u) _
  unfold B_X9_wordHead_5
  refine wq_if.mpr ⟨fun h5 => ?_, fun h5 => ?_⟩
  · show wq _ _
    have f6 := i32_b (l5_1)
    have g7 := Int32.le_iff_toInt_le.mp h5
    exact wq_some.mpr ⟨rfl, trivial⟩
  · show wq _ _
    have f8 := i32_b (l5_1)
    have g9 := Int32.lt_iff_toInt_lt.mp (Int32.not_le.mp h5)
    refine wq_if.mpr ⟨fun h10 => ?_, fun h10 => ?_⟩
    · show wq _ _
      have f11 : (8 : Int32).toInt = 8 := by decide
      have f12 := tI_ad (l1) (8)
      have f13 := i32_b (l1 + 8)
      have g14 := Int32.le_iff_toInt_le.mp h10
      exact wq_some.mpr ⟨rfl, trivial⟩
    · show wq _ _
      have f15 : (8 : Int32).toInt = 8 := by decide
      have f16 := tI_ad (l1) (8)
      have f17 := i32_b (l1 + 8)
      have g18 := Int32.lt_iff_toInt_lt.mp (Int32.not_le.mp h10)
      refine wq_bcR (v_X9_byteAt hN U_u ) (fun r_4 p19 => ?_)
      have f20 : (1 : Int32).toInt = 1 := by decide
      have f21 := tI_ad (l5_1) (1)
      have f22 := i32_b (l5_1 + 1)
      exact ih_1 ((2147483648 - (l5_1 + 1).toInt).toNat) (l1, l2, (l3_1 <<< (((8 : Int32).toInt64) &&& 63)) ||| r_4.toInt64, l5_1 + 1, u) (by omega) ⟨rfl, rfl, rfl, rfl⟩
set_option maxHeartbeats 4000000 in
theorem v_X9_wordTail {N : Nat} {u : CSt} (hN : 5000000000 ≤ N) (U_u : UC u) {l1 : Int32} {l2 : Int32} : wq (F_X9_wordTail N l1 l2 u) (VR (fun (r : Int32) => True) u) := by
  have H_u : FR [] u u := FR.rf
  unfold F_X9_wordTail
  unfold B_X9_wordTail_0
  have f2 := i32_b (l2)
  have f3 : (0 : Int32).toInt = 0 := by decide
  have f4 := i32_b (l1)
  have f5 : (8 : Int32).toInt = 8 := by decide
  have f6 := tI_ad (l1) (8)
  have f7 := i32_b (l1 + 8)
  unfold LP_X9_wordTail_8
  refine wq_lp (fun (d : Nat) (a : Int32 × Int32 × Int32 × CSt) => a.2.2.2 = u ∧ a.1 = l2 ∧ d = (2147483648 - a.2.2.1.toInt).toNat) ?_ _ ((2147483648 - (l1 + 8).toInt).toNat) _ (by omega) ⟨rfl, rfl, rfl⟩
  rintro d_1 R_1 ⟨l2_1, l3_1, l4_1, u_1⟩ ⟨e_1, k_1_0, m_1⟩ ih_1
  have e_1 : u = u_1 := Eq.symm e_1
  subst e_1
  have k_1_0 : l2 = l2_1 := Eq.symm k_1_0
  subst k_1_0
  have m_1 : d_1 = (2147483648 - l4_1.toInt).toNat := m_1
  show wq (B_X9_wordTail_8 N R_1 (l2) (l3_1) (l4_1) u) _
  unfold B_X9_wordTail_8
  refine wq_if.mpr ⟨fun h8 => ?_, fun h8 => ?_⟩
  · show wq _ _
    have f9 := i32_b (l4_1)
    have g10 := Int32.le_iff_toInt_le.mp h8
    exact wq_some.mpr ⟨rfl, trivial⟩
  · show wq _ _
    have f11 := i32_b (l4_1)
    have g12 := Int32.lt_iff_toInt_lt.mp (Int32.not_le.mp h8)
    refine wq_bcR (v_X9_byteAt hN U_u ) (fun r_3 p13 => ?_)
    have f14 := i32_b (l3_1)
    have f15 : (31 : Int32).toInt = 31 := by decide
    have f16 := i32_b (8 &&& 31)
    have f17 := i32_b (l3_1 <<< (8 &&& 31))
    have f18 := i32_b (r_3)
    have f19 := i32_b ((l3_1 <<< (8 &&& 31)) ||| r_3)
    have f20 : (1 : Int32).toInt = 1 := by decide
    have f21 := tI_ad (l4_1) (1)
    have f22 := i32_b (l4_1 + 1)
    exact ih_1 ((2147483648 - (l4_1 + 1).toInt).toNat) (l2, (l3_1 <<< (8 &&& 31)) ||| r_3, l4_1 + 1, u) (by omega) ⟨rfl, rfl, rfl⟩
set_option maxHeartbeats 4000000 in
theorem v_X9_wordType {N : Nat} {u : CSt} (hN : 5000000000 ≤ N) (U_u : UC u) {l1 : Int64} : wq (F_X9_wordType N l1 u) (VR (fun (r : Int32) => True) u) := by
  have H_u : FR [] u u := FR.rf
  unfold F_X9_wordType
  unfold B_X9_wordType_0
  have f2 : (1 : Int32).toInt = 1 := by decide
  unfold LP_X9_wordType_2
  refine wq_lp (fun (d : Nat) (a : Int64 × Int32 × CSt) => a.2.2 = u ∧ a.1 = l1 ∧ 0 ≤ a.2.1.toInt ∧ d = (2147483648 - a.2.1.toInt).toNat) ?_ _ ((2147483648 - ((1 : Int32)).toInt).toNat) _ (by omega) ⟨rfl, rfl, (show 0 ≤ ((1 : Int32)).toInt by omega), rfl⟩
  rintro d_1 R_1 ⟨l1_1, l3_1, u_1⟩ ⟨e_1, k_1_0, i_1_0, m_1⟩ ih_1
  have e_1 : u = u_1 := Eq.symm e_1
  subst e_1
  have k_1_0 : l1 = l1_1 := Eq.symm k_1_0
  subst k_1_0
  have i_1_0 : 0 ≤ l3_1.toInt := i_1_0
  have m_1 : d_1 = (2147483648 - l3_1.toInt).toNat := m_1
  show wq (B_X9_wordType_2 N R_1 (l1) (l3_1) u) _
  unfold B_X9_wordType_2
  refine wq_if.mpr ⟨fun h3 => ?_, fun h3 => ?_⟩
  · show wq _ _
    have f4 : (29 : Int32).toInt = 29 := by decide
    have f5 := i32_b (l3_1)
    have g6 := Int32.lt_iff_toInt_lt.mp h3
    exact wq_some.mpr ⟨rfl, trivial⟩
  · show wq _ _
    have f7 : (29 : Int32).toInt = 29 := by decide
    have f8 := i32_b (l3_1)
    have g9 := Int32.le_iff_toInt_le.mp (Int32.not_lt.mp h3)
    have x10 : vp_in (l3_1) 30 := vin_iff.mpr ⟨by omega, by omega⟩
    refine wq_rdU x10 (fun v_3 e_v_3 => ?_)
    refine wq_if.mpr ⟨fun h11 => ?_, fun h11 => ?_⟩
    · show wq _ _
      exact wq_some.mpr ⟨rfl, trivial⟩
    · show wq _ _
      have f12 := tI_ad (l3_1) (1)
      have f13 := i32_b (l3_1 + 1)
      exact ih_1 ((2147483648 - (l3_1 + 1).toInt).toNat) (l1, l3_1 + 1, u) (by omega) ⟨rfl, rfl, (show 0 ≤ (l3_1 + 1).toInt by omega), rfl⟩
set_option maxHeartbeats 4000000 in
theorem v_X9_readWord {N : Nat} {u : CSt} (hN : 5000000000 ≤ N) (U_u : UC u) {l1 : Int32} : wq (F_X9_readWord N l1 u) (VP [203] (fun (r : Int32) (w : CSt) => True) u) := by
  have H_u : FR [203] u u := FR.rf
  unfold F_X9_readWord
  unfold B_X9_readWord_0
  have f2 := i32_b (l1)
  unfold LP_X9_readWord_2
  refine wq_lp (fun (d : Nat) (a : Int32 × Int32 × CSt) => UC a.2.2 ∧ FR [203] u a.2.2 ∧ a.1 = l1 ∧ d = (2147483648 - a.2.1.toInt).toNat) ?_ _ ((2147483648 - (l1).toInt).toNat) _ (by omega) ⟨U_u, H_u, rfl, rfl⟩
  rintro d_1 R_1 ⟨l1_1, l2_1, u_1⟩ ⟨U_1, H_1, k_1_0, m_1⟩ ih_1
  have k_1_0 : l1 = l1_1 := Eq.symm k_1_0
  subst k_1_0
  have m_1 : d_1 = (2147483648 - l2_1.toInt).toNat := m_1
  have U_1 : UC u_1 := U_1
  have H_1 : FR [203] u u_1 := H_1
  show wq (B_X9_readWord_2 N R_1 (l1) (l2_1) u_1) _
  unfold B_X9_readWord_2
  refine wq_if.mpr ⟨fun h3 => ?_, fun h3 => ?_⟩
  · show wq _ _
    have f4 : (0 : Int) ≤ (cI u_1 3).toInt ∧ (cI u_1 3).toInt ≤ (6000 : Int) := U_1.i  3
    have f5 := i32_b (l2_1)
    have g6 := Int32.le_iff_toInt_le.mp h3
    unfold B_X9_readWord_27
    refine wq_if.mpr ⟨fun h7 => ?_, fun h7 => ?_⟩
    · show wq _ _
      have f8 := i32_b (l1)
      have f9 := tI_sb (l2_1) (l1)
      have f10 := i32_b (l2_1 - l1)
      have f11 : (12 : Int32).toInt = 12 := by decide
      have g12 := Int32.le_iff_toInt_le.mp h7
      refine wq_bcR (v_X9_wordHead hN U_1 ) (fun r_4 p13 => ?_)
      refine wq_bcR (v_X9_wordTail hN U_1 ) (fun r_6 p14 => ?_)
      refine wq_if.mpr ⟨fun h15 => ?_, fun h15 => ?_⟩
      · show wq _ _
        have f16 := i32_b (r_6)
        have f17 : (0 : Int32).toInt = 0 := by decide
        have g18 := tI_eq.mp h15
        refine wq_bcR (v_X9_wordType hN U_1 ) (fun r_9 p19 => ?_)
        unfold B_X9_readWord_69
        have f20 := i32_b (r_9)
        refine wq_bcV (v_X9_put hN U_1 ) (fun r21 u_1 U_u_1 G_u_1 p22 => ?_)
        have H_u_1 := H_1.call G_u_1 (show ∀ k ∈ [203], k ∈ [203] by decide)
        exact wq_some.mpr ⟨U_u_1, H_u_1, trivial⟩
      · show wq _ _
        have f23 := i32_b (r_6)
        have f24 : (0 : Int32).toInt = 0 := by decide
        have g25 := tI_ne h15
        unfold B_X9_readWord_69
        have f26 : (128 : Int32).toInt = 128 := by decide
        refine wq_bcV (v_X9_put hN U_1 ) (fun r27 u_1 U_u_1 G_u_1 p28 => ?_)
        have H_u_1 := H_1.call G_u_1 (show ∀ k ∈ [203], k ∈ [203] by decide)
        exact wq_some.mpr ⟨U_u_1, H_u_1, trivial⟩
    · show wq _ _
      have f29 := i32_b (l1)
      have f30 := tI_sb (l2_1) (l1)
      have f31 := i32_b (l2_1 - l1)
      have f32 : (12 : Int32).toInt = 12 := by decide
      have g33 := Int32.lt_iff_toInt_lt.mp (Int32.not_le.mp h7)
      exact wq_some.mpr ⟨U_1, H_1, trivial⟩
  · show wq _ _
    have f34 : (0 : Int) ≤ (cI u_1 3).toInt ∧ (cI u_1 3).toInt ≤ (6000 : Int) := U_1.i  3
    have f35 := i32_b (l2_1)
    have g36 := Int32.lt_iff_toInt_lt.mp (Int32.not_le.mp h3)
    refine wq_bcR (v_X9_byteAt hN U_1 ) (fun r_12 p37 => ?_)
    have f38 := i32_b (r_12)
    refine wq_pbU (v_X9_isWordByte hN ) (fun r_13 p39 => ?_)
    refine wq_if.mpr ⟨fun h40 => ?_, fun h40 => ?_⟩
    · show wq _ _
      have f41 := i32_b (r_13)
      have f42 : (0 : Int32).toInt = 0 := by decide
      have g43 := tI_eq.mp h40
      unfold B_X9_readWord_27
      refine wq_if.mpr ⟨fun h44 => ?_, fun h44 => ?_⟩
      · show wq _ _
        have f45 := i32_b (l1)
        have f46 := tI_sb (l2_1) (l1)
        have f47 := i32_b (l2_1 - l1)
        have f48 : (12 : Int32).toInt = 12 := by decide
        have g49 := Int32.le_iff_toInt_le.mp h44
        refine wq_bcR (v_X9_wordHead hN U_1 ) (fun r_4 p50 => ?_)
        refine wq_bcR (v_X9_wordTail hN U_1 ) (fun r_6 p51 => ?_)
        refine wq_if.mpr ⟨fun h52 => ?_, fun h52 => ?_⟩
        · show wq _ _
          have f53 := i32_b (r_6)
          have g54 := tI_eq.mp h52
          refine wq_bcR (v_X9_wordType hN U_1 ) (fun r_9 p55 => ?_)
          unfold B_X9_readWord_69
          have f56 := i32_b (r_9)
          refine wq_bcV (v_X9_put hN U_1 ) (fun r57 u_1 U_u_1 G_u_1 p58 => ?_)
          have H_u_1 := H_1.call G_u_1 (show ∀ k ∈ [203], k ∈ [203] by decide)
          exact wq_some.mpr ⟨U_u_1, H_u_1, trivial⟩
        · show wq _ _
          have f59 := i32_b (r_6)
          have g60 := tI_ne h52
          unfold B_X9_readWord_69
          have f61 : (128 : Int32).toInt = 128 := by decide
          refine wq_bcV (v_X9_put hN U_1 ) (fun r62 u_1 U_u_1 G_u_1 p63 => ?_)
          have H_u_1 := H_1.call G_u_1 (show ∀ k ∈ [203], k ∈ [203] by decide)
          exact wq_some.mpr ⟨U_u_1, H_u_1, trivial⟩
      · show wq _ _
        have f64 := i32_b (l1)
        have f65 := tI_sb (l2_1) (l1)
        have f66 := i32_b (l2_1 - l1)
        have f67 : (12 : Int32).toInt = 12 := by decide
        have g68 := Int32.lt_iff_toInt_lt.mp (Int32.not_le.mp h44)
        exact wq_some.mpr ⟨U_1, H_1, trivial⟩
    · show wq _ _
      have f69 := i32_b (r_13)
      have f70 : (0 : Int32).toInt = 0 := by decide
      have g71 := tI_ne h40
      have f72 : (1 : Int32).toInt = 1 := by decide
      have f73 := tI_ad (l2_1) (1)
      have f74 := i32_b (l2_1 + 1)
      exact ih_1 ((2147483648 - (l2_1 + 1).toInt).toNat) (l1, l2_1 + 1, u_1) (by omega) ⟨U_1, H_1, rfl, rfl⟩
set_option maxHeartbeats 4000000 in
theorem v_X9_hexBits {N : Nat} {u : CSt} (hN : 5000000000 ≤ N) (U_u : UC u) {l1 : Int32} {l2 : Int32} : wq (F_X9_hexBits N l1 l2 u) (VR (fun (r : Int64) => True) u) := by
  have H_u : FR [] u u := FR.rf
  unfold F_X9_hexBits
  unfold B_X9_hexBits_0
  have f2 := i32_b (l2)
  have f3 : (0 : Int32).toInt = 0 := by decide
  have f4 := i32_b (l1)
  unfold LP_X9_hexBits_5
  refine wq_lp (fun (d : Nat) (a : Int32 × Int64 × Int32 × CSt) => a.2.2.2 = u ∧ a.1 = l2 ∧ d = (2147483648 - a.2.2.1.toInt).toNat) ?_ _ ((2147483648 - (l1).toInt).toNat) _ (by omega) ⟨rfl, rfl, rfl⟩
  rintro d_1 R_1 ⟨l2_1, l3_1, l5_1, u_1⟩ ⟨e_1, k_1_0, m_1⟩ ih_1
  have e_1 : u = u_1 := Eq.symm e_1
  subst e_1
  have k_1_0 : l2 = l2_1 := Eq.symm k_1_0
  subst k_1_0
  have m_1 : d_1 = (2147483648 - l5_1.toInt).toNat := m_1
  show wq (B_X9_hexBits_5 N R_1 (l2) (l3_1) (l5_1) u) _
  unfold B_X9_hexBits_5
  refine wq_if.mpr ⟨fun h5 => ?_, fun h5 => ?_⟩
  · show wq _ _
    have f6 := i32_b (l5_1)
    have g7 := Int32.le_iff_toInt_le.mp h5
    exact wq_some.mpr ⟨rfl, trivial⟩
  · show wq _ _
    have f8 := i32_b (l5_1)
    have g9 := Int32.lt_iff_toInt_lt.mp (Int32.not_le.mp h5)
    refine wq_bcR (v_X9_byteAt hN U_u ) (fun r_3 p10 => ?_)
    have f11 := i32_b (r_3)
    have f12 : (1 : Int32).toInt = 1 := by decide
    refine wq_pbU (v_X9_digit hN ) (fun r_4 p13 => ?_)
    have f14 := tI_ad (l5_1) (1)
    have f15 := i32_b (l5_1 + 1)
    exact ih_1 ((2147483648 - (l5_1 + 1).toInt).toNat) (l2, (l3_1 <<< (((4 : Int32).toInt64) &&& 63)) ||| r_4.toInt64, l5_1 + 1, u) (by omega) ⟨rfl, rfl, rfl⟩
set_option maxHeartbeats 4000000 in
theorem v_X9_decimal {N : Nat} {u : CSt} (hN : 5000000000 ≤ N) (U_u : UC u) {l1 : Int32} {l2 : Int32} : wq (F_X9_decimal N l1 l2 u) (VR (fun (r : Int64) => True) u) := by
  have H_u : FR [] u u := FR.rf
  unfold F_X9_decimal
  unfold B_X9_decimal_0
  have f2 := i32_b (l2)
  have f3 : (0 : Int32).toInt = 0 := by decide
  have f4 := i32_b (l1)
  unfold LP_X9_decimal_5
  refine wq_lp (fun (d : Nat) (a : Int32 × Int64 × Int32 × CSt) => a.2.2.2 = u ∧ a.1 = l2 ∧ d = (2147483648 - a.2.2.1.toInt).toNat) ?_ _ ((2147483648 - (l1).toInt).toNat) _ (by omega) ⟨rfl, rfl, rfl⟩
  rintro d_1 R_1 ⟨l2_1, l3_1, l5_1, u_1⟩ ⟨e_1, k_1_0, m_1⟩ ih_1
  have e_1 : u = u_1 := Eq.symm e_1
  subst e_1
  have k_1_0 : l2 = l2_1 := Eq.symm k_1_0
  subst k_1_0
  have m_1 : d_1 = (2147483648 - l5_1.toInt).toNat := m_1
  show wq (B_X9_decimal_5 N R_1 (l2) (l3_1) (l5_1) u) _
  unfold B_X9_decimal_5
  refine wq_if.mpr ⟨fun h5 => ?_, fun h5 => ?_⟩
  · show wq _ _
    have f6 := i32_b (l5_1)
    have g7 := Int32.le_iff_toInt_le.mp h5
    exact wq_some.mpr ⟨rfl, trivial⟩
  · show wq _ _
    have f8 := i32_b (l5_1)
    have g9 := Int32.lt_iff_toInt_lt.mp (Int32.not_le.mp h5)
    refine wq_bcR (v_X9_byteAt hN U_u ) (fun r_3 p10 => ?_)
    have f11 := i32_b (r_3)
    refine wq_pbU (v_X9_digit hN ) (fun r_4 p12 => ?_)
    have f13 : (1 : Int32).toInt = 1 := by decide
    have f14 := tI_ad (l5_1) (1)
    have f15 := i32_b (l5_1 + 1)
    exact ih_1 ((2147483648 - (l5_1 + 1).toInt).toNat) (l2, (10 * l3_1) + r_4.toInt64, l5_1 + 1, u) (by omega) ⟨rfl, rfl, rfl⟩
set_option maxHeartbeats 4000000 in
theorem vb_X9_readNumber_178 {N : Nat} {u0 u : CSt} (hN : 5000000000 ≤ N) (U_u : UC u) (H_u : FR [203] u0 u) {l2 : Int32} {l3 : Int32} {l4 : Int32} {l5 : Int32} {l6 : Int32} {s0 : Int32} : wq (B_X9_readNumber_178 N l2 l3 l4 l5 l6 s0 u) (VP [203] (fun (r : Int32) (w : CSt) => True) u0) := by
  unfold B_X9_readNumber_178
  refine wq_if.mpr ⟨fun h1 => ?_, fun h1 => ?_⟩
  · show wq _ _
    have f2 := i32_b (l2)
    have f3 : (0 : Int32).toInt = 0 := by decide
    have g4 := tI_eq.mp h1
    have f5 := i32_b (l3)
    have f6 := i32_b (l4)
    refine wq_bcR (v_X9_decimal hN U_u ) (fun r_6 p7 => ?_)
    refine wq_if.mpr ⟨fun h8 => ?_, fun h8 => ?_⟩
    · show wq _ _
      unfold B_X9_readNumber_249
      unfold B_X9_readNumber_254
      refine wq_if.mpr ⟨fun h9 => ?_, fun h9 => ?_⟩
      · show wq _ _
        have f10 : (1 : Int32).toInt = 1 := by decide
        have g11 := tI_eq.mp h9
        unfold B_X9_readNumber_276
        have f12 : (129 : Int32).toInt = 129 := by decide
        have f13 := i32_b (s0)
        refine wq_bcV (v_X9_put hN U_u ) (fun r14 u_2 U_u_2 G_u_2 p15 => ?_)
        have H_u_2 := H_u.call G_u_2 (show ∀ k ∈ [203], k ∈ [203] by decide)
        exact wq_some.mpr ⟨U_u_2, H_u_2, trivial⟩
      · show wq _ _
        have f16 : (1 : Int32).toInt = 1 := by decide
        have g17 := tI_ne h9
        unfold B_X9_readNumber_276
        have f18 : (129 : Int32).toInt = 129 := by decide
        have f19 := i32_b (s0)
        have f20 : (2 : Int32).toInt = 2 := by decide
        have f21 := i32_b (s0 ||| 2)
        refine wq_bcV (v_X9_put hN U_u ) (fun r22 u_2 U_u_2 G_u_2 p23 => ?_)
        have H_u_2 := H_u.call G_u_2 (show ∀ k ∈ [203], k ∈ [203] by decide)
        exact wq_some.mpr ⟨U_u_2, H_u_2, trivial⟩
    · show wq _ _
      refine wq_if.mpr ⟨fun h24 => ?_, fun h24 => ?_⟩
      · show wq _ _
        have f25 := i32_b (l5)
        have g26 := tI_eq.mp h24
        refine wq_if.mpr ⟨fun h27 => ?_, fun h27 => ?_⟩
        · show wq _ _
          unfold B_X9_readNumber_253
          unfold B_X9_readNumber_254
          refine wq_if.mpr ⟨fun h28 => ?_, fun h28 => ?_⟩
          · show wq _ _
            have g29 := tI_eq.mp h28
            unfold B_X9_readNumber_276
            have f30 : (129 : Int32).toInt = 129 := by decide
            have f31 := i32_b (s0)
            refine wq_bcV (v_X9_put hN U_u ) (fun r32 u_2 U_u_2 G_u_2 p33 => ?_)
            have H_u_2 := H_u.call G_u_2 (show ∀ k ∈ [203], k ∈ [203] by decide)
            exact wq_some.mpr ⟨U_u_2, H_u_2, trivial⟩
          · show wq _ _
            have g34 := tI_ne h28
            unfold B_X9_readNumber_276
            have f35 : (129 : Int32).toInt = 129 := by decide
            have f36 := i32_b (s0)
            have f37 : (2 : Int32).toInt = 2 := by decide
            have f38 := i32_b (s0 ||| 2)
            refine wq_bcV (v_X9_put hN U_u ) (fun r39 u_2 U_u_2 G_u_2 p40 => ?_)
            have H_u_2 := H_u.call G_u_2 (show ∀ k ∈ [203], k ∈ [203] by decide)
            exact wq_some.mpr ⟨U_u_2, H_u_2, trivial⟩
        · show wq _ _
          unfold B_X9_readNumber_249
          unfold B_X9_readNumber_254
          refine wq_if.mpr ⟨fun h41 => ?_, fun h41 => ?_⟩
          · show wq _ _
            have f42 : (1 : Int32).toInt = 1 := by decide
            have g43 := tI_eq.mp h41
            unfold B_X9_readNumber_276
            have f44 : (129 : Int32).toInt = 129 := by decide
            have f45 := i32_b (s0)
            refine wq_bcV (v_X9_put hN U_u ) (fun r46 u_2 U_u_2 G_u_2 p47 => ?_)
            have H_u_2 := H_u.call G_u_2 (show ∀ k ∈ [203], k ∈ [203] by decide)
            exact wq_some.mpr ⟨U_u_2, H_u_2, trivial⟩
          · show wq _ _
            have f48 : (1 : Int32).toInt = 1 := by decide
            have g49 := tI_ne h41
            unfold B_X9_readNumber_276
            have f50 : (129 : Int32).toInt = 129 := by decide
            have f51 := i32_b (s0)
            have f52 : (2 : Int32).toInt = 2 := by decide
            have f53 := i32_b (s0 ||| 2)
            refine wq_bcV (v_X9_put hN U_u ) (fun r54 u_2 U_u_2 G_u_2 p55 => ?_)
            have H_u_2 := H_u.call G_u_2 (show ∀ k ∈ [203], k ∈ [203] by decide)
            exact wq_some.mpr ⟨U_u_2, H_u_2, trivial⟩
      · show wq _ _
        have f56 := i32_b (l5)
        have g57 := tI_ne h24
        unfold B_X9_readNumber_253
        unfold B_X9_readNumber_254
        refine wq_if.mpr ⟨fun h58 => ?_, fun h58 => ?_⟩
        · show wq _ _
          have g59 := tI_eq.mp h58
          unfold B_X9_readNumber_276
          have f60 : (129 : Int32).toInt = 129 := by decide
          have f61 := i32_b (s0)
          refine wq_bcV (v_X9_put hN U_u ) (fun r62 u_2 U_u_2 G_u_2 p63 => ?_)
          have H_u_2 := H_u.call G_u_2 (show ∀ k ∈ [203], k ∈ [203] by decide)
          exact wq_some.mpr ⟨U_u_2, H_u_2, trivial⟩
        · show wq _ _
          have g64 := tI_ne h58
          unfold B_X9_readNumber_276
          have f65 : (129 : Int32).toInt = 129 := by decide
          have f66 := i32_b (s0)
          have f67 : (2 : Int32).toInt = 2 := by decide
          have f68 := i32_b (s0 ||| 2)
          refine wq_bcV (v_X9_put hN U_u ) (fun r69 u_2 U_u_2 G_u_2 p70 => ?_)
          have H_u_2 := H_u.call G_u_2 (show ∀ k ∈ [203], k ∈ [203] by decide)
          exact wq_some.mpr ⟨U_u_2, H_u_2, trivial⟩
  · show wq _ _
    have f71 := i32_b (l2)
    have f72 : (0 : Int32).toInt = 0 := by decide
    have g73 := tI_ne h1
    have f74 := i32_b (l3)
    have f75 := i32_b (l4)
    refine wq_bcR (v_X9_hexBits hN U_u ) (fun r_11 p76 => ?_)
    refine wq_if.mpr ⟨fun h77 => ?_, fun h77 => ?_⟩
    · show wq _ _
      have f78 := i32_b (l5)
      have g79 := tI_eq.mp h77
      unfold B_X9_readNumber_211
      have f80 : (129 : Int32).toInt = 129 := by decide
      have f81 := i32_b (s0)
      refine wq_bcV (v_X9_put hN U_u ) (fun r82 u_1 U_u_1 G_u_1 p83 => ?_)
      have H_u_1 := H_u.call G_u_1 (show ∀ k ∈ [203], k ∈ [203] by decide)
      exact wq_some.mpr ⟨U_u_1, H_u_1, trivial⟩
    · show wq _ _
      have f84 := i32_b (l5)
      have g85 := tI_ne h77
      unfold B_X9_readNumber_211
      have f86 : (129 : Int32).toInt = 129 := by decide
      have f87 := i32_b (s0)
      refine wq_bcV (v_X9_put hN U_u ) (fun r88 u_1 U_u_1 G_u_1 p89 => ?_)
      have H_u_1 := H_u.call G_u_1 (show ∀ k ∈ [203], k ∈ [203] by decide)
      exact wq_some.mpr ⟨U_u_1, H_u_1, trivial⟩
set_option maxHeartbeats 4000000 in
theorem vb_X9_readNumber_137 {N : Nat} {u0 u : CSt} (hN : 5000000000 ≤ N) (U_u : UC u) (H_u : FR [203] u0 u) {l2 : Int32} {l3 : Int32} {l4 : Int32} {l5 : Int32} {l6 : Int32} {s0 : Int32} : wq (B_X9_readNumber_137 N l2 l3 l4 l5 l6 s0 u) (VP [203] (fun (r : Int32) (w : CSt) => True) u0) := by
  unfold B_X9_readNumber_137
  refine wq_if.mpr ⟨fun h90 => ?_, fun h90 => ?_⟩
  · show wq _ _
    have f91 := i32_b (l4)
    have f92 := i32_b (l3)
    have g93 := tI_eq.mp h90
    exact wq_some.mpr ⟨U_u, H_u, trivial⟩
  · show wq _ _
    have f94 := i32_b (l4)
    have f95 := i32_b (l3)
    have g96 := tI_ne h90
    refine wq_if.mpr ⟨fun h97 => ?_, fun h97 => ?_⟩
    · show wq _ _
      have f98 := i32_b (s0)
      have f99 := tI_sb (l4) (l3)
      have f100 := i32_b (l4 - l3)
      have g101 := Int32.lt_iff_toInt_lt.mp h97
      exact wq_some.mpr ⟨U_u, H_u, trivial⟩
    · show wq _ _
      have f102 := i32_b (s0)
      have f103 := tI_sb (l4) (l3)
      have f104 := i32_b (l4 - l3)
      have g105 := Int32.le_iff_toInt_le.mp (Int32.not_lt.mp h97)
      have f106 := i32_b (l6)
      refine wq_bcR (v_X9_byteAt hN U_u ) (fun r_16 p107 => ?_)
      have f108 := i32_b (r_16)
      refine wq_pbU (v_X9_isWordByte hN ) (fun r_17 p109 => ?_)
      refine wq_if.mpr ⟨fun h110 => ?_, fun h110 => ?_⟩
      · show wq _ _
        have f111 := i32_b (r_17)
        have f112 : (0 : Int32).toInt = 0 := by decide
        have g113 := tI_eq.mp h110
        refine wq_if.mpr ⟨fun h114 => ?_, fun h114 => ?_⟩
        · show wq _ _
          have f115 := i32_b (l5)
          have g116 := tI_eq.mp h114
          exact vb_X9_readNumber_178 hN U_u H_u
        · show wq _ _
          have f117 := i32_b (l5)
          have g118 := tI_ne h114
          exact vb_X9_readNumber_178 hN U_u H_u
      · show wq _ _
        have f119 := i32_b (r_17)
        have f120 : (0 : Int32).toInt = 0 := by decide
        have g121 := tI_ne h110
        exact wq_some.mpr ⟨U_u, H_u, trivial⟩
set_option maxHeartbeats 4000000 in
theorem vb_X9_readNumber_72 {N : Nat} {u0 u : CSt} (hN : 5000000000 ≤ N) (U_u : UC u) (H_u : FR [203] u0 u) {l2 : Int32} {l3 : Int32} {l4 : Int32} : wq (B_X9_readNumber_72 N l2 l3 l4 u) (VP [203] (fun (r : Int32) (w : CSt) => True) u0) := by
  unfold B_X9_readNumber_72
  have f122 := i32_b (l4)
  refine wq_bcR (v_X9_byteAt hN U_u ) (fun r_27 p123 => ?_)
  refine wq_if.mpr ⟨fun h124 => ?_, fun h124 => ?_⟩
  · show wq _ _
    have f125 := i32_b (r_27)
    have f126 : (76 : Int32).toInt = 76 := by decide
    have g127 := tI_eq.mp h124
    unfold B_X9_readNumber_88
    refine wq_if.mpr ⟨fun h128 => ?_, fun h128 => ?_⟩
    · show wq _ _
      have f129 : (1 : Int32).toInt = 1 := by decide
      have f130 : (0 : Int32).toInt = 0 := by decide
      have g131 := tI_eq.mp h128
      unfold B_X9_readNumber_104
      refine wq_if.mpr ⟨fun h132 => ?_, fun h132 => ?_⟩
      · show wq _ _
        have f133 := i32_b (l2)
        have g134 := tI_eq.mp h132
        refine wq_if.mpr ⟨fun h135 => ?_, fun h135 => ?_⟩
        · show wq _ _
          have g136 := tI_eq.mp h135
          exact vb_X9_readNumber_137 hN U_u H_u
        · show wq _ _
          have g137 := tI_ne h135
          exact vb_X9_readNumber_137 hN U_u H_u
      · show wq _ _
        have f138 := i32_b (l2)
        have g139 := tI_ne h132
        refine wq_if.mpr ⟨fun h140 => ?_, fun h140 => ?_⟩
        · show wq _ _
          have g141 := tI_eq.mp h140
          exact vb_X9_readNumber_137 hN U_u H_u
        · show wq _ _
          have g142 := tI_ne h140
          exact vb_X9_readNumber_137 hN U_u H_u
    · show wq _ _
      have f143 : (1 : Int32).toInt = 1 := by decide
      have f144 : (0 : Int32).toInt = 0 := by decide
      have g145 := tI_ne h128
      unfold B_X9_readNumber_104
      refine wq_if.mpr ⟨fun h146 => ?_, fun h146 => ?_⟩
      · show wq _ _
        have f147 := i32_b (l2)
        have g148 := tI_eq.mp h146
        refine wq_if.mpr ⟨fun h149 => ?_, fun h149 => ?_⟩
        · show wq _ _
          have g150 := tI_eq.mp h149
          exact vb_X9_readNumber_137 hN U_u H_u
        · show wq _ _
          have g151 := tI_ne h149
          exact vb_X9_readNumber_137 hN U_u H_u
      · show wq _ _
        have f152 := i32_b (l2)
        have g153 := tI_ne h146
        refine wq_if.mpr ⟨fun h154 => ?_, fun h154 => ?_⟩
        · show wq _ _
          have g155 := tI_eq.mp h154
          exact vb_X9_readNumber_137 hN U_u H_u
        · show wq _ _
          have g156 := tI_ne h154
          exact vb_X9_readNumber_137 hN U_u H_u
  · show wq _ _
    have f157 := i32_b (r_27)
    have f158 : (76 : Int32).toInt = 76 := by decide
    have g159 := tI_ne h124
    unfold B_X9_readNumber_88
    refine wq_if.mpr ⟨fun h160 => ?_, fun h160 => ?_⟩
    · show wq _ _
      have f161 : (0 : Int32).toInt = 0 := by decide
      have g162 := tI_eq.mp h160
      unfold B_X9_readNumber_104
      refine wq_if.mpr ⟨fun h163 => ?_, fun h163 => ?_⟩
      · show wq _ _
        have f164 := i32_b (l2)
        have g165 := tI_eq.mp h163
        refine wq_if.mpr ⟨fun h166 => ?_, fun h166 => ?_⟩
        · show wq _ _
          have g167 := tI_eq.mp h166
          exact vb_X9_readNumber_137 hN U_u H_u
        · show wq _ _
          have g168 := tI_ne h166
          exact vb_X9_readNumber_137 hN U_u H_u
      · show wq _ _
        have f169 := i32_b (l2)
        have g170 := tI_ne h163
        refine wq_if.mpr ⟨fun h171 => ?_, fun h171 => ?_⟩
        · show wq _ _
          have g172 := tI_eq.mp h171
          exact vb_X9_readNumber_137 hN U_u H_u
        · show wq _ _
          have g173 := tI_ne h171
          exact vb_X9_readNumber_137 hN U_u H_u
    · show wq _ _
      have f174 : (0 : Int32).toInt = 0 := by decide
      have g175 := tI_ne h160
      unfold B_X9_readNumber_104
      refine wq_if.mpr ⟨fun h176 => ?_, fun h176 => ?_⟩
      · show wq _ _
        have f177 := i32_b (l2)
        have g178 := tI_eq.mp h176
        refine wq_if.mpr ⟨fun h179 => ?_, fun h179 => ?_⟩
        · show wq _ _
          have g180 := tI_eq.mp h179
          exact vb_X9_readNumber_137 hN U_u H_u
        · show wq _ _
          have g181 := tI_ne h179
          exact vb_X9_readNumber_137 hN U_u H_u
      · show wq _ _
        have f182 := i32_b (l2)
        have g183 := tI_ne h176
        refine wq_if.mpr ⟨fun h184 => ?_, fun h184 => ?_⟩
        · show wq _ _
          have g185 := tI_eq.mp h184
          exact vb_X9_readNumber_137 hN U_u H_u
        · show wq _ _
          have g186 := tI_ne h184
          exact vb_X9_readNumber_137 hN U_u H_u
set_option maxHeartbeats 4000000 in
theorem v_X9_readNumber {N : Nat} {u : CSt} (hN : 5000000000 ≤ N) (U_u : UC u) {l1 : Int32} : wq (F_X9_readNumber N l1 u) (VP [203] (fun (r : Int32) (w : CSt) => True) u) := by
  have H_u : FR [203] u u := FR.rf
  unfold F_X9_readNumber
  unfold B_X9_readNumber_0
  have f187 := i32_b (l1)
  refine wq_bcR (v_X9_byteAt hN U_u ) (fun r_38 p188 => ?_)
  refine wq_if.mpr ⟨fun h189 => ?_, fun h189 => ?_⟩
  · show wq _ _
    have f190 := i32_b (r_38)
    have f191 : (48 : Int32).toInt = 48 := by decide
    have g192 := tI_eq.mp h189
    have f193 : (1 : Int32).toInt = 1 := by decide
    have f194 := tI_ad (l1) (1)
    have f195 := i32_b (l1 + 1)
    refine wq_bcR (v_X9_byteAt hN U_u ) (fun r_41 p196 => ?_)
    refine wq_if.mpr ⟨fun h197 => ?_, fun h197 => ?_⟩
    · show wq _ _
      have f198 := i32_b (r_41)
      have f199 : (120 : Int32).toInt = 120 := by decide
      have g200 := tI_eq.mp h197
      unfold B_X9_readNumber_27
      refine wq_if.mpr ⟨fun h201 => ?_, fun h201 => ?_⟩
      · show wq _ _
        have f202 : (0 : Int32).toInt = 0 := by decide
        have g203 := tI_eq.mp h201
        unfold B_X9_readNumber_39
        unfold LP_X9_readNumber_43
        refine wq_lp (fun (d : Nat) (a : Int32 × Int32 × Int32 × CSt) => UC a.2.2.2 ∧ FR [203] u a.2.2.2 ∧ a.1 = (1 : Int32) ∧ a.2.1 = l1 ∧ d = (2147483648 - a.2.2.1.toInt).toNat) ?_ _ ((2147483648 - (l1).toInt).toNat) _ (by omega) ⟨U_u, H_u, rfl, rfl, rfl⟩
        rintro d_204 R_204 ⟨l2_204, l3_204, l4_204, u_204⟩ ⟨U_204, H_204, k_204_0, k_204_1, m_204⟩ ih_204
        have k_204_0 : (1 : Int32) = l2_204 := Eq.symm k_204_0
        subst k_204_0
        have k_204_1 : l1 = l3_204 := Eq.symm k_204_1
        subst k_204_1
        have m_204 : d_204 = (2147483648 - l4_204.toInt).toNat := m_204
        have U_204 : UC u_204 := U_204
        have H_204 : FR [203] u u_204 := H_204
        show wq (B_X9_readNumber_43 N R_204 ((1 : Int32)) (l1) (l4_204) u_204) _
        unfold B_X9_readNumber_43
        refine wq_if.mpr ⟨fun h205 => ?_, fun h205 => ?_⟩
        · show wq _ _
          have f206 : (0 : Int) ≤ (cI u_204 3).toInt ∧ (cI u_204 3).toInt ≤ (6000 : Int) := U_204.i  3
          have f207 := i32_b (l4_204)
          have g208 := Int32.le_iff_toInt_le.mp h205
          exact vb_X9_readNumber_72 hN U_204 H_204
        · show wq _ _
          have f209 : (0 : Int) ≤ (cI u_204 3).toInt ∧ (cI u_204 3).toInt ≤ (6000 : Int) := U_204.i  3
          have f210 := i32_b (l4_204)
          have g211 := Int32.lt_iff_toInt_lt.mp (Int32.not_le.mp h205)
          refine wq_bcR (v_X9_byteAt hN U_204 ) (fun r_31 p212 => ?_)
          have f213 := i32_b (r_31)
          have f214 : (1 : Int32).toInt = 1 := by decide
          refine wq_pbU (v_X9_digit hN ) (fun r_32 p215 => ?_)
          refine wq_if.mpr ⟨fun h216 => ?_, fun h216 => ?_⟩
          · show wq _ _
            have f217 := i32_b (r_32)
            have f218 : (-1 : Int32).toInt = -1 := by decide
            have g219 := tI_eq.mp h216
            exact vb_X9_readNumber_72 hN U_204 H_204
          · show wq _ _
            have f220 := i32_b (r_32)
            have f221 : (-1 : Int32).toInt = -1 := by decide
            have g222 := tI_ne h216
            have f223 := tI_ad (l4_204) (1)
            have f224 := i32_b (l4_204 + 1)
            exact ih_204 ((2147483648 - (l4_204 + 1).toInt).toNat) ((1 : Int32), l1, l4_204 + 1, u_204) (by omega) ⟨U_204, H_204, rfl, rfl, rfl⟩
      · show wq _ _
        have f225 : (0 : Int32).toInt = 0 := by decide
        have g226 := tI_ne h201
        unfold B_X9_readNumber_39
        have f228 : (2 : Int32).toInt = 2 := by decide
        have f229 := tI_ad (l1) (2)
        have f230 := i32_b (l1 + 2)
        unfold LP_X9_readNumber_43
        refine wq_lp (fun (d : Nat) (a : Int32 × Int32 × Int32 × CSt) => UC a.2.2.2 ∧ FR [203] u a.2.2.2 ∧ a.1 = (1 : Int32) ∧ a.2.1 = (l1 + 2) ∧ d = (2147483648 - a.2.2.1.toInt).toNat) ?_ _ ((2147483648 - ((l1 + 2)).toInt).toNat) _ (by omega) ⟨U_u, H_u, rfl, rfl, rfl⟩
        rintro d_227 R_227 ⟨l2_227, l3_227, l4_227, u_227⟩ ⟨U_227, H_227, k_227_0, k_227_1, m_227⟩ ih_227
        have k_227_0 : (1 : Int32) = l2_227 := Eq.symm k_227_0
        subst k_227_0
        have k_227_1 : (l1 + 2) = l3_227 := Eq.symm k_227_1
        subst k_227_1
        have m_227 : d_227 = (2147483648 - l4_227.toInt).toNat := m_227
        have U_227 : UC u_227 := U_227
        have H_227 : FR [203] u u_227 := H_227
        show wq (B_X9_readNumber_43 N R_227 ((1 : Int32)) ((l1 + 2)) (l4_227) u_227) _
        unfold B_X9_readNumber_43
        refine wq_if.mpr ⟨fun h231 => ?_, fun h231 => ?_⟩
        · show wq _ _
          have f232 : (0 : Int) ≤ (cI u_227 3).toInt ∧ (cI u_227 3).toInt ≤ (6000 : Int) := U_227.i  3
          have f233 := i32_b (l4_227)
          have g234 := Int32.le_iff_toInt_le.mp h231
          exact vb_X9_readNumber_72 hN U_227 H_227
        · show wq _ _
          have f235 : (0 : Int) ≤ (cI u_227 3).toInt ∧ (cI u_227 3).toInt ≤ (6000 : Int) := U_227.i  3
          have f236 := i32_b (l4_227)
          have g237 := Int32.lt_iff_toInt_lt.mp (Int32.not_le.mp h231)
          refine wq_bcR (v_X9_byteAt hN U_227 ) (fun r_31 p238 => ?_)
          have f239 := i32_b (r_31)
          have f240 : (1 : Int32).toInt = 1 := by decide
          refine wq_pbU (v_X9_digit hN ) (fun r_32 p241 => ?_)
          refine wq_if.mpr ⟨fun h242 => ?_, fun h242 => ?_⟩
          · show wq _ _
            have f243 := i32_b (r_32)
            have f244 : (-1 : Int32).toInt = -1 := by decide
            have g245 := tI_eq.mp h242
            exact vb_X9_readNumber_72 hN U_227 H_227
          · show wq _ _
            have f246 := i32_b (r_32)
            have f247 : (-1 : Int32).toInt = -1 := by decide
            have g248 := tI_ne h242
            have f249 := tI_ad (l4_227) (1)
            have f250 := i32_b (l4_227 + 1)
            exact ih_227 ((2147483648 - (l4_227 + 1).toInt).toNat) ((1 : Int32), (l1 + 2), l4_227 + 1, u_227) (by omega) ⟨U_227, H_227, rfl, rfl, rfl⟩
    · show wq _ _
      have f251 := i32_b (r_41)
      have f252 : (120 : Int32).toInt = 120 := by decide
      have g253 := tI_ne h197
      unfold B_X9_readNumber_26
      unfold B_X9_readNumber_27
      refine wq_if.mpr ⟨fun h254 => ?_, fun h254 => ?_⟩
      · show wq _ _
        have f255 : (0 : Int32).toInt = 0 := by decide
        have g256 := tI_eq.mp h254
        unfold B_X9_readNumber_39
        unfold LP_X9_readNumber_43
        refine wq_lp (fun (d : Nat) (a : Int32 × Int32 × Int32 × CSt) => UC a.2.2.2 ∧ FR [203] u a.2.2.2 ∧ a.1 = (0 : Int32) ∧ a.2.1 = l1 ∧ d = (2147483648 - a.2.2.1.toInt).toNat) ?_ _ ((2147483648 - (l1).toInt).toNat) _ (by omega) ⟨U_u, H_u, rfl, rfl, rfl⟩
        rintro d_257 R_257 ⟨l2_257, l3_257, l4_257, u_257⟩ ⟨U_257, H_257, k_257_0, k_257_1, m_257⟩ ih_257
        have k_257_0 : (0 : Int32) = l2_257 := Eq.symm k_257_0
        subst k_257_0
        have k_257_1 : l1 = l3_257 := Eq.symm k_257_1
        subst k_257_1
        have m_257 : d_257 = (2147483648 - l4_257.toInt).toNat := m_257
        have U_257 : UC u_257 := U_257
        have H_257 : FR [203] u u_257 := H_257
        show wq (B_X9_readNumber_43 N R_257 ((0 : Int32)) (l1) (l4_257) u_257) _
        unfold B_X9_readNumber_43
        refine wq_if.mpr ⟨fun h258 => ?_, fun h258 => ?_⟩
        · show wq _ _
          have f259 : (0 : Int) ≤ (cI u_257 3).toInt ∧ (cI u_257 3).toInt ≤ (6000 : Int) := U_257.i  3
          have f260 := i32_b (l4_257)
          have g261 := Int32.le_iff_toInt_le.mp h258
          exact vb_X9_readNumber_72 hN U_257 H_257
        · show wq _ _
          have f262 : (0 : Int) ≤ (cI u_257 3).toInt ∧ (cI u_257 3).toInt ≤ (6000 : Int) := U_257.i  3
          have f263 := i32_b (l4_257)
          have g264 := Int32.lt_iff_toInt_lt.mp (Int32.not_le.mp h258)
          refine wq_bcR (v_X9_byteAt hN U_257 ) (fun r_31 p265 => ?_)
          have f266 := i32_b (r_31)
          have f267 : (0 : Int32).toInt = 0 := by decide
          refine wq_pbU (v_X9_digit hN ) (fun r_32 p268 => ?_)
          refine wq_if.mpr ⟨fun h269 => ?_, fun h269 => ?_⟩
          · show wq _ _
            have f270 := i32_b (r_32)
            have f271 : (-1 : Int32).toInt = -1 := by decide
            have g272 := tI_eq.mp h269
            exact vb_X9_readNumber_72 hN U_257 H_257
          · show wq _ _
            have f273 := i32_b (r_32)
            have f274 : (-1 : Int32).toInt = -1 := by decide
            have g275 := tI_ne h269
            have f276 : (1 : Int32).toInt = 1 := by decide
            have f277 := tI_ad (l4_257) (1)
            have f278 := i32_b (l4_257 + 1)
            exact ih_257 ((2147483648 - (l4_257 + 1).toInt).toNat) ((0 : Int32), l1, l4_257 + 1, u_257) (by omega) ⟨U_257, H_257, rfl, rfl, rfl⟩
      · show wq _ _
        have f279 : (0 : Int32).toInt = 0 := by decide
        have g280 := tI_ne h254
        unfold B_X9_readNumber_39
        have f282 : (2 : Int32).toInt = 2 := by decide
        have f283 := tI_ad (l1) (2)
        have f284 := i32_b (l1 + 2)
        unfold LP_X9_readNumber_43
        refine wq_lp (fun (d : Nat) (a : Int32 × Int32 × Int32 × CSt) => UC a.2.2.2 ∧ FR [203] u a.2.2.2 ∧ a.1 = (0 : Int32) ∧ a.2.1 = (l1 + 2) ∧ d = (2147483648 - a.2.2.1.toInt).toNat) ?_ _ ((2147483648 - ((l1 + 2)).toInt).toNat) _ (by omega) ⟨U_u, H_u, rfl, rfl, rfl⟩
        rintro d_281 R_281 ⟨l2_281, l3_281, l4_281, u_281⟩ ⟨U_281, H_281, k_281_0, k_281_1, m_281⟩ ih_281
        have k_281_0 : (0 : Int32) = l2_281 := Eq.symm k_281_0
        subst k_281_0
        have k_281_1 : (l1 + 2) = l3_281 := Eq.symm k_281_1
        subst k_281_1
        have m_281 : d_281 = (2147483648 - l4_281.toInt).toNat := m_281
        have U_281 : UC u_281 := U_281
        have H_281 : FR [203] u u_281 := H_281
        show wq (B_X9_readNumber_43 N R_281 ((0 : Int32)) ((l1 + 2)) (l4_281) u_281) _
        unfold B_X9_readNumber_43
        refine wq_if.mpr ⟨fun h285 => ?_, fun h285 => ?_⟩
        · show wq _ _
          have f286 : (0 : Int) ≤ (cI u_281 3).toInt ∧ (cI u_281 3).toInt ≤ (6000 : Int) := U_281.i  3
          have f287 := i32_b (l4_281)
          have g288 := Int32.le_iff_toInt_le.mp h285
          exact vb_X9_readNumber_72 hN U_281 H_281
        · show wq _ _
          have f289 : (0 : Int) ≤ (cI u_281 3).toInt ∧ (cI u_281 3).toInt ≤ (6000 : Int) := U_281.i  3
          have f290 := i32_b (l4_281)
          have g291 := Int32.lt_iff_toInt_lt.mp (Int32.not_le.mp h285)
          refine wq_bcR (v_X9_byteAt hN U_281 ) (fun r_31 p292 => ?_)
          have f293 := i32_b (r_31)
          have f294 : (0 : Int32).toInt = 0 := by decide
          refine wq_pbU (v_X9_digit hN ) (fun r_32 p295 => ?_)
          refine wq_if.mpr ⟨fun h296 => ?_, fun h296 => ?_⟩
          · show wq _ _
            have f297 := i32_b (r_32)
            have f298 : (-1 : Int32).toInt = -1 := by decide
            have g299 := tI_eq.mp h296
            exact vb_X9_readNumber_72 hN U_281 H_281
          · show wq _ _
            have f300 := i32_b (r_32)
            have f301 : (-1 : Int32).toInt = -1 := by decide
            have g302 := tI_ne h296
            have f303 : (1 : Int32).toInt = 1 := by decide
            have f304 := tI_ad (l4_281) (1)
            have f305 := i32_b (l4_281 + 1)
            exact ih_281 ((2147483648 - (l4_281 + 1).toInt).toNat) ((0 : Int32), (l1 + 2), l4_281 + 1, u_281) (by omega) ⟨U_281, H_281, rfl, rfl, rfl⟩
  · show wq _ _
    have f306 := i32_b (r_38)
    have f307 : (48 : Int32).toInt = 48 := by decide
    have g308 := tI_ne h189
    unfold B_X9_readNumber_26
    unfold B_X9_readNumber_27
    refine wq_if.mpr ⟨fun h309 => ?_, fun h309 => ?_⟩
    · show wq _ _
      have f310 : (0 : Int32).toInt = 0 := by decide
      have g311 := tI_eq.mp h309
      unfold B_X9_readNumber_39
      unfold LP_X9_readNumber_43
      refine wq_lp (fun (d : Nat) (a : Int32 × Int32 × Int32 × CSt) => UC a.2.2.2 ∧ FR [203] u a.2.2.2 ∧ a.1 = (0 : Int32) ∧ a.2.1 = l1 ∧ d = (2147483648 - a.2.2.1.toInt).toNat) ?_ _ ((2147483648 - (l1).toInt).toNat) _ (by omega) ⟨U_u, H_u, rfl, rfl, rfl⟩
      rintro d_312 R_312 ⟨l2_312, l3_312, l4_312, u_312⟩ ⟨U_312, H_312, k_312_0, k_312_1, m_312⟩ ih_312
      have k_312_0 : (0 : Int32) = l2_312 := Eq.symm k_312_0
      subst k_312_0
      have k_312_1 : l1 = l3_312 := Eq.symm k_312_1
      subst k_312_1
      have m_312 : d_312 = (2147483648 - l4_312.toInt).toNat := m_312
      have U_312 : UC u_312 := U_312
      have H_312 : FR [203] u u_312 := H_312
      show wq (B_X9_readNumber_43 N R_312 ((0 : Int32)) (l1) (l4_312) u_312) _
      unfold B_X9_readNumber_43
      refine wq_if.mpr ⟨fun h313 => ?_, fun h313 => ?_⟩
      · show wq _ _
        have f314 : (0 : Int) ≤ (cI u_312 3).toInt ∧ (cI u_312 3).toInt ≤ (6000 : Int) := U_312.i  3
        have f315 := i32_b (l4_312)
        have g316 := Int32.le_iff_toInt_le.mp h313
        exact vb_X9_readNumber_72 hN U_312 H_312
      · show wq _ _
        have f317 : (0 : Int) ≤ (cI u_312 3).toInt ∧ (cI u_312 3).toInt ≤ (6000 : Int) := U_312.i  3
        have f318 := i32_b (l4_312)
        have g319 := Int32.lt_iff_toInt_lt.mp (Int32.not_le.mp h313)
        refine wq_bcR (v_X9_byteAt hN U_312 ) (fun r_31 p320 => ?_)
        have f321 := i32_b (r_31)
        have f322 : (0 : Int32).toInt = 0 := by decide
        refine wq_pbU (v_X9_digit hN ) (fun r_32 p323 => ?_)
        refine wq_if.mpr ⟨fun h324 => ?_, fun h324 => ?_⟩
        · show wq _ _
          have f325 := i32_b (r_32)
          have f326 : (-1 : Int32).toInt = -1 := by decide
          have g327 := tI_eq.mp h324
          exact vb_X9_readNumber_72 hN U_312 H_312
        · show wq _ _
          have f328 := i32_b (r_32)
          have f329 : (-1 : Int32).toInt = -1 := by decide
          have g330 := tI_ne h324
          have f331 : (1 : Int32).toInt = 1 := by decide
          have f332 := tI_ad (l4_312) (1)
          have f333 := i32_b (l4_312 + 1)
          exact ih_312 ((2147483648 - (l4_312 + 1).toInt).toNat) ((0 : Int32), l1, l4_312 + 1, u_312) (by omega) ⟨U_312, H_312, rfl, rfl, rfl⟩
    · show wq _ _
      have f334 : (0 : Int32).toInt = 0 := by decide
      have g335 := tI_ne h309
      unfold B_X9_readNumber_39
      have f337 : (2 : Int32).toInt = 2 := by decide
      have f338 := tI_ad (l1) (2)
      have f339 := i32_b (l1 + 2)
      unfold LP_X9_readNumber_43
      refine wq_lp (fun (d : Nat) (a : Int32 × Int32 × Int32 × CSt) => UC a.2.2.2 ∧ FR [203] u a.2.2.2 ∧ a.1 = (0 : Int32) ∧ a.2.1 = (l1 + 2) ∧ d = (2147483648 - a.2.2.1.toInt).toNat) ?_ _ ((2147483648 - ((l1 + 2)).toInt).toNat) _ (by omega) ⟨U_u, H_u, rfl, rfl, rfl⟩
      rintro d_336 R_336 ⟨l2_336, l3_336, l4_336, u_336⟩ ⟨U_336, H_336, k_336_0, k_336_1, m_336⟩ ih_336
      have k_336_0 : (0 : Int32) = l2_336 := Eq.symm k_336_0
      subst k_336_0
      have k_336_1 : (l1 + 2) = l3_336 := Eq.symm k_336_1
      subst k_336_1
      have m_336 : d_336 = (2147483648 - l4_336.toInt).toNat := m_336
      have U_336 : UC u_336 := U_336
      have H_336 : FR [203] u u_336 := H_336
      show wq (B_X9_readNumber_43 N R_336 ((0 : Int32)) ((l1 + 2)) (l4_336) u_336) _
      unfold B_X9_readNumber_43
      refine wq_if.mpr ⟨fun h340 => ?_, fun h340 => ?_⟩
      · show wq _ _
        have f341 : (0 : Int) ≤ (cI u_336 3).toInt ∧ (cI u_336 3).toInt ≤ (6000 : Int) := U_336.i  3
        have f342 := i32_b (l4_336)
        have g343 := Int32.le_iff_toInt_le.mp h340
        exact vb_X9_readNumber_72 hN U_336 H_336
      · show wq _ _
        have f344 : (0 : Int) ≤ (cI u_336 3).toInt ∧ (cI u_336 3).toInt ≤ (6000 : Int) := U_336.i  3
        have f345 := i32_b (l4_336)
        have g346 := Int32.lt_iff_toInt_lt.mp (Int32.not_le.mp h340)
        refine wq_bcR (v_X9_byteAt hN U_336 ) (fun r_31 p347 => ?_)
        have f348 := i32_b (r_31)
        have f349 : (0 : Int32).toInt = 0 := by decide
        refine wq_pbU (v_X9_digit hN ) (fun r_32 p350 => ?_)
        refine wq_if.mpr ⟨fun h351 => ?_, fun h351 => ?_⟩
        · show wq _ _
          have f352 := i32_b (r_32)
          have f353 : (-1 : Int32).toInt = -1 := by decide
          have g354 := tI_eq.mp h351
          exact vb_X9_readNumber_72 hN U_336 H_336
        · show wq _ _
          have f355 := i32_b (r_32)
          have f356 : (-1 : Int32).toInt = -1 := by decide
          have g357 := tI_ne h351
          have f358 : (1 : Int32).toInt = 1 := by decide
          have f359 := tI_ad (l4_336) (1)
          have f360 := i32_b (l4_336 + 1)
          exact ih_336 ((2147483648 - (l4_336 + 1).toInt).toNat) ((0 : Int32), (l1 + 2), l4_336 + 1, u_336) (by omega) ⟨U_336, H_336, rfl, rfl, rfl⟩
set_option maxHeartbeats 4000000 in
theorem v_X9_readCharacter {N : Nat} {u : CSt} (hN : 5000000000 ≤ N) (U_u : UC u) {l1 : Int32} : wq (F_X9_readCharacter N l1 u) (VP [203] (fun (r : Int32) (w : CSt) => True) u) := by
  have H_u : FR [203] u u := FR.rf
  unfold F_X9_readCharacter
  unfold B_X9_readCharacter_0
  have f1 := i32_b (l1)
  have f2 : (1 : Int32).toInt = 1 := by decide
  have f3 := tI_ad (l1) (1)
  have f4 := i32_b (l1 + 1)
  refine wq_bcR (v_X9_byteAt hN U_u ) (fun r_2 p5 => ?_)
  refine wq_if.mpr ⟨fun h6 => ?_, fun h6 => ?_⟩
  · show wq _ _
    have f7 := i32_b (r_2)
    have f8 : (32 : Int32).toInt = 32 := by decide
    have g9 := Int32.lt_iff_toInt_lt.mp h6
    exact wq_some.mpr ⟨U_u, H_u, trivial⟩
  · show wq _ _
    have f10 := i32_b (r_2)
    have f11 : (32 : Int32).toInt = 32 := by decide
    have g12 := Int32.le_iff_toInt_le.mp (Int32.not_lt.mp h6)
    refine wq_if.mpr ⟨fun h13 => ?_, fun h13 => ?_⟩
    · show wq _ _
      have f14 : (126 : Int32).toInt = 126 := by decide
      have g15 := Int32.lt_iff_toInt_lt.mp h13
      exact wq_some.mpr ⟨U_u, H_u, trivial⟩
    · show wq _ _
      have f16 : (126 : Int32).toInt = 126 := by decide
      have g17 := Int32.le_iff_toInt_le.mp (Int32.not_lt.mp h13)
      have f18 : (2 : Int32).toInt = 2 := by decide
      have f19 := tI_ad (l1) (2)
      have f20 := i32_b (l1 + 2)
      refine wq_bcR (v_X9_byteAt hN U_u ) (fun r_6 p21 => ?_)
      refine wq_if.mpr ⟨fun h22 => ?_, fun h22 => ?_⟩
      · show wq _ _
        have f23 := i32_b (r_6)
        have f24 : (39 : Int32).toInt = 39 := by decide
        have g25 := tI_eq.mp h22
        have f26 : (130 : Int32).toInt = 130 := by decide
        have f27 : (0 : Int32).toInt = 0 := by decide
        refine wq_bcV (v_X9_put hN U_u ) (fun r28 u_8 U_u_8 G_u_8 p29 => ?_)
        have H_u_8 := H_u.call G_u_8 (show ∀ k ∈ [203], k ∈ [203] by decide)
        exact wq_some.mpr ⟨U_u_8, H_u_8, trivial⟩
      · show wq _ _
        have f30 := i32_b (r_6)
        have f31 : (39 : Int32).toInt = 39 := by decide
        have g32 := tI_ne h22
        exact wq_some.mpr ⟨U_u, H_u, trivial⟩
set_option maxHeartbeats 4000000 in
theorem v_X9_readSign {N : Nat} {u : CSt} (hN : 5000000000 ≤ N) (U_u : UC u) {l1 : Int32} : wq (F_X9_readSign N l1 u) (VP [203] (fun (r : Int32) (w : CSt) => True) u) := by
  have H_u : FR [203] u u := FR.rf
  unfold F_X9_readSign
  unfold B_X9_readSign_0
  have f1 := i32_b (l1)
  refine wq_bcR (v_X9_byteAt hN U_u ) (fun r_14 p2 => ?_)
  refine wq_if.mpr ⟨fun h3 => ?_, fun h3 => ?_⟩
  · show wq _ _
    have f4 := i32_b (r_14)
    have f5 : (0 : Int32).toInt = 0 := by decide
    have g6 := Int32.lt_iff_toInt_lt.mp h3
    exact wq_some.mpr ⟨U_u, H_u, trivial⟩
  · show wq _ _
    have f7 := i32_b (r_14)
    have f8 : (0 : Int32).toInt = 0 := by decide
    have g9 := Int32.le_iff_toInt_le.mp (Int32.not_lt.mp h3)
    refine wq_if.mpr ⟨fun h10 => ?_, fun h10 => ?_⟩
    · show wq _ _
      have f11 := i32_b ((six ((r_14.toUInt32 % 65536).toInt32)))
      have g12 := Int32.le_iff_toInt_le.mp h10
      refine wq_pbU (v_X9_mostRepeats hN ) (fun r_17 p13 => ?_)
      have f15 : (1 : Int32).toInt = 1 := by decide
      have f16 := i32_b (r_17)
      unfold LP_X9_readSign_33
      refine wq_lp (fun (d : Nat) (a : Int32 × Int32 × Int32 × Int32 × Int32 × CSt) => UC a.2.2.2.2.2 ∧ FR [203] u a.2.2.2.2.2 ∧ a.1 = l1 ∧ a.2.1 = r_14 ∧ a.2.2.2.2.1 = r_17 ∧ 0 ≤ a.2.2.2.1.toInt ∧ d = (2147483648 - a.2.2.2.1.toInt).toNat) ?_ _ ((2147483648 - ((1 : Int32)).toInt).toNat) _ (by omega) ⟨U_u, H_u, rfl, rfl, rfl, (show 0 ≤ ((1 : Int32)).toInt by omega), rfl⟩
      rintro d_14 R_14 ⟨l1_14, l2_14, l3_14, l4_14, l5_14, u_14⟩ ⟨U_14, H_14, k_14_0, k_14_1, k_14_2, i_14_0, m_14⟩ ih_14
      have k_14_0 : l1 = l1_14 := Eq.symm k_14_0
      subst k_14_0
      have k_14_1 : r_14 = l2_14 := Eq.symm k_14_1
      subst k_14_1
      have k_14_2 : r_17 = l5_14 := Eq.symm k_14_2
      subst k_14_2
      have i_14_0 : 0 ≤ l4_14.toInt := i_14_0
      have m_14 : d_14 = (2147483648 - l4_14.toInt).toNat := m_14
      have U_14 : UC u_14 := U_14
      have H_14 : FR [203] u u_14 := H_14
      show wq (B_X9_readSign_33 N R_14 (l1) (r_14) (l3_14) (l4_14) (r_17) u_14) _
      unfold B_X9_readSign_33
      refine wq_if.mpr ⟨fun h17 => ?_, fun h17 => ?_⟩
      · show wq _ _
        have f18 := i32_b (r_17)
        have f19 := i32_b (l4_14)
        have g20 := Int32.le_iff_toInt_le.mp h17
        unfold B_X9_readSign_65
        have f21 := i32_b (l1)
        have f22 := tI_ad (l1) (l4_14)
        have f23 := i32_b (l1 + l4_14)
        refine wq_bcR (v_X9_byteAt hN U_14 ) (fun r_3 p24 => ?_)
        refine wq_if.mpr ⟨fun h25 => ?_, fun h25 => ?_⟩
        · show wq _ _
          have f26 := i32_b (r_3)
          have f27 : (61 : Int32).toInt = 61 := by decide
          have g28 := tI_eq.mp h25
          have f29 := i32_b (r_14)
          refine wq_pbU (v_X9_takesEquals hN ) (fun r_5 p30 => ?_)
          refine wq_if.mpr ⟨fun h31 => ?_, fun h31 => ?_⟩
          · show wq _ _
            have f32 := i32_b (r_5)
            have f33 : (0 : Int32).toInt = 0 := by decide
            have g34 := tI_eq.mp h31
            unfold B_X9_readSign_98
            have f35 := i32_b (l3_14)
            refine wq_bcV (v_X9_put hN U_14 ) (fun r36 u_1 U_u_1 G_u_1 p37 => ?_)
            have H_u_1 := H_14.call G_u_1 (show ∀ k ∈ [203], k ∈ [203] by decide)
            exact wq_some.mpr ⟨U_u_1, H_u_1, trivial⟩
          · show wq _ _
            have f38 := i32_b (r_5)
            have f39 : (0 : Int32).toInt = 0 := by decide
            have g40 := tI_ne h31
            unfold B_X9_readSign_98
            have f41 := i32_b (l3_14)
            have f42 : (8 : Int32).toInt = 8 := by decide
            have f43 : (31 : Int32).toInt = 31 := by decide
            have f44 := i32_b (8 &&& 31)
            have f45 := i32_b (l3_14 <<< (8 &&& 31))
            have f46 := i32_b ((l3_14 <<< (8 &&& 31)) ||| 61)
            refine wq_bcV (v_X9_put hN U_14 ) (fun r47 u_1 U_u_1 G_u_1 p48 => ?_)
            have H_u_1 := H_14.call G_u_1 (show ∀ k ∈ [203], k ∈ [203] by decide)
            exact wq_some.mpr ⟨U_u_1, H_u_1, trivial⟩
        · show wq _ _
          have f49 := i32_b (r_3)
          have f50 : (61 : Int32).toInt = 61 := by decide
          have g51 := tI_ne h25
          unfold B_X9_readSign_98
          have f52 := i32_b (l3_14)
          have f53 : (0 : Int32).toInt = 0 := by decide
          refine wq_bcV (v_X9_put hN U_14 ) (fun r54 u_1 U_u_1 G_u_1 p55 => ?_)
          have H_u_1 := H_14.call G_u_1 (show ∀ k ∈ [203], k ∈ [203] by decide)
          exact wq_some.mpr ⟨U_u_1, H_u_1, trivial⟩
      · show wq _ _
        have f56 := i32_b (r_17)
        have f57 := i32_b (l4_14)
        have g58 := Int32.lt_iff_toInt_lt.mp (Int32.not_le.mp h17)
        have f59 := i32_b (l1)
        have f60 := tI_ad (l1) (l4_14)
        have f61 := i32_b (l1 + l4_14)
        refine wq_bcR (v_X9_byteAt hN U_14 ) (fun r_11 p62 => ?_)
        refine wq_if.mpr ⟨fun h63 => ?_, fun h63 => ?_⟩
        · show wq _ _
          have f64 := i32_b (r_11)
          have f65 := i32_b (r_14)
          have g66 := tI_eq.mp h63
          have f67 := i32_b (l3_14)
          have f68 : (8 : Int32).toInt = 8 := by decide
          have f69 : (31 : Int32).toInt = 31 := by decide
          have f70 := i32_b (8 &&& 31)
          have f71 := i32_b (l3_14 <<< (8 &&& 31))
          have f72 := i32_b ((l3_14 <<< (8 &&& 31)) ||| r_14)
          have f73 : (1 : Int32).toInt = 1 := by decide
          have f74 := tI_ad (l4_14) (1)
          have f75 := i32_b (l4_14 + 1)
          exact ih_14 ((2147483648 - (l4_14 + 1).toInt).toNat) (l1, r_14, (l3_14 <<< (8 &&& 31)) ||| r_14, l4_14 + 1, r_17, u_14) (by omega) ⟨U_14, H_14, rfl, rfl, rfl, (show 0 ≤ (l4_14 + 1).toInt by omega), rfl⟩
        · show wq _ _
          have f76 := i32_b (r_11)
          have f77 := i32_b (r_14)
          have g78 := tI_ne h63
          unfold B_X9_readSign_65
          refine wq_bcR (v_X9_byteAt hN U_14 ) (fun r_3 p79 => ?_)
          refine wq_if.mpr ⟨fun h80 => ?_, fun h80 => ?_⟩
          · show wq _ _
            have f81 := i32_b (r_3)
            have f82 : (61 : Int32).toInt = 61 := by decide
            have g83 := tI_eq.mp h80
            refine wq_pbU (v_X9_takesEquals hN ) (fun r_5 p84 => ?_)
            refine wq_if.mpr ⟨fun h85 => ?_, fun h85 => ?_⟩
            · show wq _ _
              have f86 := i32_b (r_5)
              have f87 : (0 : Int32).toInt = 0 := by decide
              have g88 := tI_eq.mp h85
              unfold B_X9_readSign_98
              have f89 := i32_b (l3_14)
              refine wq_bcV (v_X9_put hN U_14 ) (fun r90 u_1 U_u_1 G_u_1 p91 => ?_)
              have H_u_1 := H_14.call G_u_1 (show ∀ k ∈ [203], k ∈ [203] by decide)
              exact wq_some.mpr ⟨U_u_1, H_u_1, trivial⟩
            · show wq _ _
              have f92 := i32_b (r_5)
              have f93 : (0 : Int32).toInt = 0 := by decide
              have g94 := tI_ne h85
              unfold B_X9_readSign_98
              have f95 := i32_b (l3_14)
              have f96 : (8 : Int32).toInt = 8 := by decide
              have f97 : (31 : Int32).toInt = 31 := by decide
              have f98 := i32_b (8 &&& 31)
              have f99 := i32_b (l3_14 <<< (8 &&& 31))
              have f100 := i32_b ((l3_14 <<< (8 &&& 31)) ||| 61)
              refine wq_bcV (v_X9_put hN U_14 ) (fun r101 u_1 U_u_1 G_u_1 p102 => ?_)
              have H_u_1 := H_14.call G_u_1 (show ∀ k ∈ [203], k ∈ [203] by decide)
              exact wq_some.mpr ⟨U_u_1, H_u_1, trivial⟩
          · show wq _ _
            have f103 := i32_b (r_3)
            have f104 : (61 : Int32).toInt = 61 := by decide
            have g105 := tI_ne h80
            unfold B_X9_readSign_98
            have f106 := i32_b (l3_14)
            have f107 : (0 : Int32).toInt = 0 := by decide
            refine wq_bcV (v_X9_put hN U_14 ) (fun r108 u_1 U_u_1 G_u_1 p109 => ?_)
            have H_u_1 := H_14.call G_u_1 (show ∀ k ∈ [203], k ∈ [203] by decide)
            exact wq_some.mpr ⟨U_u_1, H_u_1, trivial⟩
    · show wq _ _
      have f110 := i32_b ((six ((r_14.toUInt32 % 65536).toInt32)))
      have g111 := Int32.lt_iff_toInt_lt.mp (Int32.not_le.mp h10)
      exact wq_some.mpr ⟨U_u, H_u, trivial⟩
set_option maxHeartbeats 4000000 in
theorem v_X9_readToken {N : Nat} {u : CSt} (hN : 5000000000 ≤ N) (U_u : UC u) {l1 : Int32} : wq (F_X9_readToken N l1 u) (VP [203] (fun (r : Int32) (w : CSt) => True) u) := by
  have H_u : FR [203] u u := FR.rf
  unfold F_X9_readToken
  unfold B_X9_readToken_0
  have f1 := i32_b (l1)
  refine wq_bcR (v_X9_byteAt hN U_u ) (fun r_13 p2 => ?_)
  have f3 : (0 : Int) ≤ (cI u 4).toInt ∧ (cI u 4).toInt ≤ (1500 : Int) := U_u.i  4
  have x4 : vp_in (cI u 4) 1501 := vin_iff.mpr ⟨by omega, by omega⟩
  refine wq_wc.mpr ⟨x4, ?_⟩
  have U_u_15 : UC (xA u 204 ((cI u 4).toNatClampNeg) l1) := U_u.xA
  have H_u_15 : FR [203] u (xA u 204 ((cI u 4).toNatClampNeg) l1) := H_u.xA (by exact Or.inl (by decide))
  generalize e_u_15 : xA u 204 ((cI u 4).toNatClampNeg) l1 = u_15 at U_u_15 H_u_15 ⊢
  refine wq_if.mpr ⟨fun h5 => ?_, fun h5 => ?_⟩
  · show wq _ _
    have f6 := i32_b (r_13)
    have f7 : (48 : Int32).toInt = 48 := by decide
    have g8 := Int32.lt_iff_toInt_lt.mp h5
    unfold B_X9_readToken_34
    refine wq_pbU (v_X9_isWordByte hN ) (fun r_1 p9 => ?_)
    refine wq_if.mpr ⟨fun h10 => ?_, fun h10 => ?_⟩
    · show wq _ _
      have f11 := i32_b (r_1)
      have f12 : (0 : Int32).toInt = 0 := by decide
      have g13 := tI_eq.mp h10
      refine wq_if.mpr ⟨fun h14 => ?_, fun h14 => ?_⟩
      · show wq _ _
        have f15 : (39 : Int32).toInt = 39 := by decide
        have g16 := tI_eq.mp h14
        refine wq_bcV (v_X9_readCharacter hN U_u_15 ) (fun r_9 u_8 U_u_8 G_u_8 p17 => ?_)
        have H_u_8 := H_u_15.call G_u_8 (show ∀ k ∈ [203], k ∈ [203] by decide)
        exact wq_some.mpr ⟨U_u_8, H_u_8, trivial⟩
      · show wq _ _
        have f18 : (39 : Int32).toInt = 39 := by decide
        have g19 := tI_ne h14
        refine wq_bcV (v_X9_readSign hN U_u_15 ) (fun r_7 u_6 U_u_6 G_u_6 p20 => ?_)
        have H_u_6 := H_u_15.call G_u_6 (show ∀ k ∈ [203], k ∈ [203] by decide)
        exact wq_some.mpr ⟨U_u_6, H_u_6, trivial⟩
    · show wq _ _
      have f21 := i32_b (r_1)
      have f22 : (0 : Int32).toInt = 0 := by decide
      have g23 := tI_ne h10
      refine wq_bcV (v_X9_readWord hN U_u_15 ) (fun r_11 u_10 U_u_10 G_u_10 p24 => ?_)
      have H_u_10 := H_u_15.call G_u_10 (show ∀ k ∈ [203], k ∈ [203] by decide)
      exact wq_some.mpr ⟨U_u_10, H_u_10, trivial⟩
  · show wq _ _
    have f25 := i32_b (r_13)
    have f26 : (48 : Int32).toInt = 48 := by decide
    have g27 := Int32.le_iff_toInt_le.mp (Int32.not_lt.mp h5)
    refine wq_if.mpr ⟨fun h28 => ?_, fun h28 => ?_⟩
    · show wq _ _
      have f29 : (57 : Int32).toInt = 57 := by decide
      have g30 := Int32.lt_iff_toInt_lt.mp h28
      unfold B_X9_readToken_34
      refine wq_pbU (v_X9_isWordByte hN ) (fun r_1 p31 => ?_)
      refine wq_if.mpr ⟨fun h32 => ?_, fun h32 => ?_⟩
      · show wq _ _
        have f33 := i32_b (r_1)
        have f34 : (0 : Int32).toInt = 0 := by decide
        have g35 := tI_eq.mp h32
        refine wq_if.mpr ⟨fun h36 => ?_, fun h36 => ?_⟩
        · show wq _ _
          have f37 : (39 : Int32).toInt = 39 := by decide
          have g38 := tI_eq.mp h36
          refine wq_bcV (v_X9_readCharacter hN U_u_15 ) (fun r_9 u_8 U_u_8 G_u_8 p39 => ?_)
          have H_u_8 := H_u_15.call G_u_8 (show ∀ k ∈ [203], k ∈ [203] by decide)
          exact wq_some.mpr ⟨U_u_8, H_u_8, trivial⟩
        · show wq _ _
          have f40 : (39 : Int32).toInt = 39 := by decide
          have g41 := tI_ne h36
          refine wq_bcV (v_X9_readSign hN U_u_15 ) (fun r_7 u_6 U_u_6 G_u_6 p42 => ?_)
          have H_u_6 := H_u_15.call G_u_6 (show ∀ k ∈ [203], k ∈ [203] by decide)
          exact wq_some.mpr ⟨U_u_6, H_u_6, trivial⟩
      · show wq _ _
        have f43 := i32_b (r_1)
        have f44 : (0 : Int32).toInt = 0 := by decide
        have g45 := tI_ne h32
        refine wq_bcV (v_X9_readWord hN U_u_15 ) (fun r_11 u_10 U_u_10 G_u_10 p46 => ?_)
        have H_u_10 := H_u_15.call G_u_10 (show ∀ k ∈ [203], k ∈ [203] by decide)
        exact wq_some.mpr ⟨U_u_10, H_u_10, trivial⟩
    · show wq _ _
      have f47 : (57 : Int32).toInt = 57 := by decide
      have g48 := Int32.le_iff_toInt_le.mp (Int32.not_lt.mp h28)
      refine wq_bcV (v_X9_readNumber hN U_u_15 ) (fun r_19 u_18 U_u_18 G_u_18 p49 => ?_)
      have H_u_18 := H_u_15.call G_u_18 (show ∀ k ∈ [203], k ∈ [203] by decide)
      exact wq_some.mpr ⟨U_u_18, H_u_18, trivial⟩
set_option maxHeartbeats 4000000 in
theorem v_X9_read {N : Nat} {u : CSt} (hN : 5000000000 ≤ N) (U_u : UC u) {l1 : Int32} (h_0 : 0 ≤ l1.toInt ∧ l1.toInt ≤ 6000) : wq (F_X9_read N l1 u) (VP [3, 4, 5, 6, 7, 203] (fun (r : Int32) (w : CSt) => isEnd (cA w 203 (cI w 4).toNatClampNeg)) u) := by
  have H_u : FR [3, 4, 5, 6, 7, 203] u u := FR.rf
  unfold F_X9_read
  unfold B_X9_read_0
  refine wq_pc.mpr ?_
  have f1 := i32_b (l1)
  have U_u_16 : UC (xI u 3 l1) := U_u.xI (k := 3) (show (0 : Int) ≤ (l1).toInt by omega) (show (l1).toInt ≤ (6000 : Int) by omega)
  have H_u_16 : FR [3, 4, 5, 6, 7, 203] u (xI u 3 l1) := H_u.xI (by decide)
  generalize e_u_16 : xI u 3 l1 = u_16 at U_u_16 H_u_16 ⊢
  refine wq_pc.mpr ?_
  have f2 : (0 : Int32).toInt = 0 := by decide
  have U_u_17 : UC (xI u_16 4 0) := U_u_16.xI (k := 4) (show (0 : Int) ≤ ((0 : Int32)).toInt by omega) (show ((0 : Int32)).toInt ≤ (1500 : Int) by omega)
  have H_u_17 : FR [3, 4, 5, 6, 7, 203] u (xI u_16 4 0) := H_u_16.xI (by decide)
  generalize e_u_17 : xI u_16 4 0 = u_17 at U_u_17 H_u_17 ⊢
  refine wq_pc.mpr ?_
  have U_u_18 : UC (xI u_17 5 0) := U_u_17.xI (k := 5) (show (0 : Int) ≤ ((0 : Int32)).toInt by omega) (show ((0 : Int32)).toInt ≤ (1500 : Int) by omega)
  have H_u_18 : FR [3, 4, 5, 6, 7, 203] u (xI u_17 5 0) := H_u_17.xI (by decide)
  generalize e_u_18 : xI u_17 5 0 = u_18 at U_u_18 H_u_18 ⊢
  refine wq_pc.mpr ?_
  have U_u_19 : UC (xI u_18 6 0) := U_u_18.xI (k := 6) (show (-2147483648 : Int) ≤ ((0 : Int32)).toInt by omega) (show ((0 : Int32)).toInt ≤ (2147483647 : Int) by omega)
  have H_u_19 : FR [3, 4, 5, 6, 7, 203] u (xI u_18 6 0) := H_u_18.xI (by decide)
  generalize e_u_19 : xI u_18 6 0 = u_19 at U_u_19 H_u_19 ⊢
  refine wq_pc.mpr ?_
  have f3 : (-1 : Int32).toInt = -1 := by decide
  have U_u_20 : UC (xI u_19 7 (-1)) := U_u_19.xI (k := 7) (show (-2147483648 : Int) ≤ (((-1) : Int32)).toInt by omega) (show (((-1) : Int32)).toInt ≤ (2147483647 : Int) by omega)
  have H_u_20 : FR [3, 4, 5, 6, 7, 203] u (xI u_19 7 (-1)) := H_u_19.xI (by decide)
  generalize e_u_20 : xI u_19 7 (-1) = u_20 at U_u_20 H_u_20 ⊢
  refine wq_bcR (v_X9_behindGap hN U_u_20 ) (fun r_22 p4 => ?_)
  have f6 := i32_b (r_22)
  have f7 : (0 : Int) ≤ (cI u_20 4).toInt ∧ (cI u_20 4).toInt ≤ (1500 : Int) := U_u_20.i  4
  have f8 : (cI u_20 4).toInt = (cI u_19 4).toInt := by rw [← e_u_20]; rfl
  have f9 : (0 : Int) ≤ (cI u_19 4).toInt ∧ (cI u_19 4).toInt ≤ (1500 : Int) := U_u_19.i  4
  have f10 : (cI u_19 4).toInt = (cI u_18 4).toInt := by rw [← e_u_19]; rfl
  have f11 : (0 : Int) ≤ (cI u_18 4).toInt ∧ (cI u_18 4).toInt ≤ (1500 : Int) := U_u_18.i  4
  have f12 : (cI u_18 4).toInt = (cI u_17 4).toInt := by rw [← e_u_18]; rfl
  have f13 : (0 : Int) ≤ (cI u_17 4).toInt ∧ (cI u_17 4).toInt ≤ (1500 : Int) := U_u_17.i  4
  have f14 : (cI u_17 4).toInt = ((0 : Int32)).toInt := by rw [← e_u_17]; simp only [xI_1, if_true]
  unfold LP_X9_read_33
  refine wq_lp (fun (d : Nat) (a : Int32 × Int32 × CSt) => UC a.2.2 ∧ FR [3, 4, 5, 6, 7, 203] u a.2.2 ∧ 0 ≤ a.2.1.toInt ∧ (cI a.2.2 4).toInt ≤ a.2.1.toInt ∧ d = (2147483648 - a.2.1.toInt).toNat) ?_ _ ((2147483648 - ((0 : Int32)).toInt).toNat) _ (by omega) ⟨U_u_20, H_u_20, (show 0 ≤ ((0 : Int32)).toInt by omega), (show (cI u_20 4).toInt ≤ ((0 : Int32)).toInt by omega), rfl⟩
  rintro d_5 R_5 ⟨l2_5, l3_5, u_5⟩ ⟨U_5, H_5, i_5_0, i_5_1, m_5⟩ ih_5
  have i_5_0 : 0 ≤ l3_5.toInt := i_5_0
  have i_5_1 : (cI u_5 4).toInt ≤ l3_5.toInt := i_5_1
  have m_5 : d_5 = (2147483648 - l3_5.toInt).toNat := m_5
  have U_5 : UC u_5 := U_5
  have H_5 : FR [3, 4, 5, 6, 7, 203] u u_5 := H_5
  show wq (B_X9_read_33 N R_5 (l2_5) (l3_5) u_5) _
  unfold B_X9_read_33
  refine wq_if.mpr ⟨fun h15 => ?_, fun h15 => ?_⟩
  · show wq _ _
    have f16 : (1500 : Int32).toInt = 1500 := by decide
    have f17 := i32_b (l3_5)
    have g18 := Int32.le_iff_toInt_le.mp h15
    unfold B_X9_read_93
    refine wq_if.mpr ⟨fun h19 => ?_, fun h19 => ?_⟩
    · show wq _ _
      have f20 := i32_b (l2_5)
      have f21 : (0 : Int) ≤ (cI u_5 3).toInt ∧ (cI u_5 3).toInt ≤ (6000 : Int) := U_5.i  3
      have g22 := Int32.lt_iff_toInt_lt.mp h19
      refine wq_bcV (v_X9_readToken hN U_5 ) (fun r_4 u_3 U_u_3 G_u_3 p23 => ?_)
      have H_u_3 := H_5.call G_u_3 (show ∀ k ∈ [203], k ∈ [3, 4, 5, 6, 7, 203] by decide)
      refine wq_if.mpr ⟨fun h24 => ?_, fun h24 => ?_⟩
      · show wq _ _
        have f25 := i32_b (r_4)
        have g26 := Int32.le_iff_toInt_le.mp h24
        unfold B_X9_read_132
        have f27 : (131 : Int32).toInt = 131 := by decide
        refine wq_bcV (v_X9_closeWith hN U_u_3 ) (fun r28 u_1 U_u_1 G_u_1 p29 => ?_)
        have H_u_1 := H_u_3.call G_u_1 (show ∀ k ∈ [203], k ∈ [3, 4, 5, 6, 7, 203] by decide)
        try dsimp only at p29
        have f30 : (0 : Int32).toInt = 0 := by decide
        exact wq_some.mpr ⟨U_u_1, H_u_1, (show isEnd (cA u_1 203 (cI u_1 4).toNatClampNeg) by first | exact Or.inl (by assumption) | exact Or.inr (Or.inl (by assumption)) | exact Or.inr (Or.inr (by assumption)))⟩
      · show wq _ _
        have f31 := i32_b (r_4)
        have g32 := Int32.lt_iff_toInt_lt.mp (Int32.not_le.mp h24)
        unfold B_X9_read_132
        have f33 : (132 : Int32).toInt = 132 := by decide
        refine wq_bcV (v_X9_closeWith hN U_u_3 ) (fun r34 u_1 U_u_1 G_u_1 p35 => ?_)
        have H_u_1 := H_u_3.call G_u_1 (show ∀ k ∈ [203], k ∈ [3, 4, 5, 6, 7, 203] by decide)
        try dsimp only at p35
        have f36 : (0 : Int32).toInt = 0 := by decide
        exact wq_some.mpr ⟨U_u_1, H_u_1, (show isEnd (cA u_1 203 (cI u_1 4).toNatClampNeg) by first | exact Or.inl (by assumption) | exact Or.inr (Or.inl (by assumption)) | exact Or.inr (Or.inr (by assumption)))⟩
    · show wq _ _
      have f37 := i32_b (l2_5)
      have f38 : (0 : Int) ≤ (cI u_5 3).toInt ∧ (cI u_5 3).toInt ≤ (6000 : Int) := U_5.i  3
      have g39 := Int32.le_iff_toInt_le.mp (Int32.not_lt.mp h19)
      have f40 : (0 : Int32).toInt = 0 := by decide
      refine wq_bcV (v_X9_closeWith hN U_5 ) (fun r41 u_6 U_u_6 G_u_6 p42 => ?_)
      have H_u_6 := H_5.call G_u_6 (show ∀ k ∈ [203], k ∈ [3, 4, 5, 6, 7, 203] by decide)
      try dsimp only at p42
      exact wq_some.mpr ⟨U_u_6, H_u_6, (show isEnd (cA u_6 203 (cI u_6 4).toNatClampNeg) by first | exact Or.inl (by assumption) | exact Or.inr (Or.inl (by assumption)) | exact Or.inr (Or.inr (by assumption)))⟩
  · show wq _ _
    have f43 : (1500 : Int32).toInt = 1500 := by decide
    have f44 := i32_b (l3_5)
    have g45 := Int32.lt_iff_toInt_lt.mp (Int32.not_le.mp h15)
    refine wq_if.mpr ⟨fun h46 => ?_, fun h46 => ?_⟩
    · show wq _ _
      have f47 : (0 : Int) ≤ (cI u_5 3).toInt ∧ (cI u_5 3).toInt ≤ (6000 : Int) := U_5.i  3
      have f48 := i32_b (l2_5)
      have g49 := Int32.le_iff_toInt_le.mp h46
      unfold B_X9_read_93
      refine wq_if.mpr ⟨fun h50 => ?_, fun h50 => ?_⟩
      · show wq _ _
        have g51 := Int32.lt_iff_toInt_lt.mp h50
        refine wq_bcV (v_X9_readToken hN U_5 ) (fun r_4 u_3 U_u_3 G_u_3 p52 => ?_)
        have H_u_3 := H_5.call G_u_3 (show ∀ k ∈ [203], k ∈ [3, 4, 5, 6, 7, 203] by decide)
        refine wq_if.mpr ⟨fun h53 => ?_, fun h53 => ?_⟩
        · show wq _ _
          have f54 := i32_b (r_4)
          have g55 := Int32.le_iff_toInt_le.mp h53
          unfold B_X9_read_132
          have f56 : (131 : Int32).toInt = 131 := by decide
          refine wq_bcV (v_X9_closeWith hN U_u_3 ) (fun r57 u_1 U_u_1 G_u_1 p58 => ?_)
          have H_u_1 := H_u_3.call G_u_1 (show ∀ k ∈ [203], k ∈ [3, 4, 5, 6, 7, 203] by decide)
          try dsimp only at p58
          have f59 : (0 : Int32).toInt = 0 := by decide
          exact wq_some.mpr ⟨U_u_1, H_u_1, (show isEnd (cA u_1 203 (cI u_1 4).toNatClampNeg) by first | exact Or.inl (by assumption) | exact Or.inr (Or.inl (by assumption)) | exact Or.inr (Or.inr (by assumption)))⟩
        · show wq _ _
          have f60 := i32_b (r_4)
          have g61 := Int32.lt_iff_toInt_lt.mp (Int32.not_le.mp h53)
          unfold B_X9_read_132
          have f62 : (132 : Int32).toInt = 132 := by decide
          refine wq_bcV (v_X9_closeWith hN U_u_3 ) (fun r63 u_1 U_u_1 G_u_1 p64 => ?_)
          have H_u_1 := H_u_3.call G_u_1 (show ∀ k ∈ [203], k ∈ [3, 4, 5, 6, 7, 203] by decide)
          try dsimp only at p64
          have f65 : (0 : Int32).toInt = 0 := by decide
          exact wq_some.mpr ⟨U_u_1, H_u_1, (show isEnd (cA u_1 203 (cI u_1 4).toNatClampNeg) by first | exact Or.inl (by assumption) | exact Or.inr (Or.inl (by assumption)) | exact Or.inr (Or.inr (by assumption)))⟩
      · show wq _ _
        have g66 := Int32.le_iff_toInt_le.mp (Int32.not_lt.mp h50)
        have f67 : (0 : Int32).toInt = 0 := by decide
        refine wq_bcV (v_X9_closeWith hN U_5 ) (fun r68 u_6 U_u_6 G_u_6 p69 => ?_)
        have H_u_6 := H_5.call G_u_6 (show ∀ k ∈ [203], k ∈ [3, 4, 5, 6, 7, 203] by decide)
        try dsimp only at p69
        exact wq_some.mpr ⟨U_u_6, H_u_6, (show isEnd (cA u_6 203 (cI u_6 4).toNatClampNeg) by first | exact Or.inl (by assumption) | exact Or.inr (Or.inl (by assumption)) | exact Or.inr (Or.inr (by assumption)))⟩
    · show wq _ _
      have f70 : (0 : Int) ≤ (cI u_5 3).toInt ∧ (cI u_5 3).toInt ≤ (6000 : Int) := U_5.i  3
      have f71 := i32_b (l2_5)
      have g72 := Int32.lt_iff_toInt_lt.mp (Int32.not_le.mp h46)
      refine wq_bcV (v_X9_readToken hN U_5 ) (fun r_10 u_9 U_u_9 G_u_9 p73 => ?_)
      have H_u_9 := H_5.call G_u_9 (show ∀ k ∈ [203], k ∈ [3, 4, 5, 6, 7, 203] by decide)
      refine wq_if.mpr ⟨fun h74 => ?_, fun h74 => ?_⟩
      · show wq _ _
        have f75 := i32_b (r_10)
        have g76 := Int32.lt_iff_toInt_lt.mp h74
        refine wq_pc.mpr ?_
        have f77 : (0 : Int) ≤ (cI u_9 4).toInt ∧ (cI u_9 4).toInt ≤ (1500 : Int) := U_u_9.i  4
        have f78 : (cI u_9 4).toInt = (cI u_5 4).toInt := by rw [show cI u_9 4 = cI u_5 4 from G_u_9.1 4 (by decide)]
        have f79 : (0 : Int) ≤ (cI u_5 4).toInt ∧ (cI u_5 4).toInt ≤ (1500 : Int) := U_5.i  4
        have f80 : (1 : Int32).toInt = 1 := by decide
        have f81 := tI_ad (cI u_9 4) (1)
        have f82 := i32_b ((cI u_9 4) + 1)
        have U_u_12 : UC (xI u_9 4 ((cI u_9 4) + 1)) := U_u_9.xI (k := 4) (show (0 : Int) ≤ ((cI u_9 4) + 1).toInt by omega) (show ((cI u_9 4) + 1).toInt ≤ (1500 : Int) by omega)
        have H_u_12 : FR [3, 4, 5, 6, 7, 203] u (xI u_9 4 ((cI u_9 4) + 1)) := H_u_9.xI (by decide)
        generalize e_u_12 : xI u_9 4 ((cI u_9 4) + 1) = u_12 at U_u_12 H_u_12 ⊢
        refine wq_bcR (v_X9_behindGap hN U_u_12 ) (fun r_14 p83 => ?_)
        have f84 := i32_b (r_14)
        have f85 := tI_ad (l3_5) (1)
        have f86 := i32_b (l3_5 + 1)
        have f87 : (0 : Int) ≤ (cI u_12 4).toInt ∧ (cI u_12 4).toInt ≤ (1500 : Int) := U_u_12.i  4
        have f88 : (cI u_12 4).toInt = ((cI u_9 4) + 1).toInt := by rw [← e_u_12]; simp only [xI_1, if_true]
        exact ih_5 ((2147483648 - (l3_5 + 1).toInt).toNat) (r_14, l3_5 + 1, u_12) (by omega) ⟨U_u_12, H_u_12, (show 0 ≤ (l3_5 + 1).toInt by omega), (show (cI u_12 4).toInt ≤ (l3_5 + 1).toInt by omega), rfl⟩
      · show wq _ _
        have f89 := i32_b (r_10)
        have g90 := Int32.le_iff_toInt_le.mp (Int32.not_lt.mp h74)
        have f91 : (131 : Int32).toInt = 131 := by decide
        refine wq_bcV (v_X9_closeWith hN U_u_9 ) (fun r92 u_15 U_u_15 G_u_15 p93 => ?_)
        have H_u_15 := H_u_9.call G_u_15 (show ∀ k ∈ [203], k ∈ [3, 4, 5, 6, 7, 203] by decide)
        try dsimp only at p93
        have f94 : (0 : Int32).toInt = 0 := by decide
        exact wq_some.mpr ⟨U_u_15, H_u_15, (show isEnd (cA u_15 203 (cI u_15 4).toNatClampNeg) by first | exact Or.inl (by assumption) | exact Or.inr (Or.inl (by assumption)) | exact Or.inr (Or.inr (by assumption)))⟩
