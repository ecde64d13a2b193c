/-! Going through the text leaves the other side: blocks, functions, tasks, the whole text. -/
section Side4
variable {u v w z : RSt} {N s k i : Nat} {P P' : RSt → Prop} {l1 l2 l3 l4 l5 l6 c p x : Int32} {l7 y : Int64} {β α : Type} {Q : β → RSt → Prop}
/-- cells 70, 72, 73, 74 -/
theorem tv_70 {j : Nat} {a : Int} (hj : j ∈ [70, 72, 73, 74]) (h : tv s (fun w => CB a s w ∧ OP s w) v z) : tv s (fun w => CB a s w ∧ OP s w) v (sI z j x) := by
  have n : ∀ m, m ∈ [56, 62, 67, 69, 71] → (sI z j x).1 m = z.1 m := fun m hm => by
    rw [sI_1, if_neg (fun q => by rw [q] at hm; simp only [List.mem_cons, List.not_mem_nil, or_false] at hj hm; omega)]
  refine ⟨h.1, by rw [n 56 (by decide)]; exact h.2.1, fun q => ?_⟩
  obtain ⟨c1, c2⟩ := h.2.2 ⟨by rw [← n 69 (by decide)]; exact q.1, by rw [← n 67 (by decide)]; exact q.2⟩
  unfold CB OP at *
  rw [n 62 (by decide), n 71 (by decide)]
  exact ⟨c1, c2⟩
theorem tv_7c {j : Nat} {a : Int} (hj : j ∈ [70, 71, 72, 73, 74]) (h : tv s (CB a s) v z) : tv s (CB a s) v (sI z j x) := by
  have n : ∀ m, m ∈ [56, 62, 67, 69] → (sI z j x).1 m = z.1 m := fun m hm => by
    rw [sI_1, if_neg (fun q => by rw [q] at hm; simp only [List.mem_cons, List.not_mem_nil, or_false] at hj hm; omega)]
  refine ⟨h.1, by rw [n 56 (by decide)]; exact h.2.1, fun q => ?_⟩
  have c1 := h.2.2 ⟨by rw [← n 69 (by decide)]; exact q.1, by rw [← n 67 (by decide)]; exact q.2⟩
  unfold CB at *
  rw [n 62 (by decide)]
  exact c1
/-- the end of a routine -/
theorem b_438 (h : tv s (fun w => CB 0 s w ∧ OP s w) v z) : pp (B_part_438 N l1 l2 z) (fun _ w => tv s (CB 0 s) v w) := by
  unfold B_part_438
  have f : ∀ {z}, tv s (fun w => CB 0 s w ∧ OP s w) v z → tv s (CB 0 s) v (sI z 70 0) := fun h => tv_7c (by decide) (tv_m h (fun q => q.1))
  exact t_bn sbO kl_F_ends h (fun _ z1 g1 => pp_if (fun _ => t_bn sbO kl_F_emit g1 (fun _ z2 g2 => pp_pu (pp_some (f g2)))) (fun _ => t_bn sbO kl_F_push g1 (fun _ z2 g2 => t_bn sbO kl_F_emit g2 (fun _ z3 g3 => pp_pu (pp_some (f g3))))))
theorem b_414 : ∀ (M : Nat) z, tv s (fun w => CB 0 s w ∧ OP s w) v z → pp (LP_part_414 N M (l1, l2, z)) (fun _ w => tv s (CB 0 s) v w) := by
  intro M
  induction M with
  | zero => exact fun _ _ _ _ e => nomatch e
  | succ M ih =>
    intro z hz
    show pp (B_part_414 N (LP_part_414 N M) l1 l2 z) _
    unfold B_part_414
    exact pp_if (fun _ => t_bn sbO kl_F_is hz (fun _ z1 g1 => pp_if (fun _ => t_bn sbO kl_G_stat g1 (fun _ z2 g2 => ih z2 g2)) (fun _ => b_438 g1))) (fun _ => b_438 hz)
theorem b_396 (hs : s < 2) : ∀ (M : Nat) z, tv s (fun w => CB 0 s w ∧ OP s w) v z → pp (LP_part_396 N M (l1, l2, z)) (fun _ w => tv s (CB 0 s) v w) := by
  intro M
  induction M with
  | zero => exact fun _ _ _ _ e => nomatch e
  | succ M ih =>
    intro z hz
    show pp (B_part_396 N (LP_part_396 N M) l1 l2 z) _
    unfold B_part_396
    exact t_bn sbO kl_F_is hz (fun _ z1 g1 => pp_if (fun _ => b_414 N z1 g1) (fun _ => pp_bn (pp_m (x_vars (R := fun w => CB 0 s w ∧ OP s w) sbO (fun a z h => x_one1 hs (by decide) h) g1) (fun _ z2 g2 => ih z2 g2))))
theorem b_355 (hs : s < 2) (h : tv s (fun w => CB 0 s w ∧ OP s w) v z) : pp (B_part_355 N l1 l2 z) (fun _ w => tv s (CB 0 s) v w) := by
  unfold B_part_355
  refine t_bn sbO kl_F_ends h (fun _ z1 g1 => t_bn sbO kl_F_begins g1 (fun _ z2 g2 => pp_if (fun _ => b_396 hs N z2 g2) (fun q => pp_if (fun q2 => ?_) (fun _ => b_396 hs N z2 g2))))
  have op := (g2.2.2 ⟨q, q2⟩).2
  refine t_bn sbO kl_F_here g2 (fun _ z3 g3 => pp_wr (b_396 hs N _ ⟨sd_A g3.1 (kA_24 (by decide) op), g3.2.1, g3.2.2⟩))
theorem b_300 (hs : s < 2) (h : tv s (fun w => CB 0 s w ∧ OP s w) v z) : pp (B_part_300 N l1 l2 z) (fun _ w => tv s (CB 0 s) v w) := by
  have lp : ∀ (M : Nat) z, tv s (fun w => CB 0 s w ∧ OP s w) v z → pp (LP_part_338 N M (l1, l2, z)) (fun _ w => tv s (CB 0 s) v w) := by
    intro M
    induction M with
    | zero => exact fun _ _ _ _ e => nomatch e
    | succ M ih =>
      intro z hz
      show pp (B_part_338 N (LP_part_338 N M) l1 l2 z) _
      unfold B_part_338
      exact t_bn sbO kl_F_has hz (fun _ z1 g1 => pp_if (fun _ => b_355 hs g1) (fun _ => pp_bn (pp_m (x_par hs g1) (fun _ z2 g2 => ih z2 g2))))
  unfold B_part_300
  exact pp_pu (t_bn sbO kl_F_begins (t_sI sbO (by decide) h) (fun _ z1 g1 => pp_if (fun _ => t_bn sbO kl_F_is g1 (fun _ z2 g2 => pp_if (fun _ => pp_bn (pp_m (x_par hs g2) (fun _ z3 g3 => lp N z3 g3))) (fun _ => b_355 hs g2))) (fun _ => b_355 hs g1)))
/-- a block or function begins: its place is 71 -/
theorem b_138 (hs : s < 2) (h : tv s (fun w => CB 1 s w ∧ OP s w ∧ (l1 = 0 → (w.2.2.1 36 s).toInt < 8) ∧ (¬ l1 = 0 → (w.2.2.1 37 s).toInt < 16)) v z) : pp (B_part_138 N l1 l2 c z) (fun _ w => tv s (CB 0 s) v w) := by
  have e1 : (1 : Int32).toInt = 1 := by decide
  unfold B_part_138
  refine pp_pu (pp_rd (pp_pu (pp_pu (pp_pu ?_))))
  obtain ⟨z4, hz4, k1, k2, k3⟩ : ∃ z4, z4 = sI (sI (sI (sI z 70 c) 72 ((sI z 70 c).2.2.1 27 ((sI z 70 c).1 56).toNatClampNeg)) 73 0) 74 0 ∧ (∀ m, m ∈ [56, 62, 67, 69, 71] → z4.1 m = z.1 m) ∧ z4.2.2.1 = z.2.2.1 ∧ z4.2.2.2 = z.2.2.2 := by
    refine ⟨_, rfl, fun m hm => ?_, rfl, rfl⟩
    simp only [List.mem_cons, List.not_mem_nil, or_false] at hm
    rw [sI_1, if_neg (by omega), sI_1, if_neg (by omega), sI_1, if_neg (by omega), sI_1, if_neg (by omega)]
  show pp (if (sI (sI (sI (sI z 70 c) 72 ((sI z 70 c).2.2.1 27 ((sI z 70 c).1 56).toNatClampNeg)) 73 0) 74 0).1 69 = (0 : Int32) then _ else _) _
  rw [← hz4]
  have h4 : tv s (fun w => CB 1 s w ∧ OP s w ∧ (l1 = 0 → (w.2.2.1 36 s).toInt < 8) ∧ (¬ l1 = 0 → (w.2.2.1 37 s).toInt < 16)) v z4 := by
    obtain ⟨a1, a2, a3⟩ := h
    refine ⟨?_, by rw [k1 56 (by decide)]; exact a2, fun q => ?_⟩
    · unfold sd at a1 ⊢
      rw [k2, k3]
      exact a1
    · have := a3 ⟨by rw [← k1 69 (by decide)]; exact q.1, by rw [← k1 67 (by decide)]; exact q.2⟩
      unfold CB OP at *
      dsimp only at this ⊢
      rw [k1 62 (by decide), k1 71 (by decide), k2]
      exact this
  clear hz4 h k1 k2 k3
  have no : tv s (fun w => CB 0 s w ∧ OP s w) v z4 := tv_m h4 (fun q => ⟨cb10 q.1, q.2.1⟩)
  refine pp_if (fun _ => b_300 hs no) (fun q => pp_if (fun q2 => ?_) (fun _ => b_300 hs no))
  obtain ⟨cb, op, c36, c37⟩ := h4.2.2 ⟨q, q2⟩
  have n56 := t_in (by omega) h4.2.1
  have op : (z4.1 71).toNatClampNeg / 24 = s := op
  refine pp_rd (pp_wr (pp_rd (pp_wr (pp_wr (pp_wr (pp_wr (pp_wr (pp_wr ?_))))))))
  have d1 := fun b => sd_B (y := b) h4.1 (kB_24 (k := 34) (by decide) op)
  have d2 := fun b b2 => sd_B (y := b2) (d1 b) (kB_24 (k := 35) (by decide) op)
  have d3 := fun b b2 => sd_A (x := l2) (d2 b b2) (kA_24 (k := 33) (by decide) op)
  have d4 := fun b b2 => sd_A (x := z4.1 72) (d3 b b2) (kA_24 (k := 28) (by decide) op)
  have d5 := fun b b2 => sd_A (x := 0) (d4 b b2) (kA_24 (k := 29) (by decide) op)
  have d6 := fun b b2 => sd_A (x := 0) (d5 b b2) (kA_24 (k := 30) (by decide) op)
  have d7 := fun b b2 => sd_A (x := 0) (d6 b b2) (kA_24 (k := 31) (by decide) op)
  unfold CB at cb
  obtain ⟨⟨g1, g2⟩, ⟨g3, g4⟩, g5, ⟨g6, g7⟩, ⟨g8, g9⟩, g10⟩ := cb
  refine pp_if (fun q3 => pp_rd (pp_wr (b_300 hs ⟨sd_A (d7 _ _) (kA_1 (by decide) n56), h4.2.1, fun _ => ⟨?_, op⟩⟩))) (fun q3 => pp_rd (pp_wr (b_300 hs ⟨sd_A (d7 _ _) (kA_1 (by decide) n56), h4.2.1, fun _ => ⟨?_, op⟩⟩)))
  · have c36 := c36 q3
    have e36 : (z4.2.2.1 36 s + 1).toInt = (z4.2.2.1 36 s).toInt + 1 := by rw [tI_add (by rw [e1]; omega) (by rw [e1]; omega), e1]
    show (0 ≤ (z4.2.2.1 19 s).toInt ∧ (z4.2.2.1 19 s).toInt + 0 ≤ (z4.1 62).toInt) ∧ (0 ≤ (z4.2.2.1 27 s).toInt ∧ (z4.2.2.1 27 s).toInt + 0 ≤ (z4.1 62).toInt) ∧ (z4.1 62).toInt ≤ 160 ∧ (0 ≤ (upd (z4.2.2.1 36) (z4.1 56).toNatClampNeg (z4.2.2.1 36 (z4.1 56).toNatClampNeg + 1) s).toInt ∧ (upd (z4.2.2.1 36) (z4.1 56).toNatClampNeg (z4.2.2.1 36 (z4.1 56).toNatClampNeg + 1) s).toInt ≤ 8) ∧ (0 ≤ (z4.2.2.1 37 s).toInt ∧ (z4.2.2.1 37 s).toInt ≤ 16) ∧ _
    rw [n56]
    have eu : upd (z4.2.2.1 36) s (z4.2.2.1 36 s + 1) s = z4.2.2.1 36 s + 1 := if_pos rfl
    rw [eu, e36]
    exact ⟨⟨g1, by omega⟩, ⟨g3, by omega⟩, g5, ⟨by omega, by omega⟩, ⟨g8, g9⟩, g10⟩
  · have c37 := c37 q3
    have e37 : (z4.2.2.1 37 s + 1).toInt = (z4.2.2.1 37 s).toInt + 1 := by rw [tI_add (by rw [e1]; omega) (by rw [e1]; omega), e1]
    show (0 ≤ (z4.2.2.1 19 s).toInt ∧ (z4.2.2.1 19 s).toInt + 0 ≤ (z4.1 62).toInt) ∧ (0 ≤ (z4.2.2.1 27 s).toInt ∧ (z4.2.2.1 27 s).toInt + 0 ≤ (z4.1 62).toInt) ∧ (z4.1 62).toInt ≤ 160 ∧ (0 ≤ (z4.2.2.1 36 s).toInt ∧ (z4.2.2.1 36 s).toInt ≤ 8) ∧ (0 ≤ (upd (z4.2.2.1 37) (z4.1 56).toNatClampNeg (z4.2.2.1 37 (z4.1 56).toNatClampNeg + 1) s).toInt ∧ (upd (z4.2.2.1 37) (z4.1 56).toNatClampNeg (z4.2.2.1 37 (z4.1 56).toNatClampNeg + 1) s).toInt ≤ 16) ∧ _
    rw [n56]
    have eu : upd (z4.2.2.1 37) s (z4.2.2.1 37 s + 1) s = z4.2.2.1 37 s + 1 := if_pos rfl
    rw [eu, e37]
    exact ⟨⟨g1, by omega⟩, ⟨g3, by omega⟩, g5, ⟨g6, g7⟩, ⟨by omega, by omega⟩, g10⟩
/-- a block or function -/
theorem xx_part (hs : s < 2) (h : tv s (CB 0 s) v u) : pp (F_part N l1 u) (fun _ w => tv s (CB 0 s) v w) := by
  have e8 : (8 : Int32).toInt = 8 := by decide
  have e16 : (16 : Int32).toInt = 16 := by decide
  have e24 : (24 : Int32).toInt = ((24 : Nat) : Int) := by decide
  -- behind the count: x, the row 36 or 37
  have b93 : ∀ (kd x s1 s2 f : Int32) z, tv s (fun w => CB 0 s w ∧ ((l1 = 0 → w.2.2.1 36 s = x) ∧ (¬ l1 = 0 → w.2.2.1 37 s = x)) ∧ (f = 0 → (l1 = 0 → ¬ x = 8) ∧ (¬ l1 = 0 → ¬ x = 16))) v z → pp (B_part_93 N l1 kd x s1 s2 f z) (fun _ w => tv s (CB 0 s) v w) := by
    intro kd x s1 s2 f z hz
    unfold B_part_93
    refine pp_bn (pp_m (x_tl (X := fun w => ((l1 = 0 → w.2.2.1 36 s = x) ∧ (¬ l1 = 0 → w.2.2.1 37 s = x)) ∧ (f = 0 → (l1 = 0 → ¬ x = 8) ∧ (¬ l1 = 0 → ¬ x = 16))) (fun z w h q => by dsimp only at q ⊢; rw [h 36 (by decide), h 37 (by decide)]; exact q) hz) (fun _ z1 g1 => ?_))
    have b125 : ∀ (m : Int32), (aC z1 → m.toNatClampNeg / 24 = s ∧ (l1 = 0 → (z1.2.2.1 36 s).toInt < 8) ∧ (¬ l1 = 0 → (z1.2.2.1 37 s).toInt < 16)) → pp (B_part_125 N l1 kd m z1) (fun _ w => tv s (CB 0 s) v w) := by
      intro m hm
      unfold B_part_125
      have t : tv s (fun w => CB 1 s w ∧ OP s w ∧ (l1 = 0 → (w.2.2.1 36 s).toInt < 8) ∧ (¬ l1 = 0 → (w.2.2.1 37 s).toInt < 16)) v (sI z1 71 m) := ⟨g1.1, g1.2.1, fun q => ⟨(g1.2.2 q).1, (hm q).1, (hm q).2⟩⟩
      exact pp_pu (pp_if (fun _ => b_138 hs t) (fun _ => b_138 hs t))
    have bd : aC z1 → (l1 = 0 → 0 ≤ x.toInt ∧ x.toInt < 8 ∧ (z1.2.2.1 36 s).toInt < 8) ∧ (¬ l1 = 0 → 0 ≤ x.toInt ∧ x.toInt < 16 ∧ (z1.2.2.1 37 s).toInt < 16) := by
      intro q
      obtain ⟨cb, f0, ⟨x1, x2⟩, x3⟩ := g1.2.2 q
      obtain ⟨y1, y2⟩ := x3 f0
      unfold CB at cb
      obtain ⟨-, -, -, ⟨g6, g7⟩, ⟨g8, g9⟩, -⟩ := cb
      refine ⟨fun l => ?_, fun l => ?_⟩
      · rw [← x1 l]
        have : (z1.2.2.1 36 s).toInt ≠ 8 := fun y => y1 l (by rw [← x1 l]; exact tI_eq.mpr (by rw [y, e8]))
        exact ⟨g6, by omega, by omega⟩
      · rw [← x2 l]
        have : (z1.2.2.1 37 s).toInt ≠ 16 := fun y => y2 l (by rw [← x2 l]; exact tI_eq.mpr (by rw [y, e16]))
        exact ⟨g8, by omega, by omega⟩
    refine pp_if (fun l => b125 _ (fun q => ?_)) (fun l => b125 _ (fun q => ?_))
    · obtain ⟨a1, a2, a3⟩ := (bd q).1 l
      exact ⟨(ix_s e24 (by omega) (by omega) g1.2.1 hs a1 (by omega)).1, fun _ => a3, fun y => absurd l y⟩
    · obtain ⟨a1, a2, a3⟩ := (bd q).2 l
      have e88 : (8 + x).toInt = 8 + x.toInt := by rw [tI_add (by rw [e8]; omega) (by rw [e8]; omega), e8]
      have ea : 24 * z1.1 56 + 8 + x = 24 * z1.1 56 + (8 + x) := Int32.add_assoc _ _ _
      refine ⟨?_, fun y => absurd y l, fun _ => a3⟩
      rw [ea]
      exact (ix_s e24 (by omega) (by omega) g1.2.1 hs (by omega) (by omega)).1
  have b22 : ∀ (kd : Int32) z, tv s (CB 0 s) v z → pp (B_part_22 N l1 kd z) (fun _ w => tv s (CB 0 s) v w) := by
    intro kd z hz
    unfold B_part_22
    refine t_bn stb_CB kl_F_is hz (fun _ z1 g1 => pp_if (fun _ => t_bn stb_CB kl_F_stuck g1 (fun _ z3 g3 => pp_some g3)) (fun _ => ?_))
    have n56 := t_in (by omega) g1.2.1
    have b85 : ∀ (x s1 : Int32), ((l1 = 0 → z1.2.2.1 36 s = x) ∧ (¬ l1 = 0 → z1.2.2.1 37 s = x)) → ∀ m : Int32, ((l1 = 0 → m = 8) ∧ (¬ l1 = 0 → m = 16)) → pp (B_part_85 N l1 kd x s1 x x m z1) (fun _ w => tv s (CB 0 s) v w) := by
      intro x s1 hx m hm
      unfold B_part_85
      refine pp_if (fun q => b93 _ _ _ _ _ _ (tv_m g1 (fun cb => ⟨cb, hx, fun y => absurd y (by decide)⟩))) (fun q => b93 _ _ _ _ _ _ (tv_m g1 (fun cb => ⟨cb, hx, fun _ => ⟨fun l => ?_, fun l => ?_⟩⟩)))
      · rw [← hm.1 l]; exact q
      · rw [← hm.2 l]; exact q
    have b61 : ∀ x : Int32, ((l1 = 0 → z1.2.2.1 36 s = x) ∧ (¬ l1 = 0 → z1.2.2.1 37 s = x)) → pp (B_part_61 N l1 kd x z1) (fun _ w => tv s (CB 0 s) v w) := by
      intro x hx
      unfold B_part_61 B_part_72
      exact pp_if (fun l => pp_if (fun _ => b85 _ _ hx _ ⟨fun _ => rfl, fun y => absurd l y⟩) (fun y => absurd l y)) (fun l => pp_if (fun y => absurd y l) (fun _ => b85 _ _ hx _ ⟨fun y => absurd y l, fun _ => rfl⟩))
    refine pp_if (fun l => pp_rd ?_) (fun l => pp_rd ?_)
    · rw [n56]; exact b61 _ ⟨fun _ => rfl, fun y => absurd l y⟩
    · rw [n56]; exact b61 _ ⟨fun y => absurd y l, fun _ => rfl⟩
  unfold F_part B_part_0
  exact pp_pu (pp_if (fun _ => b22 _ _ (t_sI stb_CB (by decide) h)) (fun _ => t_bn stb_CB kl_F_kind (t_sI stb_CB (by decide) h) (fun _ z1 g1 => b22 _ _ g1)))
end Side4
