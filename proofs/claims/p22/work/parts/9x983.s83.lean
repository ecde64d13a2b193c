/-! Going through the text leaves the other side: tasks, the whole text. -/
section Side5
variable {u v w z : RSt} {N s k i : Nat} {P P' : RSt → Prop} {l1 l2 l3 l4 l5 l6 c p x : Int32} {β α : Type} {Q : β → RSt → Prop}
theorem b_213 (h : tv s (CB 0 s) v z) : pp (B_tasked_213 N z) (fun _ w => tv s (CB 0 s) v w) := by
  unfold B_tasked_213
  exact t_bn stb_CB kl_G_body h (fun _ z1 g1 => t_bn stb_CB kl_F_emit g1 (fun _ z2 g2 => pp_pu (pp_some (tv_7c (by decide) g2))))
/-- a task's rows are put -/
theorem b_125 (hs : s < 2) (h : tv s (fun w => CB 1 s w ∧ (w.2.2.1 48 s).toInt < 8 ∧ l1.toNatClampNeg / 8 = s) v z) : pp (B_tasked_125 N l1 l2 l3 l4 z) (fun _ w => tv s (CB 0 s) v w) := by
  have e1 : (1 : Int32).toInt = 1 := by decide
  unfold B_tasked_125
  refine pp_pu (pp_pu ?_)
  have h4 : tv s (fun w => CB 1 s w ∧ (w.2.2.1 48 s).toInt < 8 ∧ l1.toNatClampNeg / 8 = s) v (sI (sI z 70 1) 74 0) := ⟨h.1, h.2.1, fun q => h.2.2 q⟩
  generalize sI (sI z 70 1) 74 0 = z4 at h4 ⊢
  have no : tv s (CB 0 s) v z4 := tv_m h4 (fun q => cb10 q.1)
  refine pp_if (fun _ => b_213 no) (fun q => pp_if (fun q2 => ?_) (fun _ => b_213 no))
  obtain ⟨cb, c48, hi⟩ := h4.2.2 ⟨q, q2⟩
  have sb : stb (fun w => CB 1 s w ∧ (w.2.2.1 48 s).toInt < 8) := stb_and stb_CB (stb_A (fun z w h q => by rw [h 48 (by decide)]; exact q))
  refine pp_wr (pp_wr ?_)
  have t6 : tv s (fun w => CB 1 s w ∧ (w.2.2.1 48 s).toInt < 8) v (sA (sA z4 43 l1.toNatClampNeg l3) 44 l1.toNatClampNeg l4) := ⟨sd_A (sd_A h4.1 (kA_8 (by decide) hi)) (kA_8 (by decide) hi), h4.2.1, fun _ => ⟨cb, c48⟩⟩
  refine t_bn sb kl_F_here t6 (fun r z7 g7 => pp_wr (pp_rd (pp_wr (pp_rd (pp_wr (pp_rd (pp_wr (b_213 ?_))))))))
  have n56 := t_in (by omega) g7.2.1
  have d1 := fun b => sd_A (x := b) g7.1 (kA_8 (k := 45) (by decide) hi)
  have d2 := fun b b2 => sd_B (y := b2) (d1 b) (kB_8 (k := 46) (by decide) hi)
  have d3 := fun b b2 b3 => sd_B (y := b3) (d2 b b2) (kB_8 (k := 47) (by decide) hi)
  refine ⟨sd_A (d3 _ _ _) (kA_1 (by decide) n56), g7.2.1, fun q7 => ?_⟩
  obtain ⟨cb, c48⟩ := g7.2.2 q7
  unfold CB at cb
  obtain ⟨⟨g1, g2⟩, ⟨g3, g4⟩, g5, g6, g8, g9, ⟨g10, g11⟩⟩ := cb
  have e48 : (z7.2.2.1 48 s + 1).toInt = (z7.2.2.1 48 s).toInt + 1 := by rw [tI_add (by rw [e1]; omega) (by rw [e1]; omega), e1]
  show (0 ≤ (z7.2.2.1 19 s).toInt ∧ (z7.2.2.1 19 s).toInt + 0 ≤ (z7.1 62).toInt) ∧ (0 ≤ (z7.2.2.1 27 s).toInt ∧ (z7.2.2.1 27 s).toInt + 0 ≤ (z7.1 62).toInt) ∧ (z7.1 62).toInt ≤ 160 ∧ _ ∧ _ ∧ _ ∧ (0 ≤ (upd (z7.2.2.1 48) (z7.1 56).toNatClampNeg (z7.2.2.1 48 (z7.1 56).toNatClampNeg + 1) s).toInt ∧ (upd (z7.2.2.1 48) (z7.1 56).toNatClampNeg (z7.2.2.1 48 (z7.1 56).toNatClampNeg + 1) s).toInt ≤ 8)
  rw [n56]
  have eu : upd (z7.2.2.1 48) s (z7.2.2.1 48 s + 1) s = z7.2.2.1 48 s + 1 := if_pos rfl
  rw [eu, e48]
  exact ⟨⟨g1, by omega⟩, ⟨g3, by omega⟩, g5, g6, g8, g9, ⟨by omega, by omega⟩⟩
theorem xx_task (hs : s < 2) (h : tv s (CB 0 s) v u) : pp (F_tasked N u) (fun _ w => tv s (CB 0 s) v w) := by
  have e8 : (8 : Int32).toInt = ((8 : Nat) : Int) := by decide
  have b53 : ∀ (c1 c2 f : Int32) z, tv s (fun w => CB 0 s w ∧ (f = 0 → ¬ w.2.2.1 48 s = 8)) v z → pp (B_tasked_53 N c1 c2 f z) (fun _ w => tv s (CB 0 s) v w) := by
    intro c1 c2 f z hz
    unfold B_tasked_53
    refine pp_bn (pp_m (x_tl (X := fun w => f = 0 → ¬ w.2.2.1 48 s = 8) (fun z w h q y => by rw [h 48 (by decide)]; exact q y) hz) (fun _ z1 g1 => pp_rd (pp_pu ?_)))
    have n56 := t_in (by omega) g1.2.1
    rw [n56]
    have g2 : tv s (fun w => CB 1 s w ∧ (w.2.2.1 48 s).toInt < 8 ∧ (8 * z1.1 56 + z1.2.2.1 48 s).toNatClampNeg / 8 = s) v z1 := by
      refine ⟨g1.1, g1.2.1, fun q => ?_⟩
      obtain ⟨cb, f0, x3⟩ := g1.2.2 q
      have cb' := cb
      unfold CB at cb'
      obtain ⟨-, -, -, -, -, -, ⟨a1, a2⟩⟩ := cb'
      have lt : (z1.2.2.1 48 s).toInt < ((8 : Nat) : Int) := by
        have : (z1.2.2.1 48 s).toInt ≠ 8 := fun y => x3 f0 (tI_eq.mpr (by rw [y]; decide))
        omega
      exact ⟨cb, by omega, (ix_s e8 (by omega) (by omega) g1.2.1 hs a1 lt).1⟩
    have sb : stb (fun w => CB 1 s w ∧ (w.2.2.1 48 s).toInt < 8 ∧ (8 * z1.1 56 + z1.2.2.1 48 s).toNatClampNeg / 8 = s) := stb_and stb_CB (stb_and (stb_A (fun z w h q => by rw [h 48 (by decide)]; exact q)) stb_c)
    exact t_bn sb kl_F_take (t_sI sb (by decide) g2) (fun _ z3 g3 => t_bn sb kl_F_bounded g3 (fun _ z4 g4 => t_bn sb kl_F_has g4 (fun _ z5 g5 => pp_if (fun _ => b_125 hs g5) (fun _ => t_bn sb kl_F_bounded g5 (fun _ z6 g6 => b_125 hs g6)))))
  unfold F_tasked B_tasked_0
  refine pp_pu (t_bn stb_CB kl_F_is (t_sI stb_CB (by decide) h) (fun _ z1 g1 => pp_if (fun _ => t_bn stb_CB kl_F_stuck g1 (fun _ z3 g3 => pp_some g3)) (fun _ => pp_rd (pp_rd ?_))))
  have n56 := t_in (by omega) g1.2.1
  rw [n56]
  exact pp_if (fun q => b53 _ _ _ _ (tv_m g1 (fun c => ⟨c, fun y => absurd y (by decide)⟩))) (fun q => b53 _ _ _ _ (tv_m g1 (fun c => ⟨c, fun _ => q⟩)))
/-- the text -/
theorem xx_text (hs : s < 2) : ∀ (M : Nat) z, tv s (CB 0 s) v z → pp (LP_text_0 N M z) (fun _ w => tv s (CB 0 s) v w) := by
  intro M
  induction M with
  | zero => exact fun _ _ _ _ e => nomatch e
  | succ M ih =>
    intro z hz
    show pp (B_text_0 N (LP_text_0 N M) z) _
    unfold B_text_0
    refine pp_if (fun _ => t_bn stb_CB kl_F_is hz (fun _ z1 g1 => pp_if (fun _ => pp_rd ?_) (fun _ => pp_some g1))) (fun _ => pp_some hz)
    have go : ∀ {X : Option (Int32 × RSt)}, pp X (fun _ w => tv s (CB 0 s) v w) → pp (bn X fun _ u_8 => LP_text_0 N M u_8) (fun _ w => tv s (CB 0 s) v w) := fun hX => pp_bn (pp_m hX (fun _ z2 g2 => ih z2 g2))
    have vs : ∀ a : Int32, pp (F_variables N a 0 z1) (fun _ w => tv s (CB 0 s) v w) := fun a => x_vars stb_CB (fun b z h => x_one0 hs h) g1
    exact pp_if (fun _ => go (vs 0)) (fun _ => pp_if (fun _ => go (vs 1)) (fun _ => pp_if (fun _ => go (xx_image hs g1)) (fun _ => pp_if (fun _ => go (xx_image hs g1)) (fun _ => pp_if (fun _ => go (xx_part hs g1)) (fun _ => pp_if (fun _ => go (xx_use hs g1)) (fun _ => pp_if (fun _ => go (xx_part hs g1)) (fun _ => pp_if (fun _ => go (xx_task hs g1)) (fun _ => t_bn stb_CB kl_F_stuck g1 (fun _ z2 g2 => ih z2 g2)))))))))
end Side5
