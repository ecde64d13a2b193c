/-! Going through the text leaves the other side: slots, Items. -/
section Side3
variable {u v w z : RSt} {N s k i : Nat} {P P' : RSt → Prop} {l1 l2 l3 l4 l5 l6 c p x : Int32} {l7 y : Int64} {β α : Type} {Q : β → RSt → Prop}
theorem cbo (h : CB 1 s z ∧ OP s z) : CB 0 s z ∧ OP s z := ⟨cb10 h.1, h.2⟩
theorem sbO {a : Int} : stb (fun w => CB a s w ∧ OP s w) := stb_and stb_CB stb_OP
/-- a slot is put -/
theorem x_as (hs : s < 2) (h : tv s (fun w => CB 1 s w ∧ OP s w) v u) : pp (F_addSlot N l1 l2 l3 l4 l7 u) (fun _ w => tv s (fun w => CB 0 s w ∧ OP s w) v w) := by
  have e1 : (1 : Int32).toInt = 1 := by decide
  have e160 : (160 : Int32).toInt = ((160 : Nat) : Int) := by decide
  have b17 : ∀ c1 : Int32, pp (B_addSlot_17 N l1 l2 l3 l4 l7 c1 u) (fun _ w => tv s (fun w => CB 0 s w ∧ OP s w) v w) := by
    intro c1
    unfold B_addSlot_17
    refine pp_rd (t_bn sbO kl_F_wrong h (fun _ z hz => ?_))
    refine pp_if (fun q => pp_some (tv_m hz cbo)) (fun q => pp_if (fun q2 => ?_) (fun q2 => pp_some (tv_m hz cbo)))
    obtain ⟨cb, op⟩ := hz.2.2 ⟨q, q2⟩
    have n56 := t_in (by omega) hz.2.1
    unfold CB at cb
    obtain ⟨⟨g1, g2⟩, ⟨g3, g4⟩, g5, g6⟩ := cb
    obtain ⟨hi, -⟩ := ix_s e160 (by omega) (by omega) hz.2.1 hs g3 (by omega)
    rw [← n56] at hi
    refine pp_rd (pp_wr (pp_wr (pp_wr (pp_wr (pp_wr (pp_rd (pp_wr (pp_rd (pp_wr (pp_rd (pp_wr (pp_pu (pp_rd (pp_wr (pp_wr (pp_some ?_))))))))))))))))
    have hi : (160 * z.1 56 + z.2.2.1 27 (z.1 56).toNatClampNeg).toNatClampNeg / 160 = s := by rw [n56]; rw [n56] at hi; exact hi
    have op : (z.1 71).toNatClampNeg / 24 = s := op
    have e27 : (z.2.2.1 27 s + 1).toInt = (z.2.2.1 27 s).toInt + 1 := by rw [tI_add (by rw [e1]; omega) (by rw [e1]; omega), e1]
    refine ⟨?_, hz.2.1, fun _ => ⟨?_, op⟩⟩
    · have d1 := sd_A (x := l2) hz.1 (kA_160 (k := 20) (by decide) hi)
      have d2 := sd_A (x := l3) d1 (kA_160 (k := 21) (by decide) hi)
      have d3 := sd_A (x := vp_nar .boolean l4) d2 (kA_160 (k := 22) (by decide) hi)
      have d4 := sd_A (x := z.1 73) d3 (kA_160 (k := 23) (by decide) hi)
      have d5 := sd_B (y := l7) d4 (kB_160 (k := 24) (by decide) hi)
      have d6 := fun b => sd_B (y := b) d5 (kB_160 (k := 25) (by decide) hi)
      have d7 := fun b b2 => sd_B (y := b2) (d6 b) (kB_160 (k := 26) (by decide) hi)
      exact sd_A (sd_A (sd_A (d7 _ _) (kA_1 (by decide) n56)) (kA_24 (by decide) op)) (kA_24 (by decide) op)
    · show (0 ≤ (z.2.2.1 19 s).toInt ∧ (z.2.2.1 19 s).toInt + 0 ≤ (z.1 62).toInt) ∧ (0 ≤ (upd (z.2.2.1 27) (z.1 56).toNatClampNeg (z.2.2.1 27 (z.1 56).toNatClampNeg + 1) s).toInt ∧ (upd (z.2.2.1 27) (z.1 56).toNatClampNeg (z.2.2.1 27 (z.1 56).toNatClampNeg + 1) s).toInt + 0 ≤ (z.1 62).toInt) ∧ (z.1 62).toInt ≤ 160 ∧ _
      rw [n56]
      have eu : upd (z.2.2.1 27) s (z.2.2.1 27 s + 1) s = z.2.2.1 27 s + 1 := if_pos rfl
      rw [eu, e27]
      exact ⟨⟨g1, by omega⟩, ⟨by omega, by omega⟩, g5, g6⟩
  unfold F_addSlot B_addSlot_0
  exact pp_if (fun _ => b17 0) (fun _ => b17 1)
/-- behind a NAME: [ NUMBER ], = Const -/
theorem b_46 {Q : Int32 → RSt → Prop} (hP : stb P) (hz : tv s P v z) (kk : ∀ (a b : Int32) (d : Int64) z, tv s P v z → pp (B_one_150 N l1 l2 l3 l4 a b d z) Q) : pp (B_one_46 N l1 l2 l3 l4 z) Q := by
  have b97 : ∀ (a b : Int32) z, tv s P v z → pp (B_one_97 N l1 l2 l3 l4 a b z) Q := by
    intro a b z hz
    have b135 : ∀ (d : Int64) (c : Int32) z, tv s P v z → pp (B_one_135 N l1 l2 l3 l4 a b d c z) Q := by
      intro d c z hz
      unfold B_one_135
      exact pp_rd (t_bn hP kl_F_wrong hz (fun _ z1 h1 => kk _ _ _ z1 h1))
    unfold B_one_97
    exact t_bn hP kl_F_has hz (fun _ z1 h1 => pp_if (fun _ => kk _ _ _ z1 h1) (fun _ => t_bn hP kl_F_constant h1 (fun _ z2 h2 => pp_if (fun _ => b135 _ _ _ h2) (fun _ => b135 _ _ _ h2))))
  unfold B_one_46
  refine pp_pu (t_bn hP kl_F_is (t_sI hP (by decide) hz) (fun _ z1 h1 => pp_if (fun _ => b97 _ _ _ h1) (fun _ => ?_)))
  exact t_bn hP kl_F_begins h1 (fun _ z2 h2 => t_bn hP kl_F_bounded h2 (fun _ z3 h3 => t_bn hP kl_F_ends h3 (fun _ z4 h4 => b97 _ _ _ h4)))
theorem stA_T : stA (fun _ => True) := fun _ _ _ h => h
theorem x_one0 (hs : s < 2) (h : tv s (CB 0 s) v u) : pp (F_one N l1 l2 0 u) (fun _ w => tv s (CB 0 s) v w) := by
  unfold F_one B_one_0
  refine t_bn stb_CB kl_F_is h (fun _ z1 h1 => pp_if (fun _ => ?_) (fun _ => ?_))
  · exact t_bn stb_CB kl_F_stuck h1 (fun _ z2 h2 => pp_some h2)
  · rw [if_pos rfl]
    refine pp_rd (pp_bn (pp_m (x_tl stA_T (tv_m h1 (fun q => ⟨q, trivial⟩))) (fun _ z2 h2 => ?_)))
    refine b_46 (P := CB 1 s) stb_CB (tv_m h2 (fun q => q.1)) (fun a b d z h => ?_)
    unfold B_one_150
    rw [if_pos rfl]
    exact pp_bn (pp_m (x_av hs h) (fun _ z3 h3 => pp_some h3))
theorem x_one1 (hs : s < 2) (hl : ¬ l3 = 0) (h : tv s (fun w => CB 0 s w ∧ OP s w) v u) : pp (F_one N l1 l2 l3 u) (fun _ w => tv s (fun w => CB 0 s w ∧ OP s w) v w) := by
  unfold F_one B_one_0
  refine t_bn sbO kl_F_is h (fun _ z1 h1 => pp_if (fun _ => ?_) (fun _ => ?_))
  · exact t_bn sbO kl_F_stuck h1 (fun _ z2 h2 => pp_some h2)
  · rw [if_neg hl]
    refine pp_bn (pp_m (x_lc h1) (fun _ z2 h2 => ?_))
    refine b_46 sbO h2 (fun a b d z h => ?_)
    unfold B_one_150
    rw [if_neg hl]
    exact pp_bn (pp_m (x_as hs h) (fun _ z3 h3 => pp_some h3))
theorem x_vars {R : RSt → Prop} (hR : stb R) (h1 : ∀ (a : Int32) z, tv s R v z → pp (F_one N a l1 l2 z) (fun _ w => tv s R v w)) (h : tv s R v u) : pp (F_variables N l1 l2 u) (fun _ w => tv s R v w) := by
  unfold F_variables B_variables_0
  refine pp_pu (t_bn hR kl_F_kind (t_sI hR (by decide) h) (fun r z1 g1 => pp_bn (pp_m (h1 r z1 g1) (fun _ z2 g2 => ?_))))
  have lp : ∀ (M : Nat) z, tv s R v z → pp (LP_variables_22 N M (l1, l2, r, z)) (fun _ w => tv s R v w) := by
    intro M
    induction M with
    | zero => exact fun _ _ _ _ e => nomatch e
    | succ M ih =>
      intro z hz
      show pp (B_variables_22 N (LP_variables_22 N M) l1 l2 r z) _
      unfold B_variables_22
      refine t_bn hR kl_F_has hz (fun _ z3 g3 => pp_if (fun _ => t_bn hR kl_F_take g3 (fun _ z4 g4 => pp_some g4)) (fun _ => pp_bn (pp_m (h1 r z3 g3) (fun _ z4 g4 => ih z4 g4))))
  exact lp N z2 g2
theorem xx_image (hs : s < 2) (h : tv s (CB 0 s) v u) : pp (F_image N l1 u) (fun _ w => tv s (CB 0 s) v w) := by
  unfold F_image B_image_0
  refine pp_pu (t_bn stb_CB kl_F_kind (t_sI stb_CB (by decide) h) (fun r z1 g1 => t_bn stb_CB kl_F_is g1 (fun _ z2 g2 => pp_if (fun _ => ?_) (fun _ => ?_))))
  · exact t_bn stb_CB kl_F_stuck g2 (fun _ z3 g3 => pp_some g3)
  · refine pp_rd (pp_bn (pp_m (x_tl stA_T (tv_m g2 (fun q => ⟨q, trivial⟩))) (fun _ z3 g3 => pp_pu ?_)))
    have g3 : tv s (CB 1 s) v z3 := tv_m g3 (fun q => q.1)
    exact t_bn stb_CB kl_F_take (t_sI stb_CB (by decide) g3) (fun _ z4 g4 => t_bn stb_CB kl_F_bounded g4 (fun _ z5 g5 => t_bn stb_CB kl_F_take g5 (fun _ z6 g6 => pp_bn (pp_m (x_av hs g6) (fun _ z7 g7 => pp_some g7)))))
theorem x_par (hs : s < 2) (h : tv s (fun w => CB 0 s w ∧ OP s w) v u) : pp (F_parameter N u) (fun _ w => tv s (fun w => CB 0 s w ∧ OP s w) v w) := by
  have b62 : ∀ z, tv s (fun w => CB 0 s w ∧ OP s w) v z → pp (B_parameter_62 N z) (fun _ w => tv s (fun w => CB 0 s w ∧ OP s w) v w) := by
    intro z hz
    unfold B_parameter_62
    exact pp_pu (pp_some (t_sI sbO (by decide) hz))
  unfold F_parameter B_parameter_0
  refine t_bn sbO kl_F_kind h (fun r z1 g1 => t_bn sbO kl_F_is g1 (fun _ z2 g2 => pp_if (fun _ => ?_) (fun _ => ?_)))
  · exact t_bn sbO kl_F_stuck g2 (fun _ z3 g3 => pp_some g3)
  · refine pp_bn (pp_m (x_lc g2) (fun _ z3 g3 => pp_bn (pp_m (x_as hs g3) (fun _ z4 g4 => pp_if (fun _ => b62 _ g4) (fun q => pp_if (fun q2 => ?_) (fun _ => b62 _ g4))))))
    have op := (g4.2.2 ⟨q, q2⟩).2
    exact pp_rd (pp_wr (b62 _ ⟨sd_A g4.1 (kA_24 (by decide) op), g4.2.1, g4.2.2⟩))
/-- an instance -/
theorem x_inst (hs : s < 2) (h : tv s (CB 0 s) v u) : pp (F_instance N l1 u) (fun _ w => tv s (CB 0 s) v w) := by
  have e1 : (1 : Int32).toInt = 1 := by decide
  have e24 : (24 : Int32).toInt = ((24 : Nat) : Int) := by decide
  have sX : stA (fun w => ¬ w.2.2.1 42 s = 24) := fun z w h q => by dsimp only at q ⊢; rw [h 42 (by decide)]; exact q
  have b303 : ∀ z, tv s (CB 0 s) v z → pp (B_instance_303 N z) (fun _ w => tv s (CB 0 s) v w) := by
    intro z hz
    unfold B_instance_303
    exact pp_pu (pp_some (t_sI stb_CB (by decide) hz))
  have sbX : stb (fun w => CB 1 s w ∧ ¬ w.2.2.1 42 s = 24) := stb_and stb_CB (stb_A sX)
  have b165 : ∀ (c : Int32) z, tv s (fun w => CB 1 s w ∧ ¬ w.2.2.1 42 s = 24) v z → pp (B_instance_165 N l1 c z) (fun _ w => tv s (CB 0 s) v w) := by
    intro c z hz
    unfold B_instance_165
    refine pp_rd (t_bn sbX kl_F_wrong hz (fun _ z1 g1 => ?_))
    have no := tv_m g1 (fun q => cb10 q.1)
    refine pp_if (fun _ => b303 _ no) (fun q => pp_if (fun q2 => ?_) (fun _ => b303 _ no))
    obtain ⟨cb, n24⟩ := g1.2.2 ⟨q, q2⟩
    have n56 := t_in (by omega) g1.2.1
    unfold CB at cb
    obtain ⟨⟨a1, a2⟩, ⟨a3, a4⟩, a5, a6, a7, ⟨a8, a9⟩, a10⟩ := cb
    have lt24 : (z1.2.2.1 42 s).toInt < ((24 : Nat) : Int) := by
      have : (z1.2.2.1 42 s).toInt ≠ 24 := fun y => n24 (tI_eq.mpr (by rw [y]; decide))
      omega
    obtain ⟨hi, -⟩ := ix_s e24 (by omega) (by omega) g1.2.1 hs a8 lt24
    rw [← n56] at hi
    have hi : (24 * z1.1 56 + z1.2.2.1 42 (z1.1 56).toNatClampNeg).toNatClampNeg / 24 = s := by rw [n56]; rw [n56] at hi; exact hi
    have e42 : (z1.2.2.1 42 s + 1).toInt = (z1.2.2.1 42 s).toInt + 1 := by rw [tI_add (by rw [e1]; omega) (by rw [e1]; omega), e1]
    refine pp_rd (pp_wr (pp_wr (pp_rd (pp_wr (pp_rd (pp_wr (pp_rd (pp_pu (pp_rd (pp_wr (b303 _ ?_)))))))))))
    refine ⟨?_, g1.2.1, fun _ => ?_⟩
    · have d1 := fun b => sd_A (x := b) g1.1 (kA_24 (k := 38) (by decide) hi)
      have d2 := fun b b2 => sd_A (x := b2) (d1 b) (kA_24 (k := 39) (by decide) hi)
      have d3 := fun b b2 b3 => sd_B (y := b3) (d2 b b2) (kB_24 (k := 40) (by decide) hi)
      have d4 := fun b b2 b3 b4 => sd_B (y := b4) (d3 b b2 b3) (kB_24 (k := 41) (by decide) hi)
      exact sd_A (d4 _ _ _ _) (kA_1 (by decide) n56)
    · show (0 ≤ (z1.2.2.1 19 s).toInt ∧ (z1.2.2.1 19 s).toInt + 0 ≤ (z1.1 62).toInt) ∧ (0 ≤ (z1.2.2.1 27 s).toInt ∧ (z1.2.2.1 27 s).toInt + 0 ≤ (z1.1 62).toInt) ∧ (z1.1 62).toInt ≤ 160 ∧ _ ∧ _ ∧ (0 ≤ (upd (z1.2.2.1 42) (z1.1 56).toNatClampNeg (z1.2.2.1 42 (z1.1 56).toNatClampNeg + 1) s).toInt ∧ (upd (z1.2.2.1 42) (z1.1 56).toNatClampNeg (z1.2.2.1 42 (z1.1 56).toNatClampNeg + 1) s).toInt ≤ 24) ∧ _
      rw [n56]
      have eu : upd (z1.2.2.1 42) s (z1.2.2.1 42 s + 1) s = z1.2.2.1 42 s + 1 := if_pos rfl
      rw [eu, e42]
      exact ⟨⟨a1, by omega⟩, ⟨a3, by omega⟩, a5, a6, a7, ⟨by omega, by omega⟩, a10⟩
  have lp : ∀ (M : Nat) (a b : Int32) z, tv s (fun w => CB 1 s w ∧ ¬ w.2.2.1 42 s = 24) v z → pp (LP_instance_50 N M (l1, a, b, z)) (fun _ w => tv s (CB 0 s) v w) := by
    intro M
    induction M with
    | zero => exact fun _ _ _ _ _ _ e => nomatch e
    | succ M ih =>
      intro a b z hz
      show pp (B_instance_50 N (LP_instance_50 N M) l1 a b z) _
      unfold B_instance_50 B_instance_153 B_instance_158
      refine pp_if (fun _ => b165 _ _ hz) (fun _ => pp_if (fun _ => pp_rd (pp_if (fun _ => b165 _ _ hz) (fun _ => ?_))) (fun _ => b165 _ _ hz))
      refine pp_rd (pp_rd (pp_rd (pp_rd (pp_wr ?_))))
      have g := tv_kl sbX hz (fl_sA (k := 64) (i := (z.2.2.1 20 ((160 * z.1 56 + z.2.2.1 28 (24 * z.1 56 + l1).toNatClampNeg) + b).toNatClampNeg).toNatClampNeg) (a := z.2.2.1 64 (z.2.2.1 20 ((160 * z.1 56 + z.2.2.1 28 (24 * z.1 56 + l1).toNatClampNeg) + b).toNatClampNeg).toNatClampNeg + z.2.2.1 21 ((160 * z.1 56 + z.2.2.1 28 (24 * z.1 56 + l1).toNatClampNeg) + b).toNatClampNeg) (by decide) kl_rf)
      exact pp_if (fun _ => pp_rd (pp_rd (pp_if (fun _ => ih _ _ _ g) (fun _ => ih _ _ _ g)))) (fun _ => ih _ _ _ g)
  have b43 : ∀ (c1 c2 c3 : Int32) z, tv s (fun w => CB 0 s w ∧ (c3 = 0 → ¬ w.2.2.1 42 s = 24)) v z → pp (B_instance_43 N l1 c1 c2 c3 z) (fun _ w => tv s (CB 0 s) v w) := by
    intro c1 c2 c3 z hz
    unfold B_instance_43
    refine pp_bn (pp_m (x_tl (X := fun w => c3 = 0 → ¬ w.2.2.1 42 s = 24) (fun z w h q y => by rw [h 42 (by decide)]; exact q y) hz) (fun _ z1 g1 => ?_))
    exact lp N 0 0 z1 (tv_m g1 (fun q => ⟨q.1, q.2.2 q.2.1⟩))
  unfold F_instance B_instance_0
  refine t_bn stb_CB kl_F_is h (fun _ z1 g1 => pp_if (fun _ => ?_) (fun _ => pp_rd (pp_rd ?_)))
  · exact t_bn stb_CB kl_F_stuck g1 (fun _ z3 g3 => pp_some g3)
  · have n56 := t_in (by omega) g1.2.1
    rw [n56]
    exact pp_if (fun q => b43 _ _ _ _ (tv_m g1 (fun c => ⟨c, fun y => absurd y (by decide)⟩))) (fun q => b43 _ _ _ _ (tv_m g1 (fun c => ⟨c, fun _ => q⟩)))
theorem xx_use (hs : s < 2) (h : tv s (CB 0 s) v u) : pp (F_use N u) (fun _ w => tv s (CB 0 s) v w) := by
  have lp : ∀ (M : Nat) (a : Int32) z, tv s (CB 0 s) v z → pp (LP_use_68 N M (a, z)) (fun _ w => tv s (CB 0 s) v w) := by
    intro M
    induction M with
    | zero => exact fun _ _ _ _ _ e => nomatch e
    | succ M ih =>
      intro a z hz
      show pp (B_use_68 N (LP_use_68 N M) a z) _
      unfold B_use_68
      exact t_bn stb_CB kl_F_has hz (fun _ z1 g1 => pp_if (fun _ => t_bn stb_CB kl_F_take g1 (fun _ z2 g2 => pp_some g2)) (fun _ => pp_bn (pp_m (x_inst hs g1) (fun _ z2 g2 => ih a z2 g2))))
  have b40 : ∀ (a c1 : Int32) z, tv s (CB 0 s) v z → pp (B_use_40 N a c1 z) (fun _ w => tv s (CB 0 s) v w) := by
    intro a c1 z hz
    unfold B_use_40
    exact pp_rd (t_bn stb_CB kl_F_wrong hz (fun _ z1 g1 => pp_pu (pp_bn (pp_m (x_inst hs (t_sI stb_CB (by decide) g1)) (fun _ z2 g2 => lp N a z2 g2)))))
  unfold F_use B_use_0
  exact pp_pu (t_bn stb_CB kl_F_is (t_sI stb_CB (by decide) h) (fun _ z1 g1 => pp_if (fun _ => t_bn stb_CB kl_F_stuck g1 (fun _ z3 g3 => pp_some g3)) (fun _ => t_bn stb_CB kl_F_own g1 (fun _ z2 g2 => pp_if (fun _ => b40 _ _ _ g2) (fun _ => b40 _ _ _ g2)))))
end Side3
