/-! Going through the text leaves the other side of the reference's tables. -/
def aC (u : RSt) : Prop := ¬ u.1 69 = 0 ∧ u.1 67 = 0
/-- rows of the other side -/
def sd (s : Nat) (u w : RSt) : Prop := (∀ k, k ∈ [10, 11, 12, 13, 14, 15, 20, 21, 22, 23] → ∀ j, j / 160 ≠ s → w.2.2.1 k j = u.2.2.1 k j) ∧ (∀ k, k ∈ [28, 29, 30, 31, 32, 33, 38, 39] → ∀ j, j / 24 ≠ s → w.2.2.1 k j = u.2.2.1 k j) ∧ (∀ k, k ∈ [43, 44, 45] → ∀ j, j / 8 ≠ s → w.2.2.1 k j = u.2.2.1 k j) ∧ (∀ k, k ∈ [19, 27, 36, 37, 42, 48] → ∀ j, j ≠ s → w.2.2.1 k j = u.2.2.1 k j) ∧ (∀ k, k ∈ [16, 17, 18, 24, 25, 26] → ∀ j, j / 160 ≠ s → w.2.2.2 k j = u.2.2.2 k j) ∧ (∀ k, k ∈ [34, 35, 40, 41] → ∀ j, j / 24 ≠ s → w.2.2.2 k j = u.2.2.2 k j) ∧ (∀ k, k ∈ [46, 47] → ∀ j, j / 8 ≠ s → w.2.2.2 k j = u.2.2.2 k j)
/-- counts in their limits: a names told but not put yet -/
def CB (a : Int) (s : Nat) (u : RSt) : Prop := (0 ≤ (u.2.2.1 19 s).toInt ∧ (u.2.2.1 19 s).toInt + a ≤ (u.1 62).toInt) ∧ (0 ≤ (u.2.2.1 27 s).toInt ∧ (u.2.2.1 27 s).toInt + a ≤ (u.1 62).toInt) ∧ (u.1 62).toInt ≤ 160 ∧ (0 ≤ (u.2.2.1 36 s).toInt ∧ (u.2.2.1 36 s).toInt ≤ 8) ∧ (0 ≤ (u.2.2.1 37 s).toInt ∧ (u.2.2.1 37 s).toInt ≤ 16) ∧ (0 ≤ (u.2.2.1 42 s).toInt ∧ (u.2.2.1 42 s).toInt ≤ 24) ∧ (0 ≤ (u.2.2.1 48 s).toInt ∧ (u.2.2.1 48 s).toInt ≤ 8)
def OP (s : Nat) (u : RSt) : Prop := (u.1 71).toNatClampNeg / 24 = s
def tv (s : Nat) (P : RSt → Prop) (u z : RSt) : Prop := sd s u z ∧ (z.1 56).toInt = (s : Int) ∧ (aC z → P z)
def stb (P : RSt → Prop) : Prop := ∀ z w, kl z w → P z → P w
section Side
variable {u v w z : RSt} {N s : Nat} {a : Int} {P P' : RSt → Prop} {l1 l2 l3 l4 l5 l6 c p : Int32} {β α : Type} {Q : β → RSt → Prop}
theorem sd_rf : sd s u u := ⟨fun _ _ _ _ => rfl, fun _ _ _ _ => rfl, fun _ _ _ _ => rfl, fun _ _ _ _ => rfl, fun _ _ _ _ => rfl, fun _ _ _ _ => rfl, fun _ _ _ _ => rfl⟩
theorem sd_tr (h : sd s u v) (g : sd s v w) : sd s u w := ⟨fun k hk j hj => (g.1 k hk j hj).trans (h.1 k hk j hj), fun k hk j hj => (g.2.1 k hk j hj).trans (h.2.1 k hk j hj), fun k hk j hj => (g.2.2.1 k hk j hj).trans (h.2.2.1 k hk j hj), fun k hk j hj => (g.2.2.2.1 k hk j hj).trans (h.2.2.2.1 k hk j hj), fun k hk j hj => (g.2.2.2.2.1 k hk j hj).trans (h.2.2.2.2.1 k hk j hj), fun k hk j hj => (g.2.2.2.2.2.1 k hk j hj).trans (h.2.2.2.2.2.1 k hk j hj), fun k hk j hj => (g.2.2.2.2.2.2 k hk j hj).trans (h.2.2.2.2.2.2 k hk j hj)⟩
theorem sd_kl (h : kl u w) : sd s u w := by
  have a1 : ∀ k, k ∈ [10, 11, 12, 13, 14, 15, 20, 21, 22, 23] → k ∈ lA := by decide
  have a2 : ∀ k, k ∈ [28, 29, 30, 31, 32, 33, 38, 39] → k ∈ lA := by decide
  have a3 : ∀ k, k ∈ [43, 44, 45] → k ∈ lA := by decide
  have a4 : ∀ k, k ∈ [19, 27, 36, 37, 42, 48] → k ∈ lA := by decide
  have b1 : ∀ k, k ∈ [16, 17, 18, 24, 25, 26] → k ∈ lB := by decide
  have b2 : ∀ k, k ∈ [34, 35, 40, 41] → k ∈ lB := by decide
  have b3 : ∀ k, k ∈ [46, 47] → k ∈ lB := by decide
  exact ⟨fun k hk j _ => by rw [h.2.1 k (a1 k hk)], fun k hk j _ => by rw [h.2.1 k (a2 k hk)], fun k hk j _ => by rw [h.2.1 k (a3 k hk)], fun k hk j _ => by rw [h.2.1 k (a4 k hk)], fun k hk j _ => by rw [h.2.2.1 k (b1 k hk)], fun k hk j _ => by rw [h.2.2.1 k (b2 k hk)], fun k hk j _ => by rw [h.2.2.1 k (b3 k hk)]⟩
theorem sd_rw (hA : ∀ k, k ∈ lA → w.2.2.1 k = u.2.2.1 k) (hB : ∀ k, k ∈ lB → w.2.2.2 k = u.2.2.2 k) : sd s u w := by
  have a1 : ∀ k, k ∈ [10, 11, 12, 13, 14, 15, 20, 21, 22, 23] → k ∈ lA := by decide
  have a2 : ∀ k, k ∈ [28, 29, 30, 31, 32, 33, 38, 39] → k ∈ lA := by decide
  have a3 : ∀ k, k ∈ [43, 44, 45] → k ∈ lA := by decide
  have a4 : ∀ k, k ∈ [19, 27, 36, 37, 42, 48] → k ∈ lA := by decide
  have b1 : ∀ k, k ∈ [16, 17, 18, 24, 25, 26] → k ∈ lB := by decide
  have b2 : ∀ k, k ∈ [34, 35, 40, 41] → k ∈ lB := by decide
  have b3 : ∀ k, k ∈ [46, 47] → k ∈ lB := by decide
  exact ⟨fun k hk j _ => by rw [hA k (a1 k hk)], fun k hk j _ => by rw [hA k (a2 k hk)], fun k hk j _ => by rw [hA k (a3 k hk)], fun k hk j _ => by rw [hA k (a4 k hk)], fun k hk j _ => by rw [hB k (b1 k hk)], fun k hk j _ => by rw [hB k (b2 k hk)], fun k hk j _ => by rw [hB k (b3 k hk)]⟩
theorem aC_kl (h : kl u w) (ha : aC w) : aC u := ⟨by rw [← h.1 69 (by decide)]; exact ha.1, Classical.byContradiction (fun q => h.2.2.2 q ha.2)⟩
theorem stb_CB : stb (CB a s) := by
  intro z w h hP
  unfold CB at hP ⊢
  rw [h.1 62 (by decide), h.2.1 19 (by decide), h.2.1 27 (by decide), h.2.1 36 (by decide), h.2.1 37 (by decide), h.2.1 42 (by decide), h.2.1 48 (by decide)]
  exact hP
theorem stb_OP : stb (OP s) := by
  intro z w h hP
  unfold OP at hP ⊢
  rw [h.1 71 (by decide)]
  exact hP
theorem stb_and (h : stb P) (h2 : stb P') : stb (fun u => P u ∧ P' u) := fun z w k q => ⟨h z w k q.1, h2 z w k q.2⟩
theorem stb_c {X : Prop} : stb (fun _ => X) := fun _ _ _ h => h
theorem tv_kl (hP : stb P) (h : tv s P u z) (hk : kl z w) : tv s P u w := ⟨sd_tr h.1 (sd_kl hk), by rw [hk.1 56 (by decide)]; exact h.2.1, fun q => hP z w hk (h.2.2 (aC_kl hk q))⟩
theorem tv_m (h : tv s P u z) (hq : P z → P' z) : tv s P' u z := ⟨h.1, h.2.1, fun q => hq (h.2.2 q)⟩
theorem t_bn {x : Option (α × RSt)} {k : α → RSt → Option (β × RSt)} (hP : stb P) (hx : KL x z) (h : tv s P u z) (kk : ∀ r w, tv s P u w → pp (k r w) Q) : pp (bn x k) Q := pp_bn (pp_m hx.p (fun r w hw => kk r w (tv_kl hP h hw)))
theorem t_sI {k : Nat} {y : Int32} (hP : stb P) (hk : k ∉ lI ∧ k ≠ 67) (h : tv s P u z) : tv s P u (sI z k y) := tv_kl hP h (fl_sI hk kl_rf)
theorem t_in (h : (s : Int) < 2) (h56 : (z.1 56).toInt = (s : Int)) : (z.1 56).toNatClampNeg = s := by show (z.1 56).toInt.toNat = s; omega
/-- FAULTs -/
theorem wrx (hc : ¬ c = 0) : pp (F_wrong N l1 c p u) (fun _ w => kl u w ∧ (¬ l1 = 0 → ¬ aC w)) := by
  refine pp_and kl_F_wrong.p ?_
  unfold F_wrong B_wrong_0
  refine pp_if (fun q => pp_some (fun h => absurd q h)) (fun q => pp_if (fun q2 => pp_some (fun _ h => h.1 q2)) (fun q2 => ?_))
  unfold F_bad B_bad_0
  refine pp_bn (pp_if (fun q3 => pp_pu (pp_pu (pp_some (pp_some (fun _ h => hc h.2))))) (fun q3 => pp_some (pp_some (fun _ h => q3 h.2))))
/-- what hangs on the rows of the tables alone -/
def stA (X : RSt → Prop) : Prop := ∀ z w : RSt, (∀ k, k ∈ lA → w.2.2.1 k = z.2.2.1 k) → X z → X w
theorem stb_A {X : RSt → Prop} (h : stA X) : stb X := fun z w k q => h z w k.2.1 q
/-- a name is told -/
theorem x_tl {X : RSt → Prop} (hX : stA X) (h : tv s (fun w => CB 0 s w ∧ X w) v u) : pp (F_telling N l1 l2 l3 u) (fun _ w => tv s (fun w => CB 1 s w ∧ l3 = 0 ∧ X w) v w) := by
  have sb : stb (fun w => CB 0 s w ∧ X w) := stb_and stb_CB (stb_A hX)
  have e1 : (1 : Int32).toInt = 1 := by decide
  have e160 : (160 : Int32).toInt = 160 := by decide
  have b65 : ∀ (c1 : Int32) (z : RSt), tv s (fun w => CB 0 s w ∧ X w) v z → (aC z → c1 = 0 → l3 = 0 ∧ ¬ z.1 62 = 160) → pp (B_telling_65 N l1 l2 c1 z) (fun _ w => tv s (fun w => CB 1 s w ∧ l3 = 0 ∧ X w) v w) := by
    intro c1 z hz hf
    unfold B_telling_65
    refine pp_rd (pp_bn (pp_m (wrx (by decide)) (fun _ z3 h3 => ?_)))
    have t3 := tv_kl sb hz h3.1
    have no : ¬ aC z3 → tv s (fun w => CB 1 s w ∧ l3 = 0 ∧ X w) v z3 := fun q => ⟨t3.1, t3.2.1, fun a => absurd a q⟩
    refine pp_if (fun q => pp_some (no (fun a => a.1 q))) (fun q => pp_if (fun q2 => ?_) (fun q2 => pp_some (no (fun a => q2 a.2))))
    have act : aC z3 := ⟨q, q2⟩
    have c0 : c1 = 0 := Classical.byContradiction (fun y => h3.2 y act)
    obtain ⟨f1, f2⟩ := hf (aC_kl h3.1 act) c0
    have f2 : ¬ z3.1 62 = 160 := by rw [h3.1.1 62 (by decide)]; exact f2
    obtain ⟨cb, x3⟩ := t3.2.2 act
    unfold CB at cb
    obtain ⟨⟨g1, g2⟩, ⟨g3, g4⟩, g5, g6⟩ := cb
    have g7 : (z3.1 62).toInt ≠ 160 := fun y => f2 (tI_eq.mpr (by rw [y, e160]))
    have e62 : (z3.1 62 + 1).toInt = (z3.1 62).toInt + 1 := by rw [tI_add (by rw [e1]; omega) (by rw [e1]; omega), e1]
    refine pp_pu (pp_rd (pp_wr (pp_rd (pp_wr (pp_wr (pp_wr (pp_pu (pp_some ?_))))))))
    refine ⟨sd_tr t3.1 (sd_rw (fun k hk => ?_) (fun k hk => ?_)), t3.2.1, fun _ => ⟨?_, f1, hX z3 _ (fun k hk => ?_) x3⟩⟩
    · show (if k = 60 then _ else if k = 59 then _ else z3.2.2.1 k) = _
      rw [if_neg (fun y => by rw [y] at hk; exact absurd hk (by decide)), if_neg (fun y => by rw [y] at hk; exact absurd hk (by decide))]
    · show (if k = 58 then _ else if k = 57 then _ else z3.2.2.2 k) = _
      rw [if_neg (fun y => by rw [y] at hk; exact absurd hk (by decide)), if_neg (fun y => by rw [y] at hk; exact absurd hk (by decide))]
    · skip
      show CB 1 s (sI (sA (sA (sB (sB (sI z3 62 (z3.1 62 + 1)) 57 _ _) 58 _ _) 59 _ _) 60 _ _) 61 _)
      unfold CB
      show (0 ≤ (z3.2.2.1 19 s).toInt ∧ (z3.2.2.1 19 s).toInt + 1 ≤ (z3.1 62 + 1).toInt) ∧ (0 ≤ (z3.2.2.1 27 s).toInt ∧ (z3.2.2.1 27 s).toInt + 1 ≤ (z3.1 62 + 1).toInt) ∧ (z3.1 62 + 1).toInt ≤ 160 ∧ _
      rw [e62]
      exact ⟨⟨g1, by omega⟩, ⟨g3, by omega⟩, by omega, g6⟩
    · show (if k = 60 then _ else if k = 59 then _ else z3.2.2.1 k) = _
      rw [if_neg (fun y => by rw [y] at hk; exact absurd hk (by decide)), if_neg (fun y => by rw [y] at hk; exact absurd hk (by decide))]
  have b32 : ∀ (c1 : Int32) (z : RSt), tv s (fun w => CB 0 s w ∧ X w) v z → pp (B_telling_32 N l1 l2 l3 c1 z) (fun _ w => tv s (fun w => CB 1 s w ∧ l3 = 0 ∧ X w) v w) := by
    intro c1 z hz
    unfold B_telling_32 B_telling_60
    refine pp_rd (pp_bn (pp_m (wrx (by decide)) (fun _ z3 h3 => ?_)))
    have t3 := tv_kl sb hz h3.1
    refine pp_if (fun q => b65 1 z3 t3 (fun _ y => absurd y (by decide))) (fun q => pp_if (fun q2 => b65 0 z3 t3 (fun _ _ => ⟨q2, q⟩)) (fun q2 => b65 1 z3 t3 (fun _ y => absurd y (by decide))))
  unfold F_telling B_telling_0
  exact pp_rd (pp_rd (t_bn sb kl_F_named h (fun _ z hz => pp_if (fun _ => b32 _ _ hz) (fun _ => b32 _ _ hz))))
/-- a parameter or local is told -/
theorem x_lc (h : tv s (fun w => CB 0 s w ∧ OP s w) v u) : pp (F_local N l1 u) (fun _ w => tv s (fun w => CB 1 s w ∧ OP s w) v w) := by
  have e1 : (1 : Int32).toInt = 1 := by decide
  have e160 : (160 : Int32).toInt = 160 := by decide
  have sb : stb (fun w => CB 0 s w ∧ OP s w) := stb_and stb_CB stb_OP
  have b86 : ∀ (c1 : Int32) (z : RSt), tv s (fun w => CB 0 s w ∧ OP s w) v z → (aC z → c1 = 0 → ¬ z.1 62 = 160) → pp (B_local_86 N c1 z) (fun _ w => tv s (fun w => CB 1 s w ∧ OP s w) v w) := by
    intro c1 z hz hf
    unfold B_local_86
    refine pp_rd (pp_bn (pp_m (wrx (by decide)) (fun _ z3 h3 => ?_)))
    have t3 := tv_kl sb hz h3.1
    have no : ¬ aC z3 → tv s (fun w => CB 1 s w ∧ OP s w) v z3 := fun q => ⟨t3.1, t3.2.1, fun a => absurd a q⟩
    refine pp_if (fun q => pp_some (no (fun a => a.1 q))) (fun q => pp_if (fun q2 => ?_) (fun q2 => pp_some (no (fun a => q2 a.2))))
    have act : aC z3 := ⟨q, q2⟩
    have c0 : c1 = 0 := Classical.byContradiction (fun y => h3.2 y act)
    have f2 := hf (aC_kl h3.1 act) c0
    have f2 : ¬ z3.1 62 = 160 := by rw [h3.1.1 62 (by decide)]; exact f2
    obtain ⟨cb, op⟩ := t3.2.2 act
    unfold CB at cb
    obtain ⟨⟨g1, g2⟩, ⟨g3, g4⟩, g5, g6⟩ := cb
    have g7 : (z3.1 62).toInt ≠ 160 := fun y => f2 (tI_eq.mpr (by rw [y, e160]))
    have e62 : (z3.1 62 + 1).toInt = (z3.1 62).toInt + 1 := by rw [tI_add (by rw [e1]; omega) (by rw [e1]; omega), e1]
    refine pp_pu (pp_some ⟨t3.1, t3.2.1, fun _ => ⟨?_, op⟩⟩)
    show CB 1 s (sI z3 62 (z3.1 62 + 1))
    unfold CB
    show (0 ≤ (z3.2.2.1 19 s).toInt ∧ (z3.2.2.1 19 s).toInt + 1 ≤ (z3.1 62 + 1).toInt) ∧ (0 ≤ (z3.2.2.1 27 s).toInt ∧ (z3.2.2.1 27 s).toInt + 1 ≤ (z3.1 62 + 1).toInt) ∧ (z3.1 62 + 1).toInt ≤ 160 ∧ _
    rw [e62]
    exact ⟨⟨g1, by omega⟩, ⟨g3, by omega⟩, by omega, g6⟩
  have b32 : ∀ (c1 : Int32) (z : RSt), tv s (fun w => CB 0 s w ∧ OP s w) v z → pp (B_local_32 N l1 c1 z) (fun _ w => tv s (fun w => CB 1 s w ∧ OP s w) v w) := by
    intro c1 z hz
    unfold B_local_32 B_local_81 B_local_85
    refine pp_rd (pp_bn (pp_m (wrx (by decide)) (fun _ z3 h3 => ?_)))
    have t3 := tv_kl sb hz h3.1
    have y1 := b86 1 z3 t3 (fun _ y => absurd y (by decide))
    refine pp_if (fun q => y1) (fun q => ?_)
    have y0 := b86 0 z3 t3 (fun _ _ => q)
    exact pp_if (fun _ => y0) (fun _ => pp_if (fun _ => y0) (fun _ => pp_rd (pp_if (fun _ => y1) (fun _ => y0))))
  unfold F_local B_local_0
  exact pp_rd (pp_rd (t_bn sb kl_F_slotOf h (fun _ z hz => pp_if (fun _ => b32 _ _ hz) (fun _ => b32 _ _ hz))))
end Side
