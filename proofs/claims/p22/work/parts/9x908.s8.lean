/-! The reference's first pass: statements. -/
theorem oW_S {c : Nat → Prop} {A B C : Rl} {i : Nat} {q : Sum Nat Nat} (h : oW c A (oS B C) i q) : oS (oW c A B) C i q := by
  obtain ⟨m, h⟩ := h
  induction m generalizing i with
  | zero =>
    obtain ⟨z1, ⟨j, d1, d2⟩ | ⟨p, d1, d2⟩⟩ := h
    · exact Or.inl ⟨j, oW_0 z1 d1, d2⟩
    · exact Or.inr ⟨p, oW_0 z1 d1, d2⟩
  | succ m ihm =>
    obtain ⟨z1, ⟨j, d1, d2⟩ | ⟨p, d1, d2⟩⟩ := h
    · rcases ihm d2 with ⟨j2, d3, d4⟩ | ⟨p, d3, d4⟩
      · exact Or.inl ⟨j2, oW_s z1 (Or.inl ⟨j, d1, d3⟩), d4⟩
      · exact Or.inr ⟨p, oW_s z1 (Or.inl ⟨j, d1, d3⟩), d4⟩
    · exact Or.inr ⟨p, oW_s z1 (Or.inr ⟨p, d1, rfl⟩), d2⟩
theorem oS_as {A B C : Rl} {i : Nat} {q : Sum Nat Nat} (h : oS A (oS B C) i q) : oS (oS A B) C i q := by
  rcases h with ⟨j, d1, ⟨j2, d2, d3⟩ | ⟨p, d2, d3⟩⟩ | ⟨p, d1, d2⟩
  · exact Or.inl ⟨j2, Or.inl ⟨j, d1, d2⟩, d3⟩
  · exact Or.inr ⟨p, Or.inl ⟨j, d1, d2⟩, d3⟩
  · exact Or.inr ⟨p, Or.inr ⟨p, d1, rfl⟩, d2⟩
theorem oS_E {A : Rl} {i : Nat} {q : Sum Nat Nat} (h : oS A oE i q) : A i q := by
  rcases h with ⟨j, d1, d2⟩ | ⟨p, d1, d2⟩
  · cases d2; exact d1
  · cases d2; exact d1
def asgB (t : Int32) : Bool := t = 61 || !(F_X9_assigned 0 t = some (-1))
theorem asgB_iff (t : Int32) : isAsg t ↔ asgB t = true := by
  obtain ⟨s, hs, -⟩ := g_assigned (N := 0) t
  unfold isAsg asgB
  simp only [hs, Option.some.injEq, Bool.or_eq_true, decide_eq_true_eq, Bool.not_eq_true', decide_eq_false_iff_not]
  constructor
  · rintro (h | ⟨s2, e, n⟩)
    · exact Or.inl h
    · exact Or.inr (fun q => n (e.symm.trans q))
  · rintro (h | h)
    · exact Or.inl h
    · exact Or.inr ⟨s, rfl, h⟩
section RSt1
variable {ty ts ta : Nat → Int32} {N n i o : Nat} {u : RSt} {β : Type} {Q : β → RSt → Prop}
theorem r_named {k : Int32 → RSt → Option (β × RSt)} {a b : Int64} (kk : ∀ r, pp (k r u) Q) : pp (bn (F_named N a b u) k) Q := by
  have loop : ∀ (M : Nat) (x : Int64 × Int64 × Int32 × RSt), x.2.2.2 = u → pp (LP_named_3 N M x) (fun _ w => w = u) := by
    refine pp_lp (Z := fun _ _ w => w = u) (fun (x : Int64 × Int64 × Int32 × RSt) => x.2.2.2 = u) ?_
    rintro R ⟨x1, x2, x3, v⟩ hv ih
    dsimp only at hv
    subst hv
    show pp (B_named_3 N R x1 x2 x3 v) _
    unfold B_named_3 B_named_39
    exact pp_if (fun _ => pp_some rfl) (fun _ => pp_rd (pp_if (fun _ => pp_rd (pp_if (fun _ => pp_some rfl) (fun _ => ih _ rfl))) (fun _ => ih _ rfl)))
  refine pp_bn (pp_m (loop N (a, b, 0, u) rfl) (fun r w hw => ?_))
  rw [hw]
  exact kk r
theorem r_slotOf {k : Int32 → RSt → Option (β × RSt)} {a b : Int64} (kk : ∀ r, pp (k r u) Q) : pp (bn (F_slotOf N a b u) k) Q := by
  have loop : ∀ (M : Nat) (x : Int64 × Int64 × Int32 × RSt), x.2.2.2 = u → pp (LP_slotOf_6 N M x) (fun _ w => w = u) := by
    refine pp_lp (Z := fun _ _ w => w = u) (fun (x : Int64 × Int64 × Int32 × RSt) => x.2.2.2 = u) ?_
    rintro R ⟨x1, x2, x3, v⟩ hv ih
    dsimp only at hv
    subst hv
    show pp (B_slotOf_6 N R x1 x2 x3 v) _
    unfold B_slotOf_6 B_slotOf_82
    exact pp_if (fun _ => pp_some rfl) (fun _ => pp_rd (pp_if (fun _ => pp_some rfl) (fun _ => pp_rd (pp_if (fun _ => pp_rd (pp_if (fun _ => pp_some rfl) (fun _ => ih _ rfl))) (fun _ => ih _ rfl)))))
  refine pp_bn (pp_m (loop N (a, b, u.1 72, u) rfl) (fun r w hw => ?_))
  rw [hw]
  exact kk r
theorem r_telling {k : Int32 → RSt → Option (β × RSt)} {a b c : Int32} (h : RQ ts ta u i o) (kk : pp (k 0 u) Q) : pp (bn (F_telling N a b c u) k) Q := by
  refine pp_bn ?_
  have h65 : ∀ s : Int32, pp (B_telling_65 N a b s u) (fun r w => pp (k r w) Q) := by
    intro s
    unfold B_telling_65
    refine pp_rd (r_wrong h ?_)
    rw [if_pos h.2.2.1]
    exact pp_some kk
  have h32 : ∀ s : Int32, pp (B_telling_32 N a b c s u) (fun r w => pp (k r w) Q) := by
    intro s
    unfold B_telling_32 B_telling_60
    exact pp_rd (r_wrong h (pp_if (fun _ => h65 _) (fun _ => pp_if (fun _ => h65 _) (fun _ => h65 _))))
  unfold F_telling B_telling_0
  exact pp_rd (pp_rd (r_named (fun r => pp_if (fun _ => h32 _) (fun _ => h32 _))))
theorem r_local {k : Int32 → RSt → Option (β × RSt)} {a : Int32} (h : RQ ts ta u i o) (kk : pp (k 0 u) Q) : pp (bn (F_local N a u) k) Q := by
  refine pp_bn ?_
  have h86 : ∀ s : Int32, pp (B_local_86 N s u) (fun r w => pp (k r w) Q) := by
    intro s
    unfold B_local_86
    refine pp_rd (r_wrong h ?_)
    rw [if_pos h.2.2.1]
    exact pp_some kk
  have h32 : ∀ s : Int32, pp (B_local_32 N a s u) (fun r w => pp (k r w) Q) := by
    intro s
    unfold B_local_32 B_local_81 B_local_85
    refine pp_rd (r_wrong h (pp_if (fun _ => h86 _) (fun _ => pp_if (fun _ => h86 _) (fun _ => ?_))))
    rw [if_pos h.2.2.1]
    exact h86 _
  unfold F_local B_local_0
  exact pp_rd (pp_rd (r_slotOf (fun r => pp_if (fun _ => h32 _) (fun _ => h32 _))))
theorem r_addSlot {k : Int32 → RSt → Option (β × RSt)} {a b c d : Int32} {e : Int64} (h : RQ ts ta u i o) (kk : pp (k 0 u) Q) : pp (bn (F_addSlot N a b c d e u) k) Q := by
  refine pp_bn ?_
  have h17 : ∀ s : Int32, pp (B_addSlot_17 N a b c d e s u) (fun r w => pp (k r w) Q) := by
    intro s
    unfold B_addSlot_17
    refine pp_rd (r_wrong h ?_)
    rw [if_pos h.2.2.1]
    exact pp_some kk
  unfold F_addSlot B_addSlot_0
  exact pp_if (fun _ => h17 _) (fun _ => h17 _)
theorem r_addVariable {k : Int32 → RSt → Option (β × RSt)} {a b c d e f : Int32} {g : Int64} (h : RQ ts ta u i o) (kk : pp (k 0 u) Q) : pp (bn (F_addVariable N a b c d e f g u) k) Q := by
  refine pp_bn ?_
  unfold F_addVariable B_addVariable_0
  rw [if_pos h.2.2.1]
  unfold B_addVariable_51
  rw [if_pos h.2.2.1]
  exact pp_some kk
theorem r_isTooWide {k : Int32 → RSt → Option (β × RSt)} {a b : Int32} (kk : ∀ r, pp (k r u) Q) : pp (bn (F_isTooWide N a b u) k) Q := by
  refine pp_bn ?_
  have h25 : pp (B_isTooWide_25 N a b u) (fun r w => pp (k r w) Q) := by
    unfold B_isTooWide_25
    refine pp_if (fun _ => pp_if (fun _ => pp_some (kk _)) (fun _ => pp_some (kk _))) (fun _ => pp_if (fun _ => pp_if (fun _ => pp_some (kk _)) (fun _ => pp_some (kk _))) (fun _ => pp_if (fun _ => pp_if (fun _ => pp_some (kk _)) (fun _ => pp_some (kk _))) (fun _ => pp_if (fun _ => pp_if (fun _ => pp_some (kk _)) (fun _ => pp_some (kk _))) (fun _ => pp_some (kk _)))))
  unfold F_isTooWide B_isTooWide_0
  exact pp_if (fun _ => pp_some (kk _)) (fun _ => pp_if (fun _ => h25) (fun _ => pp_if (fun _ => h25) (fun _ => pp_some (kk _))))
theorem r_loop {k : Int32 → RSt → Option (β × RSt)} (h : RQ ts ta u i o) (kk : ∀ w, RQ ts ta w i o → pp (k 0 w) Q) : pp (bn (F_loop N u) k) Q := by
  refine pp_bn ?_
  unfold F_loop B_loop_0
  exact pp_wr (pp_wr (pp_pu (pp_some (kk _ (((h.a (by decide)).a (by decide)).c (by decide))))))
theorem r_label (hT : RT ty ts n) (h : RQ ts ta u i o) (hi : i ≤ n) : pp (F_label N u) (fun _ w => ORf ts ta n o (dLab ty i) w) := by
  unfold F_label B_label_0 dLab
  have h59 : ∀ (a b : Int64) (w : RSt) (j : Nat), RQ ts ta w j o → j ≤ n → pp (B_label_59 N a b w) (fun _ w => ORf ts ta n o (oE j) w) := by
    intro a b w j hw hj
    unfold B_label_59
    refine rr_emit hw ?_
    rw [if_pos hw.2.2.1]
    exact r_end hw hj
  refine r_bn (r_constant hT h hi) (fun r w j _ hj hw => ?_) (fun _ _ => by repeat' (first | exact KP_some kp_rf | with_reducible refine KP_bn ?_ (fun _ _ => ?_) | with_reducible refine KP_if ?_ ?_ | with_reducible refine KP_rd (fun _ => ?_) | with_reducible refine KP_zr ?_ | (with_reducible refine KP_pu2 ?_ ?_; first | exact ks_sI (by decide) kp_rf | exact ks_sL kp_rf | exact ks_sA (by decide) kp_rf | exact ks_sB (by decide) kp_rf) | (with_reducible refine KP_wr2 ?_ ?_; first | exact ks_sA (by decide) kp_rf | exact ks_sB (by decide) kp_rf) | with_reducible exact h_ro _ _ _ _ | with_reducible exact sk_F_is | with_reducible exact sk_F_take | with_reducible exact sk_F_emit | with_reducible exact sk_F_wrong | with_reducible exact sk_F_cost | with_reducible exact sk_F_stuck | with_reducible exact sk_F_ends | with_reducible exact sk_F_begins | with_reducible exact sk_F_opens | with_reducible exact sk_F_has | with_reducible exact sk_F_isNumber | with_reducible exact sk_F_isNext | with_reducible exact sk_F_push | with_reducible exact sk_F_lead | with_reducible exact sk_F_here | with_reducible exact sk_F_kind | with_reducible exact sk_F_isKind | with_reducible exact sk_F_own | with_reducible exact sk_F_constant | with_reducible exact sk_F_bounded | with_reducible exact sk_F_joined | with_reducible exact sk_F_strength | with_reducible exact sk_F_leadAll | with_reducible exact sk_F_loop | with_reducible exact sk_F_label | with_reducible exact sk_F_leaves | with_reducible exact sk_F_telling | with_reducible exact sk_F_local | with_reducible exact sk_F_addSlot | with_reducible exact sk_F_addVariable | with_reducible exact sk_F_isTooWide | with_reducible exact sk_F_named | with_reducible exact sk_F_slotOf | with_reducible exact sk_F_bad | with_reducible exact sk_G_expression | with_reducible exact sk_G_spot | with_reducible exact sk_G_body | with_reducible exact sk_G_stat | with_reducible exact sk_B_label_59 | with_reducible exact sk_B_label_53 | with_reducible exact sk_B_label_0 | with_reducible exact sk_F_label))
  refine rr_has hT (t := 11822) (by decide +kernel) (nEnd (by decide) (by decide) (by decide)) hw hj (fun c hl w2 h2 => ?_) (fun c => ?_)
  · rw [if_neg (by decide)]
    refine pp_rd (r_m (D := oS (dC ty) oE (j + 1)) (fun q hq => Or.inl ⟨c, oS_E hq⟩) ?_)
    refine r_bn (r_constant hT h2 hl) (fun r3 w3 j3 _ hj3 h3 => ?_) (fun _ _ => by repeat' (first | exact KP_some kp_rf | with_reducible refine KP_bn ?_ (fun _ _ => ?_) | with_reducible refine KP_if ?_ ?_ | with_reducible refine KP_rd (fun _ => ?_) | with_reducible refine KP_zr ?_ | (with_reducible refine KP_pu2 ?_ ?_; first | exact ks_sI (by decide) kp_rf | exact ks_sL kp_rf | exact ks_sA (by decide) kp_rf | exact ks_sB (by decide) kp_rf) | (with_reducible refine KP_wr2 ?_ ?_; first | exact ks_sA (by decide) kp_rf | exact ks_sB (by decide) kp_rf) | with_reducible exact h_ro _ _ _ _ | with_reducible exact sk_F_is | with_reducible exact sk_F_take | with_reducible exact sk_F_emit | with_reducible exact sk_F_wrong | with_reducible exact sk_F_cost | with_reducible exact sk_F_stuck | with_reducible exact sk_F_ends | with_reducible exact sk_F_begins | with_reducible exact sk_F_opens | with_reducible exact sk_F_has | with_reducible exact sk_F_isNumber | with_reducible exact sk_F_isNext | with_reducible exact sk_F_push | with_reducible exact sk_F_lead | with_reducible exact sk_F_here | with_reducible exact sk_F_kind | with_reducible exact sk_F_isKind | with_reducible exact sk_F_own | with_reducible exact sk_F_constant | with_reducible exact sk_F_bounded | with_reducible exact sk_F_joined | with_reducible exact sk_F_strength | with_reducible exact sk_F_leadAll | with_reducible exact sk_F_loop | with_reducible exact sk_F_label | with_reducible exact sk_F_leaves | with_reducible exact sk_F_telling | with_reducible exact sk_F_local | with_reducible exact sk_F_addSlot | with_reducible exact sk_F_addVariable | with_reducible exact sk_F_isTooWide | with_reducible exact sk_F_named | with_reducible exact sk_F_slotOf | with_reducible exact sk_F_bad | with_reducible exact sk_G_expression | with_reducible exact sk_G_spot | with_reducible exact sk_G_body | with_reducible exact sk_G_stat | with_reducible exact sk_B_label_59 | with_reducible exact sk_B_label_53 | with_reducible exact sk_B_label_0 | with_reducible exact sk_F_label))
    unfold B_label_53
    exact pp_if (fun _ => r_wrong h3 (h59 _ _ _ _ h3 hj3)) (fun _ => r_wrong h3 (h59 _ _ _ _ h3 hj3))
  · rw [if_pos rfl]
    exact r_m (fun q hq => Or.inr ⟨c, hq⟩) (h59 _ _ _ _ hw hj)
theorem r_leaves {a b : Int32} (hT : RT ty ts n) (h : RQ ts ta u i o) (hi : i ≤ n) : pp (F_leaves N a b u) (fun _ w => ORf ts ta n o (oT ty 59 i) w) := by
  have h13 : ∀ s : Int32, pp (B_leaves_13 N a b s u) (fun _ w => ORf ts ta n o (oT ty 59 i) w) := by
    intro s
    unfold B_leaves_13
    refine r_wrong h ?_
    rw [if_pos h.2.2.1]
    unfold B_leaves_94
    exact r_lst (f := fun _ => 0) (r_take hT (by decide +kernel) (nEnd (by decide) (by decide) (by decide)) h hi)
  unfold F_leaves B_leaves_0
  exact pp_if (fun _ => h13 _) (fun _ => h13 _)
theorem r_returns {a : Int32} (hT : RT ty ts n) (ho : o ≤ 24) (h : RQ ts ta u i o) (hi : i ≤ n) : pp (F_returns N a u) (fun _ w => ORf ts ta n o (oF (fun i => ty i = 59) (oT ty 59) (oS (dX ty (25 - o)) (oT ty 59)) i) w) := by
  have h46 : ∀ f s : Int32, (f = 0 ∧ ty i = 59 ∨ ¬ f = 0 ∧ ¬ ty i = 59) → pp (B_returns_46 N a f s u) (fun _ w => ORf ts ta n o (oF (fun i => ty i = 59) (oT ty 59) (oS (dX ty (25 - o)) (oT ty 59)) i) w) := by
    intro f s hf
    unfold B_returns_46
    refine r_wrong h ?_
    rcases hf with ⟨f0, hy⟩ | ⟨f1, hn⟩
    · rw [if_pos f0]
      refine rr_emit h ?_
      unfold B_returns_136
      exact r_m (fun q hq => Or.inl ⟨hy, hq⟩) (r_lst (f := fun _ => 0) (r_take hT (by decide +kernel) (nEnd (by decide) (by decide) (by decide)) h hi))
    · rw [if_neg f1]
      refine pp_rd (r_m (fun q hq => Or.inr ⟨hn, hq⟩) ?_)
      refine r_bn (r_E hT ho h hi) (fun r3 w3 j3 _ hj3 h3 => ?_) (fun _ _ => by repeat' (first | exact KP_some kp_rf | with_reducible refine KP_bn ?_ (fun _ _ => ?_) | with_reducible refine KP_if ?_ ?_ | with_reducible refine KP_rd (fun _ => ?_) | with_reducible refine KP_zr ?_ | (with_reducible refine KP_pu2 ?_ ?_; first | exact ks_sI (by decide) kp_rf | exact ks_sL kp_rf | exact ks_sA (by decide) kp_rf | exact ks_sB (by decide) kp_rf) | (with_reducible refine KP_wr2 ?_ ?_; first | exact ks_sA (by decide) kp_rf | exact ks_sB (by decide) kp_rf) | with_reducible exact h_ro _ _ _ _ | with_reducible exact sk_F_is | with_reducible exact sk_F_take | with_reducible exact sk_F_emit | with_reducible exact sk_F_wrong | with_reducible exact sk_F_cost | with_reducible exact sk_F_stuck | with_reducible exact sk_F_ends | with_reducible exact sk_F_begins | with_reducible exact sk_F_opens | with_reducible exact sk_F_has | with_reducible exact sk_F_isNumber | with_reducible exact sk_F_isNext | with_reducible exact sk_F_push | with_reducible exact sk_F_lead | with_reducible exact sk_F_here | with_reducible exact sk_F_kind | with_reducible exact sk_F_isKind | with_reducible exact sk_F_own | with_reducible exact sk_F_constant | with_reducible exact sk_F_bounded | with_reducible exact sk_F_joined | with_reducible exact sk_F_strength | with_reducible exact sk_F_leadAll | with_reducible exact sk_F_loop | with_reducible exact sk_F_label | with_reducible exact sk_F_leaves | with_reducible exact sk_F_telling | with_reducible exact sk_F_local | with_reducible exact sk_F_addSlot | with_reducible exact sk_F_addVariable | with_reducible exact sk_F_isTooWide | with_reducible exact sk_F_named | with_reducible exact sk_F_slotOf | with_reducible exact sk_F_bad | with_reducible exact sk_G_expression | with_reducible exact sk_G_spot | with_reducible exact sk_G_body | with_reducible exact sk_G_stat | with_reducible exact sk_B_returns_136 | with_reducible exact sk_B_returns_124 | with_reducible exact sk_B_returns_46 | with_reducible exact sk_B_returns_38 | with_reducible exact sk_B_returns_22 | with_reducible exact sk_B_returns_21 | with_reducible exact sk_B_returns_0 | with_reducible exact sk_F_returns))
      rw [if_pos h3.2.2.1]
      unfold B_returns_124 B_returns_136
      exact r_lst (f := fun _ => 0) (r_take hT (by decide +kernel) (nEnd (by decide) (by decide) (by decide)) h3 hj3)
  have h22 : ∀ f : Int32, (f = 0 ∧ ty i = 59 ∨ ¬ f = 0 ∧ ¬ ty i = 59) → pp (B_returns_22 N a f u) (fun _ w => ORf ts ta n o (oF (fun i => ty i = 59) (oT ty 59) (oS (dX ty (25 - o)) (oT ty 59)) i) w) := by
    intro f hf
    unfold B_returns_22 B_returns_38
    exact pp_if (fun _ => pp_if (fun _ => h46 _ _ hf) (fun _ => h46 _ _ hf)) (fun _ => pp_if (fun _ => h46 _ _ hf) (fun _ => h46 _ _ hf))
  unfold F_returns B_returns_0
  rw [if_pos h.2.2.2.1]
  refine r_if hT (t := 59) (by decide +kernel) h hi (fun c => ?_) (fun c => h22 1 (Or.inr ⟨by decide, c⟩))
  unfold B_returns_21
  exact h22 0 (Or.inl ⟨rfl, c⟩)
theorem r_runs (hT : RT ty ts n) (ho : o ≤ 24) (h : RQ ts ta u i o) (hi : i < n) : pp (F_runs N u) (fun _ w => ORf ts ta n o (oS (dArg ty (0 < 24 - o) (dX ty (24 - o))) (oT ty 59) (i + 1)) w) := by
  have hB : (0 < 24 - o) ↔ o < 24 := by omega
  unfold F_runs B_runs_0
  refine pp_rd (r_own h ?_)
  rw [if_pos rfl]
  unfold B_runs_27
  refine r_wrong h (r_cost h (r_adv hT h hi (fun w hw => ?_)))
  rw [if_pos hw.2.2.1]
  unfold B_runs_80 B_runs_81
  refine r_m (D := oS (oP ty (0 < 24 - o) 40) (oF (fun i => ty i = 41) (oS (dAl ty (dX ty (24 - o))) (oT ty 59)) (oS (dX ty (24 - o)) (oS (dAl ty (dX ty (24 - o))) (oT ty 59)))) (i + 1)) (fun q hq => ?_) ?_
  · rcases hq with ⟨j, d1, ⟨z, d2⟩ | ⟨z, d2⟩⟩ | ⟨p, d1, d2⟩
    · rcases d2 with ⟨j2, d3, d4⟩ | ⟨p, d3, d4⟩
      · exact Or.inl ⟨j2, Or.inl ⟨j, d1, Or.inl ⟨z, d3⟩⟩, d4⟩
      · exact Or.inr ⟨p, Or.inl ⟨j, d1, Or.inl ⟨z, d3⟩⟩, d4⟩
    · rcases oS_as d2 with ⟨j2, d3, d4⟩ | ⟨p, d3, d4⟩
      · exact Or.inl ⟨j2, Or.inl ⟨j, d1, Or.inr ⟨z, d3⟩⟩, d4⟩
      · exact Or.inr ⟨p, Or.inl ⟨j, d1, Or.inr ⟨z, d3⟩⟩, d4⟩
    · exact Or.inr ⟨p, Or.inr ⟨p, d1, rfl⟩, d2⟩
  refine r_bn (r_begins hT (by decide +kernel) (nEnd (by decide) (by decide) (by decide)) (by decide) hB ho hw hi) (fun _ w2 j d hj h2 => ?_) (fun _ _ => by repeat' (first | exact KP_some kp_rf | with_reducible refine KP_bn ?_ (fun _ _ => ?_) | with_reducible refine KP_if ?_ ?_ | with_reducible refine KP_rd (fun _ => ?_) | with_reducible refine KP_zr ?_ | (with_reducible refine KP_pu2 ?_ ?_; first | exact ks_sI (by decide) kp_rf | exact ks_sL kp_rf | exact ks_sA (by decide) kp_rf | exact ks_sB (by decide) kp_rf) | (with_reducible refine KP_wr2 ?_ ?_; first | exact ks_sA (by decide) kp_rf | exact ks_sB (by decide) kp_rf) | with_reducible exact h_ro _ _ _ _ | with_reducible exact sk_F_is | with_reducible exact sk_F_take | with_reducible exact sk_F_emit | with_reducible exact sk_F_wrong | with_reducible exact sk_F_cost | with_reducible exact sk_F_stuck | with_reducible exact sk_F_ends | with_reducible exact sk_F_begins | with_reducible exact sk_F_opens | with_reducible exact sk_F_has | with_reducible exact sk_F_isNumber | with_reducible exact sk_F_isNext | with_reducible exact sk_F_push | with_reducible exact sk_F_lead | with_reducible exact sk_F_here | with_reducible exact sk_F_kind | with_reducible exact sk_F_isKind | with_reducible exact sk_F_own | with_reducible exact sk_F_constant | with_reducible exact sk_F_bounded | with_reducible exact sk_F_joined | with_reducible exact sk_F_strength | with_reducible exact sk_F_leadAll | with_reducible exact sk_F_loop | with_reducible exact sk_F_label | with_reducible exact sk_F_leaves | with_reducible exact sk_F_telling | with_reducible exact sk_F_local | with_reducible exact sk_F_addSlot | with_reducible exact sk_F_addVariable | with_reducible exact sk_F_isTooWide | with_reducible exact sk_F_named | with_reducible exact sk_F_slotOf | with_reducible exact sk_F_bad | with_reducible exact sk_G_expression | with_reducible exact sk_G_spot | with_reducible exact sk_G_body | with_reducible exact sk_G_stat | (with_reducible refine sk_B_runs_275 ?_ <;> assumption) | (with_reducible refine sk_B_runs_215 ?_ <;> assumption) | (with_reducible refine sk_B_runs_183 ?_ <;> assumption) | (with_reducible refine sk_B_runs_153 ?_ <;> assumption) | (with_reducible refine sk_B_runs_152 ?_ <;> assumption) | with_reducible exact sk_B_runs_344 | with_reducible exact sk_B_runs_329 | (with_reducible refine sk_B_runs_117 ?_ <;> assumption) | with_reducible exact sk_LP_runs_117 _ _ | with_reducible exact sk_B_runs_115 | with_reducible exact sk_B_runs_114 | with_reducible exact sk_B_runs_81 | with_reducible exact sk_B_runs_80 | with_reducible exact sk_B_runs_27 | with_reducible exact sk_B_runs_0 | with_reducible exact sk_F_runs))
  have ho2 : o < 24 := hB.mp (by rcases d with ⟨q, -⟩ | ⟨-, q⟩; exact q.2; cases q)
  have hX : ∀ (i : Nat) (u : RSt), RQ ts ta u i (o + 1) → i ≤ n → pp (G_expression N u) (fun _ w => ORf ts ta n (o + 1) (dX ty (24 - o) i) w) := by
    intro i u h hi
    have := r_E (N := N) hT (by omega) h hi
    rw [show 25 - (o + 1) = 24 - o by omega] at this
    exact this
  rw [if_pos h2.2.2.2.1]
  have loop : ∀ (M : Nat) (a : Int32 × Int32 × Int32 × Int32 × Int32 × RSt), (∃ j, RQ ts ta a.2.2.2.2.2 j (o + 1) ∧ j ≤ n) → pp (LP_runs_117 N M a) (fun _ w => ORf ts ta n o (if a.2.2.2.2.1 = 0 then oS (oT ty 41) (oT ty 59) (posK a.2.2.2.2.2) else oS (dX ty (24 - o)) (oS (dAl ty (dX ty (24 - o))) (oT ty 59)) (posK a.2.2.2.2.2)) w) := by
    refine pp_lpK (L := LP_runs_117 N) (st := fun a => a.2.2.2.2.2) (Z := fun a _ w => ORf ts ta n o (if a.2.2.2.2.1 = 0 then oS (oT ty 41) (oT ty 59) (posK a.2.2.2.2.2) else oS (dX ty (24 - o)) (oS (dAl ty (dX ty (24 - o))) (oT ty 59)) (posK a.2.2.2.2.2)) w) (fun a => ∃ j, RQ ts ta a.2.2.2.2.2 j (o + 1) ∧ j ≤ n) rfl (fun m a => sk_LP_runs_117 m a) ?_
    rintro R ⟨l1, l3, l4, l5, l6, v⟩ h_R ⟨j, hv, hj⟩ ih
    dsimp only at hv ih ⊢
    rw [hv.pos]
    show pp (B_runs_117 N R l1 l3 l4 l5 l6 v) _
    unfold B_runs_117
    by_cases c : l6 = 0
    · rw [if_pos c, if_pos c]
      refine r_bn (r_ends hT (by decide +kernel) (nEnd (by decide) (by decide) (by decide)) (by omega) hv hj) (fun _ w3 j3 _ hj3 h3 => ?_) (fun _ _ => by repeat' (first | exact KP_some kp_rf | with_reducible refine KP_bn ?_ (fun _ _ => ?_) | with_reducible refine KP_if ?_ ?_ | with_reducible refine KP_rd (fun _ => ?_) | with_reducible refine KP_zr ?_ | (with_reducible refine KP_pu2 ?_ ?_; first | exact ks_sI (by decide) kp_rf | exact ks_sL kp_rf | exact ks_sA (by decide) kp_rf | exact ks_sB (by decide) kp_rf) | (with_reducible refine KP_wr2 ?_ ?_; first | exact ks_sA (by decide) kp_rf | exact ks_sB (by decide) kp_rf) | with_reducible exact h_ro _ _ _ _ | with_reducible exact sk_F_is | with_reducible exact sk_F_take | with_reducible exact sk_F_emit | with_reducible exact sk_F_wrong | with_reducible exact sk_F_cost | with_reducible exact sk_F_stuck | with_reducible exact sk_F_ends | with_reducible exact sk_F_begins | with_reducible exact sk_F_opens | with_reducible exact sk_F_has | with_reducible exact sk_F_isNumber | with_reducible exact sk_F_isNext | with_reducible exact sk_F_push | with_reducible exact sk_F_lead | with_reducible exact sk_F_here | with_reducible exact sk_F_kind | with_reducible exact sk_F_isKind | with_reducible exact sk_F_own | with_reducible exact sk_F_constant | with_reducible exact sk_F_bounded | with_reducible exact sk_F_joined | with_reducible exact sk_F_strength | with_reducible exact sk_F_leadAll | with_reducible exact sk_F_loop | with_reducible exact sk_F_label | with_reducible exact sk_F_leaves | with_reducible exact sk_F_telling | with_reducible exact sk_F_local | with_reducible exact sk_F_addSlot | with_reducible exact sk_F_addVariable | with_reducible exact sk_F_isTooWide | with_reducible exact sk_F_named | with_reducible exact sk_F_slotOf | with_reducible exact sk_F_bad | with_reducible exact sk_G_expression | with_reducible exact sk_G_spot | with_reducible exact sk_G_body | with_reducible exact sk_G_stat | (with_reducible refine sk_B_runs_275 ?_ <;> assumption) | (with_reducible refine sk_B_runs_215 ?_ <;> assumption) | (with_reducible refine sk_B_runs_183 ?_ <;> assumption) | (with_reducible refine sk_B_runs_153 ?_ <;> assumption) | (with_reducible refine sk_B_runs_152 ?_ <;> assumption) | with_reducible exact sk_B_runs_344 | with_reducible exact sk_B_runs_329 | (with_reducible refine sk_B_runs_117 ?_ <;> assumption) | with_reducible exact sk_LP_runs_117 _ _ | with_reducible exact sk_B_runs_115 | with_reducible exact sk_B_runs_114 | with_reducible exact sk_B_runs_81 | with_reducible exact sk_B_runs_80 | with_reducible exact sk_B_runs_27 | with_reducible exact sk_B_runs_0 | with_reducible exact sk_F_runs))
      rw [if_pos h3.2.2.1]
      unfold B_runs_344
      exact r_lst (f := fun _ => 0) (r_take hT (by decide +kernel) (nEnd (by decide) (by decide) (by decide)) h3 hj3)
    · rw [if_neg c, if_neg c, if_pos hv.2.2.1]
      unfold B_runs_152 B_runs_153
      rw [if_pos rfl]
      unfold B_runs_183
      rw [if_pos rfl]
      unfold B_runs_215
      refine pp_rd (r_bn (hX j v hv hj) (fun r3 w3 j3 _ hj3 h3 => ?_) (fun _ _ => by repeat' (first | exact KP_some kp_rf | with_reducible refine KP_bn ?_ (fun _ _ => ?_) | with_reducible refine KP_if ?_ ?_ | with_reducible refine KP_rd (fun _ => ?_) | with_reducible refine KP_zr ?_ | (with_reducible refine KP_pu2 ?_ ?_; first | exact ks_sI (by decide) kp_rf | exact ks_sL kp_rf | exact ks_sA (by decide) kp_rf | exact ks_sB (by decide) kp_rf) | (with_reducible refine KP_wr2 ?_ ?_; first | exact ks_sA (by decide) kp_rf | exact ks_sB (by decide) kp_rf) | with_reducible exact h_ro _ _ _ _ | with_reducible exact sk_F_is | with_reducible exact sk_F_take | with_reducible exact sk_F_emit | with_reducible exact sk_F_wrong | with_reducible exact sk_F_cost | with_reducible exact sk_F_stuck | with_reducible exact sk_F_ends | with_reducible exact sk_F_begins | with_reducible exact sk_F_opens | with_reducible exact sk_F_has | with_reducible exact sk_F_isNumber | with_reducible exact sk_F_isNext | with_reducible exact sk_F_push | with_reducible exact sk_F_lead | with_reducible exact sk_F_here | with_reducible exact sk_F_kind | with_reducible exact sk_F_isKind | with_reducible exact sk_F_own | with_reducible exact sk_F_constant | with_reducible exact sk_F_bounded | with_reducible exact sk_F_joined | with_reducible exact sk_F_strength | with_reducible exact sk_F_leadAll | with_reducible exact sk_F_loop | with_reducible exact sk_F_label | with_reducible exact sk_F_leaves | with_reducible exact sk_F_telling | with_reducible exact sk_F_local | with_reducible exact sk_F_addSlot | with_reducible exact sk_F_addVariable | with_reducible exact sk_F_isTooWide | with_reducible exact sk_F_named | with_reducible exact sk_F_slotOf | with_reducible exact sk_F_bad | with_reducible exact sk_G_expression | with_reducible exact sk_G_spot | with_reducible exact sk_G_body | with_reducible exact sk_G_stat | (with_reducible refine sk_B_runs_275 ?_ <;> assumption) | (with_reducible refine sk_B_runs_215 ?_ <;> assumption) | (with_reducible refine sk_B_runs_183 ?_ <;> assumption) | (with_reducible refine sk_B_runs_153 ?_ <;> assumption) | (with_reducible refine sk_B_runs_152 ?_ <;> assumption) | with_reducible exact sk_B_runs_344 | with_reducible exact sk_B_runs_329 | (with_reducible refine sk_B_runs_117 ?_ <;> assumption) | with_reducible exact sk_LP_runs_117 _ _ | with_reducible exact sk_B_runs_115 | with_reducible exact sk_B_runs_114 | with_reducible exact sk_B_runs_81 | with_reducible exact sk_B_runs_80 | with_reducible exact sk_B_runs_27 | with_reducible exact sk_B_runs_0 | with_reducible exact sk_F_runs)))
      rw [if_pos rfl]
      unfold B_runs_275
      refine rr_has hT (t := 44) (by decide +kernel) (nEnd (by decide) (by decide) (by decide)) h3 hj3 (fun c2 hl w4 h4 => ?_) (fun c2 => ?_)
      · have := ih (l1, l3, l4, l5 + 1, 1, w4) ⟨j3 + 1, h4, hl⟩
        dsimp only at this
        rw [h4.pos, if_neg (by decide)] at this
        refine r_m (fun q hq => ?_) this
        have hq2 : oS (oS (oN (dX ty (24 - o))) (dAl ty (dX ty (24 - o)))) (oT ty 59) j3 q := oS_as (A := oN (dX ty (24 - o))) hq
        rcases hq2 with ⟨j4, d1, d2⟩ | ⟨p, d1, d2⟩
        · exact Or.inl ⟨j4, oW_s (c := fun i => ty i = 44) c2 d1, d2⟩
        · exact Or.inr ⟨p, oW_s (c := fun i => ty i = 44) c2 d1, d2⟩
      · have := ih (l1, l3, l4, l5 + 1, 0, w3) ⟨j3, h3, hj3⟩
        dsimp only at this
        rw [h3.pos, if_pos rfl] at this
        refine r_m (fun q hq => ?_) this
        rcases hq with ⟨j4, d1, d2⟩ | ⟨p, d1, d2⟩
        · exact Or.inl ⟨j4, oW_0 (c := fun i => ty i = 44) c2 d1, d2⟩
        · exact Or.inr ⟨p, oW_0 (c := fun i => ty i = 44) c2 d1, d2⟩
  have fin : ∀ (a b c d m : Int32), pp (LP_runs_117 N N (a, b, c, d, m, w2)) (fun _ w => ORf ts ta n o (if m = 0 then oS (oT ty 41) (oT ty 59) j else oS (dX ty (24 - o)) (oS (dAl ty (dX ty (24 - o))) (oT ty 59)) j) w) := by
    intro a b c d m
    have := loop N (a, b, c, d, m, w2) ⟨j, h2, hj⟩
    dsimp only at this
    rw [h2.pos] at this
    exact this
  refine r_if hT (t := 41) (by decide +kernel) h2 hj (fun c => ?_) (fun c => ?_)
  · unfold B_runs_114 B_runs_115
    refine r_m (D := oS (oT ty 41) (oT ty 59) j) (fun q hq => Or.inl ⟨c, ?_⟩) ?_
    · rcases hq with ⟨j4, d1, d2⟩ | ⟨p, d1, d2⟩
      · exact Or.inl ⟨j4, oW_0 (c := fun i => ty i = 44) (by show ¬ ty j = 44; rw [c]; decide) d1, d2⟩
      · exact Or.inr ⟨p, oW_0 (c := fun i => ty i = 44) (by show ¬ ty j = 44; rw [c]; decide) d1, d2⟩
    · exact r_t rfl (fin _ _ _ _ 0)
  · unfold B_runs_115
    refine r_m (D := oS (dX ty (24 - o)) (oS (dAl ty (dX ty (24 - o))) (oT ty 59)) j) (fun q hq => Or.inr ⟨c, hq⟩) ?_
    exact r_f (by decide) (fin _ _ _ _ 1)
end RSt1
