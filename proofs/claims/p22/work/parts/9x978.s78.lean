/-! What small programs, expressions and statements of the reference leave of the tables. -/
def lI : List Nat := [56, 62, 69, 70, 71]
def lA : List Nat := [10, 11, 12, 13, 14, 15, 19, 20, 21, 22, 23, 27, 28, 29, 30, 31, 32, 33, 36, 37, 38, 39, 42, 43, 44, 45, 48]
def lB : List Nat := [16, 17, 18, 24, 25, 26, 34, 35, 40, 41, 46, 47]
def kl (u w : RSt) : Prop := (∀ k, k ∈ lI → w.1 k = u.1 k) ∧ (∀ k, k ∈ lA → w.2.2.1 k = u.2.2.1 k) ∧ (∀ k, k ∈ lB → w.2.2.2 k = u.2.2.2 k) ∧ (¬ u.1 67 = 0 → ¬ w.1 67 = 0)
def KL {β : Type} (x : Option (β × RSt)) (u : RSt) : Prop := ∀ r w, x = some (r, w) → kl u w
section KLs
variable {α β γ : Type} {u v w : RSt}
theorem kl_rf : kl u u := ⟨fun _ _ => rfl, fun _ _ => rfl, fun _ _ => rfl, fun h => h⟩
theorem kl_tr (h : kl u v) (h2 : kl v w) : kl u w := ⟨fun k hk => (h2.1 k hk).trans (h.1 k hk), fun k hk => (h2.2.1 k hk).trans (h.2.1 k hk), fun k hk => (h2.2.2.1 k hk).trans (h.2.2.1 k hk), fun q => h2.2.2.2 (h.2.2.2 q)⟩
theorem KL.tr {x : Option (β × RSt)} (hx : KL x w) (h : kl u w) : KL x u := fun r z e => kl_tr h (hx r z e)
theorem KL.p {x : Option (β × RSt)} (hx : KL x u) : pp x (fun _ w => kl u w) := hx
theorem fl_sI {k : Nat} {a : Int32} (hk : k ∉ lI ∧ k ≠ 67) (h : kl u w) : kl u (sI w k a) := by
  refine kl_tr h ⟨fun j hj => ?_, fun _ _ => rfl, fun _ _ => rfl, fun q => ?_⟩
  · show (if j = k then a else w.1 j) = _
    rw [if_neg (fun z => hk.1 (by rw [← z]; exact hj))]
  · show ¬ (if 67 = k then a else w.1 67) = 0
    rw [if_neg (fun z => hk.2 z.symm)]
    exact q
theorem fl_sL {k : Nat} {a : Int64} (h : kl u w) : kl u (sL w k a) := h
theorem fl_sA {k i : Nat} {a : Int32} (hk : k ∉ lA) (h : kl u w) : kl u (sA w k i a) := by
  refine kl_tr h ⟨fun _ _ => rfl, fun j hj => ?_, fun _ _ => rfl, fun q => q⟩
  show (if j = k then upd (w.2.2.1 k) i a else w.2.2.1 j) = _
  rw [if_neg (fun z => hk (by rw [← z]; exact hj))]
theorem fl_sB {k i : Nat} {a : Int64} (hk : k ∉ lB) (h : kl u w) : kl u (sB w k i a) := by
  refine kl_tr h ⟨fun _ _ => rfl, fun _ _ => rfl, fun j hj => ?_, fun q => q⟩
  show (if j = k then vp_updL (w.2.2.2 k) i a else w.2.2.2 j) = _
  rw [if_neg (fun z => hk (by rw [← z]; exact hj))]
theorem KL_some {r : β} (h : kl u w) : KL (some (r, w)) u := fun _ _ e => by cases e; exact h
theorem KL_none : KL (none : Option (β × RSt)) u := fun _ _ e => nomatch e
theorem KL_rd {f : Nat → α} {n : Nat} {i : Int32} {k : α → Option (β × RSt)} (h : ∀ a, KL (k a) u) : KL (rd f n i k) u := by
  intro r z e
  have q : wp (rd f n i k) (fun r' z' => r' = r ∧ z' = z) := ⟨r, z, e, rfl, rfl⟩
  obtain ⟨r1, z1, e1, rfl, rfl⟩ := (wp_rd.mp q).2
  exact h _ _ _ e1
theorem KL_if {c : Prop} {d : Decidable c} {a b : Option (β × RSt)} (ha : KL a u) (hb : KL b u) : KL (if c then a else b) u := by
  by_cases q : c
  · rw [if_pos q]; exact ha
  · rw [if_neg q]; exact hb
theorem KL_zr {v : Int32} {x : Option (β × RSt)} (h : KL x u) : KL (zr v x) u := fun r z e => h r z (zr_of e).2
theorem KL_nz {v : Int32} {x : Option (β × RSt)} (h : KL x u) : KL (nz v x) u := fun r z e => h r z (nz_of e).2
theorem KL_ok {P : Prop} {d : Decidable P} {x : Option (β × RSt)} (h : KL x u) : KL (ok P d x) u := fun r z e => h r z (ok_of e).2
theorem KL_pu {x : RSt} {k : RSt → Option (β × RSt)} (h : KL (k x) u) : KL (pu x k) u := h
theorem KL_wr {n : Nat} {i : Int32} {x : RSt} {k : RSt → Option (β × RSt)} (h : KL (k x) u) : KL (wr n i x k) u := by
  intro r z e
  have q : wp (wr n i x k) (fun r' z' => r' = r ∧ z' = z) := ⟨r, z, e, rfl, rfl⟩
  obtain ⟨r1, z1, e1, rfl, rfl⟩ := (wp_wr.mp q).2
  exact h _ _ e1
theorem KL_bn {x : Option (α × RSt)} {k : α → RSt → Option (β × RSt)} (hx : KL x u) (h : ∀ r w, KL (k r w) w) : KL (bn x k) u := by
  intro r z e
  have q : wp (bn x k) (fun r' z' => r' = r ∧ z' = z) := ⟨r, z, e, rfl, rfl⟩
  obtain ⟨r1, z1, e1, r2, z2, e2, rfl, rfl⟩ := wp_bn.mp q
  exact kl_tr (hx _ _ e1) (h _ _ _ _ e2)
end KLs

theorem kl_B_bad_0 {N : Nat} {l1 l2 : Int32} {u : RSt} : KL (B_bad_0 N l1 l2 u) u := by
  unfold B_bad_0
  by_cases c : u.1 67 = 0
  · rw [if_pos c]
    refine KL_some ⟨fun k hk => ?_, fun _ _ => rfl, fun _ _ => rfl, fun q => absurd c q⟩
    have n7 : k ≠ 67 := fun z => absurd hk (by rw [z]; decide)
    have n8 : k ≠ 68 := fun z => absurd hk (by rw [z]; decide)
    show (if k = 68 then _ else (if k = 67 then _ else u.1 k)) = u.1 k
    rw [if_neg n8, if_neg n7]
  · rw [if_neg c]
    exact KL_some kl_rf
theorem kl_F_bad {N : Nat} {l1 : Int32} {l2 : Int32} {u : RSt}  : KL (F_bad N l1 l2 u) u := by
  unfold F_bad
  exact kl_B_bad_0.tr kl_rf
theorem kl_B_wrong_0 {N : Nat} {l1 : Int32} {l2 : Int32} {l3 : Int32} {u : RSt}  : KL (B_wrong_0 N l1 l2 l3 u) u := by
  unfold B_wrong_0
  refine KL_if ?_ ?_
  · skip
    exact KL_some kl_rf
  · skip
    refine KL_if ?_ ?_
    · skip
      exact KL_some kl_rf
    · skip
      refine KL_bn (kl_F_bad.tr kl_rf) (fun _ _ => ?_)
      exact KL_some kl_rf
theorem kl_F_wrong {N : Nat} {l1 : Int32} {l2 : Int32} {l3 : Int32} {u : RSt}  : KL (F_wrong N l1 l2 l3 u) u := by
  unfold F_wrong
  exact kl_B_wrong_0.tr kl_rf
theorem kl_B_is_0 {N : Nat} {l1 : Int32} {u : RSt}  : KL (B_is_0 N l1 u) u := by
  unfold B_is_0
  refine KL_if ?_ ?_
  · skip
    refine KL_rd (fun _ => ?_)
    refine KL_if ?_ ?_
    · skip
      exact KL_some kl_rf
    · skip
      exact KL_some kl_rf
  · skip
    exact KL_some kl_rf
theorem kl_F_is {N : Nat} {l1 : Int32} {u : RSt}  : KL (F_is N l1 u) u := by
  unfold F_is
  exact kl_B_is_0.tr kl_rf
theorem kl_B_isNext_0 {N : Nat} {l1 : Int32} {u : RSt}  : KL (B_isNext_0 N l1 u) u := by
  unfold B_isNext_0
  refine KL_if ?_ ?_
  · skip
    refine KL_rd (fun _ => ?_)
    refine KL_if ?_ ?_
    · skip
      exact KL_some kl_rf
    · skip
      refine KL_rd (fun _ => ?_)
      refine KL_if ?_ ?_
      · skip
        exact KL_some kl_rf
      · skip
        exact KL_some kl_rf
  · skip
    exact KL_some kl_rf
theorem kl_F_isNext {N : Nat} {l1 : Int32} {u : RSt}  : KL (F_isNext N l1 u) u := by
  unfold F_isNext
  exact kl_B_isNext_0.tr kl_rf
theorem kl_B_stuck_18 {N : Nat} {s1 : Int32} {u : RSt}  : KL (B_stuck_18 N s1 u) u := by
  unfold B_stuck_18
  refine KL_rd (fun _ => ?_)
  refine KL_bn (kl_F_bad.tr kl_rf) (fun _ _ => ?_)
  exact KL_some kl_rf
theorem kl_B_stuck_0 {N : Nat} {u : RSt}  : KL (B_stuck_0 N u) u := by
  unfold B_stuck_0
  refine KL_rd (fun _ => ?_)
  refine KL_if ?_ ?_
  · skip
    exact kl_B_stuck_18.tr kl_rf
  · skip
    exact kl_B_stuck_18.tr kl_rf
theorem kl_F_stuck {N : Nat} {u : RSt}  : KL (F_stuck N u) u := by
  unfold F_stuck
  exact kl_B_stuck_0.tr kl_rf
theorem kl_B_take_0 {N : Nat} {l1 : Int32} {u : RSt}  : KL (B_take_0 N l1 u) u := by
  unfold B_take_0
  refine KL_bn (kl_F_is.tr kl_rf) (fun _ _ => ?_)
  refine KL_if ?_ ?_
  · skip
    refine KL_bn (kl_F_stuck.tr kl_rf) (fun _ _ => ?_)
    exact KL_some kl_rf
  · skip
    refine KL_pu ?_
    exact KL_some (fl_sI (by decide) kl_rf)
theorem kl_F_take {N : Nat} {l1 : Int32} {u : RSt}  : KL (F_take N l1 u) u := by
  unfold F_take
  exact kl_B_take_0.tr kl_rf
theorem kl_B_has_0 {N : Nat} {l1 : Int32} {u : RSt}  : KL (B_has_0 N l1 u) u := by
  unfold B_has_0
  refine KL_bn (kl_F_is.tr kl_rf) (fun _ _ => ?_)
  refine KL_if ?_ ?_
  · skip
    refine KL_zr ?_
    exact KL_some kl_rf
  · skip
    refine KL_pu ?_
    refine KL_zr ?_
    exact KL_some (fl_sI (by decide) kl_rf)
theorem kl_F_has {N : Nat} {l1 : Int32} {u : RSt}  : KL (F_has N l1 u) u := by
  unfold F_has
  exact kl_B_has_0.tr kl_rf
theorem kl_B_opens_0 {N : Nat} {u : RSt}  : KL (B_opens_0 N u) u := by
  unfold B_opens_0
  refine KL_pu ?_
  refine KL_if ?_ ?_
  · skip
    exact KL_some (fl_sI (by decide) kl_rf)
  · skip
    refine KL_rd (fun _ => ?_)
    refine KL_bn (kl_F_bad.tr (fl_sI (by decide) kl_rf)) (fun _ _ => ?_)
    exact KL_some kl_rf
theorem kl_F_opens {N : Nat} {u : RSt}  : KL (F_opens N u) u := by
  unfold F_opens
  exact kl_B_opens_0.tr kl_rf
theorem kl_B_begins_0 {N : Nat} {l1 : Int32} {u : RSt}  : KL (B_begins_0 N l1 u) u := by
  unfold B_begins_0
  refine KL_bn (kl_F_is.tr kl_rf) (fun _ _ => ?_)
  refine KL_if ?_ ?_
  · skip
    refine KL_bn (kl_F_stuck.tr kl_rf) (fun _ _ => ?_)
    exact KL_some kl_rf
  · skip
    refine KL_bn (kl_F_opens.tr kl_rf) (fun _ _ => ?_)
    refine KL_if ?_ ?_
    · skip
      refine KL_pu ?_
      exact KL_some (fl_sI (by decide) kl_rf)
    · skip
      exact KL_some kl_rf
theorem kl_F_begins {N : Nat} {l1 : Int32} {u : RSt}  : KL (F_begins N l1 u) u := by
  unfold F_begins
  exact kl_B_begins_0.tr kl_rf
theorem kl_B_ends_0 {N : Nat} {l1 : Int32} {u : RSt}  : KL (B_ends_0 N l1 u) u := by
  unfold B_ends_0
  refine KL_bn (kl_F_take.tr kl_rf) (fun _ _ => ?_)
  refine KL_pu ?_
  exact KL_some (fl_sI (by decide) kl_rf)
theorem kl_F_ends {N : Nat} {l1 : Int32} {u : RSt}  : KL (F_ends N l1 u) u := by
  unfold F_ends
  exact kl_B_ends_0.tr kl_rf
theorem kl_B_isNumber_16 {N : Nat} {u : RSt}  : KL (B_isNumber_16 N u) u := by
  unfold B_isNumber_16
  exact KL_some kl_rf
theorem kl_B_isNumber_0 {N : Nat} {u : RSt}  : KL (B_isNumber_0 N u) u := by
  unfold B_isNumber_0
  refine KL_bn (kl_F_is.tr kl_rf) (fun _ _ => ?_)
  refine KL_if ?_ ?_
  · skip
    refine KL_bn (kl_F_is.tr kl_rf) (fun _ _ => ?_)
    refine KL_if ?_ ?_
    · skip
      exact KL_some kl_rf
    · skip
      exact kl_B_isNumber_16.tr kl_rf
  · skip
    exact kl_B_isNumber_16.tr kl_rf
theorem kl_F_isNumber {N : Nat} {u : RSt}  : KL (F_isNumber N u) u := by
  unfold F_isNumber
  exact kl_B_isNumber_0.tr kl_rf
theorem kl_B_emit_0 {N : Nat} {l1 : Int32} {l2 : Int32} {l3 : Int32} {u : RSt}  : KL (B_emit_0 N l1 l2 l3 u) u := by
  unfold B_emit_0
  refine KL_if ?_ ?_
  · skip
    exact KL_some kl_rf
  · skip
    refine KL_if ?_ ?_
    · skip
      refine KL_rd (fun _ => ?_)
      refine KL_rd (fun _ => ?_)
      refine KL_wr ?_
      refine KL_wr ?_
      refine KL_wr ?_
      refine KL_wr ?_
      exact KL_some (fl_sA (by decide) (fl_sA (by decide) (fl_sA (by decide) (fl_sA (by decide) kl_rf))))
    · skip
      exact KL_some kl_rf
theorem kl_F_emit {N : Nat} {l1 : Int32} {l2 : Int32} {l3 : Int32} {u : RSt}  : KL (F_emit N l1 l2 l3 u) u := by
  unfold F_emit
  exact kl_B_emit_0.tr kl_rf
theorem kl_B_cost_0 {N : Nat} {l1 : Int32} {u : RSt}  : KL (B_cost_0 N l1 u) u := by
  unfold B_cost_0
  refine KL_bn (kl_F_emit.tr kl_rf) (fun _ _ => ?_)
  exact KL_some kl_rf
theorem kl_F_cost {N : Nat} {l1 : Int32} {u : RSt}  : KL (F_cost N l1 u) u := by
  unfold F_cost
  exact kl_B_cost_0.tr kl_rf
theorem kl_B_push_0 {N : Nat} {l1 : Int64} {u : RSt}  : KL (B_push_0 N l1 u) u := by
  unfold B_push_0
  refine KL_bn (kl_F_emit.tr kl_rf) (fun _ _ => ?_)
  refine KL_if ?_ ?_
  · skip
    exact KL_some kl_rf
  · skip
    refine KL_if ?_ ?_
    · skip
      refine KL_wr ?_
      exact KL_some (fl_sB (by decide) kl_rf)
    · skip
      exact KL_some kl_rf
theorem kl_F_push {N : Nat} {l1 : Int64} {u : RSt}  : KL (F_push N l1 u) u := by
  unfold F_push
  exact kl_B_push_0.tr kl_rf
theorem kl_B_here_0 {N : Nat} {u : RSt}  : KL (B_here_0 N u) u := by
  unfold B_here_0
  refine KL_rd (fun _ => ?_)
  exact KL_some kl_rf
theorem kl_F_here {N : Nat} {u : RSt}  : KL (F_here N u) u := by
  unfold F_here
  exact kl_B_here_0.tr kl_rf
theorem kl_B_lead_0 {N : Nat} {l1 : Int32} {u : RSt}  : KL (B_lead_0 N l1 u) u := by
  unfold B_lead_0
  refine KL_if ?_ ?_
  · skip
    exact KL_some kl_rf
  · skip
    refine KL_if ?_ ?_
    · skip
      refine KL_bn (kl_F_here.tr kl_rf) (fun _ _ => ?_)
      refine KL_wr ?_
      exact KL_some (fl_sA (by decide) kl_rf)
    · skip
      exact KL_some kl_rf
theorem kl_F_lead {N : Nat} {l1 : Int32} {u : RSt}  : KL (F_lead N l1 u) u := by
  unfold F_lead
  exact kl_B_lead_0.tr kl_rf
theorem kl_B_kind_33 {N : Nat} {u : RSt}  : KL (B_kind_33 N u) u := by
  unfold B_kind_33
  refine KL_bn (kl_F_stuck.tr kl_rf) (fun _ _ => ?_)
  exact KL_some kl_rf
theorem kl_B_kind_23 {N : Nat} {s0 : Int32} {u : RSt}  : KL (B_kind_23 N s0 u) u := by
  unfold B_kind_23
  refine KL_if ?_ ?_
  · skip
    exact kl_B_kind_33.tr kl_rf
  · skip
    refine KL_if ?_ ?_
    · skip
      refine KL_pu ?_
      exact KL_some (fl_sI (by decide) kl_rf)
    · skip
      exact kl_B_kind_33.tr kl_rf
theorem kl_B_kind_0 {N : Nat} {u : RSt}  : KL (B_kind_0 N u) u := by
  unfold B_kind_0
  refine KL_if ?_ ?_
  · skip
    refine KL_rd (fun _ => ?_)
    exact kl_B_kind_23.tr kl_rf
  · skip
    exact kl_B_kind_23.tr kl_rf
theorem kl_F_kind {N : Nat} {u : RSt}  : KL (F_kind N u) u := by
  unfold F_kind
  exact kl_B_kind_0.tr kl_rf
theorem kl_B_isKind_0 {N : Nat} {l1 : Int32} {u : RSt}  : KL (B_isKind_0 N l1 u) u := by
  unfold B_isKind_0
  refine KL_rd (fun _ => ?_)
  refine KL_if ?_ ?_
  · skip
    exact KL_some kl_rf
  · skip
    refine KL_rd (fun _ => ?_)
    refine KL_if ?_ ?_
    · skip
      exact KL_some kl_rf
    · skip
      exact KL_some kl_rf
theorem kl_F_isKind {N : Nat} {l1 : Int32} {u : RSt}  : KL (F_isKind N l1 u) u := by
  unfold F_isKind
  exact kl_B_isKind_0.tr kl_rf
theorem kl_B_named_39 {N : Nat} {R_3 : Int64 × Int64 × Int32 × RSt → Option (Int32 × RSt)} {l1 : Int64} {l3 : Int64} {l5 : Int32} {u : RSt} (h_R_3 : ∀ a, KL (R_3 a) a.2.2.2) : KL (B_named_39 N R_3 l1 l3 l5 u) u := by
  unfold B_named_39
  exact (h_R_3 _).tr kl_rf
theorem kl_B_named_3 {N : Nat} {R_3 : Int64 × Int64 × Int32 × RSt → Option (Int32 × RSt)} {l1 : Int64} {l3 : Int64} {l5 : Int32} {u : RSt} (h_R_3 : ∀ a, KL (R_3 a) a.2.2.2) : KL (B_named_3 N R_3 l1 l3 l5 u) u := by
  unfold B_named_3
  refine KL_if ?_ ?_
  · skip
    exact KL_some kl_rf
  · skip
    refine KL_rd (fun _ => ?_)
    refine KL_if ?_ ?_
    · skip
      refine KL_rd (fun _ => ?_)
      refine KL_if ?_ ?_
      · skip
        exact KL_some kl_rf
      · skip
        exact (kl_B_named_39 h_R_3).tr kl_rf
    · skip
      exact (kl_B_named_39 h_R_3).tr kl_rf
theorem kl_LP_named_3 {N : Nat}  (n : Nat) : ∀ a : Int64 × Int64 × Int32 × RSt, KL (LP_named_3 N n a) a.2.2.2 := by
  induction n with
  | zero => exact fun a r z e => by have e : (none : Option _) = some (r, z) := e; cases e
  | succ n ih =>
    intro a
    show KL (B_named_3 N (LP_named_3 N n) a.1 a.2.1 a.2.2.1 a.2.2.2) a.2.2.2
    exact kl_B_named_3 ih
theorem kl_B_named_0 {N : Nat} {l1 : Int64} {l3 : Int64} {u : RSt}  : KL (B_named_0 N l1 l3 u) u := by
  unfold B_named_0
  exact (kl_LP_named_3  _ _).tr kl_rf
theorem kl_F_named {N : Nat} {l1 : Int64} {l3 : Int64} {u : RSt}  : KL (F_named N l1 l3 u) u := by
  unfold F_named
  exact kl_B_named_0.tr kl_rf
theorem kl_B_slotOf_82 {N : Nat} {R_6 : Int64 × Int64 × Int32 × RSt → Option (Int32 × RSt)} {l1 : Int64} {l3 : Int64} {l5 : Int32} {u : RSt} (h_R_6 : ∀ a, KL (R_6 a) a.2.2.2) : KL (B_slotOf_82 N R_6 l1 l3 l5 u) u := by
  unfold B_slotOf_82
  exact (h_R_6 _).tr kl_rf
theorem kl_B_slotOf_6 {N : Nat} {R_6 : Int64 × Int64 × Int32 × RSt → Option (Int32 × RSt)} {l1 : Int64} {l3 : Int64} {l5 : Int32} {u : RSt} (h_R_6 : ∀ a, KL (R_6 a) a.2.2.2) : KL (B_slotOf_6 N R_6 l1 l3 l5 u) u := by
  unfold B_slotOf_6
  refine KL_if ?_ ?_
  · skip
    exact KL_some kl_rf
  · skip
    refine KL_rd (fun _ => ?_)
    refine KL_if ?_ ?_
    · skip
      exact KL_some kl_rf
    · skip
      refine KL_rd (fun _ => ?_)
      refine KL_if ?_ ?_
      · skip
        refine KL_rd (fun _ => ?_)
        refine KL_if ?_ ?_
        · skip
          exact KL_some kl_rf
        · skip
          exact (kl_B_slotOf_82 h_R_6).tr kl_rf
      · skip
        exact (kl_B_slotOf_82 h_R_6).tr kl_rf
theorem kl_LP_slotOf_6 {N : Nat}  (n : Nat) : ∀ a : Int64 × Int64 × Int32 × RSt, KL (LP_slotOf_6 N n a) a.2.2.2 := by
  induction n with
  | zero => exact fun a r z e => by have e : (none : Option _) = some (r, z) := e; cases e
  | succ n ih =>
    intro a
    show KL (B_slotOf_6 N (LP_slotOf_6 N n) a.1 a.2.1 a.2.2.1 a.2.2.2) a.2.2.2
    exact kl_B_slotOf_6 ih
theorem kl_B_slotOf_0 {N : Nat} {l1 : Int64} {l3 : Int64} {u : RSt}  : KL (B_slotOf_0 N l1 l3 u) u := by
  unfold B_slotOf_0
  exact (kl_LP_slotOf_6  _ _).tr kl_rf
theorem kl_F_slotOf {N : Nat} {l1 : Int64} {l3 : Int64} {u : RSt}  : KL (F_slotOf N l1 l3 u) u := by
  unfold F_slotOf
  exact kl_B_slotOf_0.tr kl_rf
theorem kl_B_own_0 {N : Nat} {l1 : Int32} {u : RSt}  : KL (B_own_0 N l1 u) u := by
  unfold B_own_0
  refine KL_if ?_ ?_
  · skip
    exact KL_some kl_rf
  · skip
    refine KL_rd (fun _ => ?_)
    refine KL_rd (fun _ => ?_)
    refine KL_bn (kl_F_slotOf.tr kl_rf) (fun _ _ => ?_)
    refine KL_if ?_ ?_
    · skip
      refine KL_rd (fun _ => ?_)
      refine KL_rd (fun _ => ?_)
      refine KL_bn (kl_F_named.tr kl_rf) (fun _ _ => ?_)
      refine KL_if ?_ ?_
      · skip
        exact KL_some kl_rf
      · skip
        refine KL_rd (fun _ => ?_)
        refine KL_if ?_ ?_
        · skip
          refine KL_rd (fun _ => ?_)
          exact KL_some kl_rf
        · skip
          exact KL_some kl_rf
    · skip
      exact KL_some kl_rf
theorem kl_F_own {N : Nat} {l1 : Int32} {u : RSt}  : KL (F_own N l1 u) u := by
  unfold F_own
  exact kl_B_own_0.tr kl_rf
theorem kl_B_constant_86 {N : Nat} {s1 : Int64} {u : RSt}  : KL (B_constant_86 N s1 u) u := by
  unfold B_constant_86
  refine KL_pu ?_
  refine KL_pu ?_
  exact KL_some (fl_sI (by decide) (fl_sL kl_rf))
theorem kl_B_constant_28 {N : Nat} {l1 : Int32} {u : RSt}  : KL (B_constant_28 N l1 u) u := by
  unfold B_constant_28
  refine KL_bn (kl_F_is.tr kl_rf) (fun _ _ => ?_)
  refine KL_rd (fun _ => ?_)
  refine KL_bn (kl_F_wrong.tr kl_rf) (fun _ _ => ?_)
  refine KL_if ?_ ?_
  · skip
    refine KL_rd (fun _ => ?_)
    exact kl_B_constant_86.tr kl_rf
  · skip
    refine KL_rd (fun _ => ?_)
    refine KL_rd (fun _ => ?_)
    exact kl_B_constant_86.tr kl_rf
theorem kl_B_constant_0 {N : Nat} {u : RSt}  : KL (B_constant_0 N u) u := by
  unfold B_constant_0
  refine KL_bn (kl_F_has.tr kl_rf) (fun _ _ => ?_)
  refine KL_bn (kl_F_isNumber.tr kl_rf) (fun _ _ => ?_)
  refine KL_if ?_ ?_
  · skip
    refine KL_bn (kl_F_is.tr kl_rf) (fun _ _ => ?_)
    refine KL_if ?_ ?_
    · skip
      refine KL_bn (kl_F_stuck.tr kl_rf) (fun _ _ => ?_)
      exact KL_some kl_rf
    · skip
      exact kl_B_constant_28.tr kl_rf
  · skip
    exact kl_B_constant_28.tr kl_rf
theorem kl_F_constant {N : Nat} {u : RSt}  : KL (F_constant N u) u := by
  unfold F_constant
  exact kl_B_constant_0.tr kl_rf
theorem kl_B_bounded_57 {N : Nat} {s1 : Int32} {u : RSt}  : KL (B_bounded_57 N s1 u) u := by
  unfold B_bounded_57
  refine KL_rd (fun _ => ?_)
  refine KL_bn (kl_F_wrong.tr kl_rf) (fun _ _ => ?_)
  refine KL_pu ?_
  refine KL_rd (fun _ => ?_)
  exact KL_some (fl_sI (by decide) kl_rf)
theorem kl_B_bounded_52 {N : Nat} {u : RSt}  : KL (B_bounded_52 N u) u := by
  unfold B_bounded_52
  exact kl_B_bounded_57.tr kl_rf
theorem kl_B_bounded_0 {N : Nat} {l1 : Int32} {l2 : Int32} {u : RSt}  : KL (B_bounded_0 N l1 l2 u) u := by
  unfold B_bounded_0
  refine KL_bn (kl_F_isNumber.tr kl_rf) (fun _ _ => ?_)
  refine KL_if ?_ ?_
  · skip
    refine KL_bn (kl_F_stuck.tr kl_rf) (fun _ _ => ?_)
    exact KL_some kl_rf
  · skip
    refine KL_bn (kl_F_is.tr kl_rf) (fun _ _ => ?_)
    refine KL_if ?_ ?_
    · skip
      refine KL_rd (fun _ => ?_)
      refine KL_if ?_ ?_
      · skip
        exact kl_B_bounded_52.tr kl_rf
      · skip
        refine KL_rd (fun _ => ?_)
        refine KL_if ?_ ?_
        · skip
          exact kl_B_bounded_57.tr kl_rf
        · skip
          exact kl_B_bounded_52.tr kl_rf
    · skip
      exact kl_B_bounded_52.tr kl_rf
theorem kl_F_bounded {N : Nat} {l1 : Int32} {l2 : Int32} {u : RSt}  : KL (F_bounded N l1 l2 u) u := by
  unfold F_bounded
  exact kl_B_bounded_0.tr kl_rf
theorem kl_B_isTooWide_25 {N : Nat} {l1 : Int32} {l2 : Int32} {u : RSt}  : KL (B_isTooWide_25 N l1 l2 u) u := by
  unfold B_isTooWide_25
  refine KL_if ?_ ?_
  · skip
    refine KL_if ?_ ?_
    · skip
      exact KL_some kl_rf
    · skip
      exact KL_some kl_rf
  · skip
    refine KL_if ?_ ?_
    · skip
      refine KL_if ?_ ?_
      · skip
        exact KL_some kl_rf
      · skip
        exact KL_some kl_rf
    · skip
      refine KL_if ?_ ?_
      · skip
        refine KL_if ?_ ?_
        · skip
          exact KL_some kl_rf
        · skip
          exact KL_some kl_rf
      · skip
        refine KL_if ?_ ?_
        · skip
          refine KL_if ?_ ?_
          · skip
            exact KL_some kl_rf
          · skip
            exact KL_some kl_rf
        · skip
          exact KL_some kl_rf
theorem kl_B_isTooWide_0 {N : Nat} {l1 : Int32} {l2 : Int32} {u : RSt}  : KL (B_isTooWide_0 N l1 l2 u) u := by
  unfold B_isTooWide_0
  refine KL_if ?_ ?_
  · skip
    exact KL_some kl_rf
  · skip
    refine KL_if ?_ ?_
    · skip
      exact kl_B_isTooWide_25.tr kl_rf
    · skip
      refine KL_if ?_ ?_
      · skip
        exact kl_B_isTooWide_25.tr kl_rf
      · skip
        exact KL_some kl_rf
theorem kl_F_isTooWide {N : Nat} {l1 : Int32} {l2 : Int32} {u : RSt}  : KL (F_isTooWide N l1 l2 u) u := by
  unfold F_isTooWide
  exact kl_B_isTooWide_0.tr kl_rf
theorem kl_B_strength_193 {N : Nat} {u : RSt}  : KL (B_strength_193 N u) u := by
  unfold B_strength_193
  exact KL_some kl_rf
theorem kl_B_strength_228 {N : Nat} {u : RSt}  : KL (B_strength_228 N u) u := by
  unfold B_strength_228
  exact KL_some kl_rf
theorem kl_B_strength_278 {N : Nat} {u : RSt}  : KL (B_strength_278 N u) u := by
  unfold B_strength_278
  exact KL_some kl_rf
theorem kl_B_strength_0 {N : Nat} {u : RSt}  : KL (B_strength_0 N u) u := by
  unfold B_strength_0
  refine KL_if ?_ ?_
  · skip
    refine KL_rd (fun _ => ?_)
    refine KL_if ?_ ?_
    · skip
      exact KL_some kl_rf
    · skip
      refine KL_if ?_ ?_
      · skip
        exact KL_some kl_rf
      · skip
        refine KL_if ?_ ?_
        · skip
          exact KL_some kl_rf
        · skip
          refine KL_if ?_ ?_
          · skip
            exact KL_some kl_rf
          · skip
            refine KL_if ?_ ?_
            · skip
              exact KL_some kl_rf
            · skip
              refine KL_if ?_ ?_
              · skip
                exact KL_some kl_rf
              · skip
                refine KL_if ?_ ?_
                · skip
                  exact KL_some kl_rf
                · skip
                  refine KL_if ?_ ?_
                  · skip
                    exact KL_some kl_rf
                  · skip
                    refine KL_if ?_ ?_
                    · skip
                      exact KL_some kl_rf
                    · skip
                      refine KL_if ?_ ?_
                      · skip
                        exact KL_some kl_rf
                      · skip
                        refine KL_if ?_ ?_
                        · skip
                          exact KL_some kl_rf
                        · skip
                          refine KL_rd (fun _ => ?_)
                          refine KL_if ?_ ?_
                          · skip
                            exact kl_B_strength_193.tr kl_rf
                          · skip
                            refine KL_rd (fun _ => ?_)
                            refine KL_if ?_ ?_
                            · skip
                              exact kl_B_strength_193.tr kl_rf
                            · skip
                              refine KL_rd (fun _ => ?_)
                              refine KL_if ?_ ?_
                              · skip
                                exact kl_B_strength_193.tr kl_rf
                              · skip
                                refine KL_rd (fun _ => ?_)
                                refine KL_if ?_ ?_
                                · skip
                                  exact kl_B_strength_228.tr kl_rf
                                · skip
                                  refine KL_rd (fun _ => ?_)
                                  refine KL_if ?_ ?_
                                  · skip
                                    exact kl_B_strength_228.tr kl_rf
                                  · skip
                                    refine KL_rd (fun _ => ?_)
                                    refine KL_if ?_ ?_
                                    · skip
                                      exact kl_B_strength_278.tr kl_rf
                                    · skip
                                      refine KL_rd (fun _ => ?_)
                                      refine KL_if ?_ ?_
                                      · skip
                                        exact kl_B_strength_278.tr kl_rf
                                      · skip
                                        refine KL_rd (fun _ => ?_)
                                        refine KL_if ?_ ?_
                                        · skip
                                          exact kl_B_strength_278.tr kl_rf
                                        · skip
                                          exact KL_some kl_rf
  · skip
    exact KL_some kl_rf
theorem kl_F_strength {N : Nat} {u : RSt}  : KL (F_strength N u) u := by
  unfold F_strength
  exact kl_B_strength_0.tr kl_rf
theorem kl_B_joined_139 {N : Nat} {l6 : Int32} {s0 : Int32} {u : RSt}  : KL (B_joined_139 N l6 s0 u) u := by
  unfold B_joined_139
  refine KL_if ?_ ?_
  · skip
    exact KL_some kl_rf
  · skip
    refine KL_if ?_ ?_
    · skip
      exact KL_some kl_rf
    · skip
      exact KL_some kl_rf
theorem kl_B_joined_134 {N : Nat} {l6 : Int32} {u : RSt}  : KL (B_joined_134 N l6 u) u := by
  unfold B_joined_134
  exact kl_B_joined_139.tr kl_rf
theorem kl_B_joined_92 {N : Nat} {l1 : Int32} {l6 : Int32} {u : RSt}  : KL (B_joined_92 N l1 l6 u) u := by
  unfold B_joined_92
  refine KL_if ?_ ?_
  · skip
    exact kl_B_joined_134.tr kl_rf
  · skip
    refine KL_if ?_ ?_
    · skip
      exact kl_B_joined_134.tr kl_rf
    · skip
      refine KL_if ?_ ?_
      · skip
        exact kl_B_joined_134.tr kl_rf
      · skip
        refine KL_if ?_ ?_
        · skip
          exact kl_B_joined_134.tr kl_rf
        · skip
          refine KL_if ?_ ?_
          · skip
            exact kl_B_joined_134.tr kl_rf
          · skip
            refine KL_if ?_ ?_
            · skip
              exact kl_B_joined_134.tr kl_rf
            · skip
              exact kl_B_joined_139.tr kl_rf
theorem kl_B_joined_91 {N : Nat} {l1 : Int32} {l6 : Int32} {s1 : Int32} {s2 : Int64} {u : RSt}  : KL (B_joined_91 N l1 l6 s1 s2 u) u := by
  unfold B_joined_91
  refine KL_wr ?_
  exact kl_B_joined_92.tr (fl_sB (by decide) kl_rf)
theorem kl_B_joined_49 {N : Nat} {l1 : Int32} {l2 : Int32} {s0 : Int32} {u : RSt}  : KL (B_joined_49 N l1 l2 s0 u) u := by
  unfold B_joined_49
  refine KL_bn (kl_F_emit.tr kl_rf) (fun _ _ => ?_)
  refine KL_if ?_ ?_
  · skip
    exact kl_B_joined_92.tr kl_rf
  · skip
    refine KL_if ?_ ?_
    · skip
      refine KL_if ?_ ?_
      · skip
        exact kl_B_joined_91.tr kl_rf
      · skip
        exact kl_B_joined_91.tr kl_rf
    · skip
      exact kl_B_joined_92.tr kl_rf
theorem kl_B_joined_44 {N : Nat} {l1 : Int32} {l2 : Int32} {u : RSt}  : KL (B_joined_44 N l1 l2 u) u := by
  unfold B_joined_44
  exact kl_B_joined_49.tr kl_rf
theorem kl_B_joined_48 {N : Nat} {l1 : Int32} {l2 : Int32} {u : RSt}  : KL (B_joined_48 N l1 l2 u) u := by
  unfold B_joined_48
  exact kl_B_joined_49.tr kl_rf
theorem kl_B_joined_26 {N : Nat} {l1 : Int32} {l2 : Int32} {l3 : Int32} {l4 : Int32} {s0 : Int32} {u : RSt}  : KL (B_joined_26 N l1 l2 l3 l4 s0 u) u := by
  unfold B_joined_26
  refine KL_if ?_ ?_
  · skip
    exact kl_B_joined_44.tr kl_rf
  · skip
    refine KL_if ?_ ?_
    · skip
      refine KL_if ?_ ?_
      · skip
        exact kl_B_joined_44.tr kl_rf
      · skip
        exact kl_B_joined_48.tr kl_rf
    · skip
      exact kl_B_joined_48.tr kl_rf
theorem kl_B_joined_21 {N : Nat} {l1 : Int32} {l2 : Int32} {l3 : Int32} {l4 : Int32} {u : RSt}  : KL (B_joined_21 N l1 l2 l3 l4 u) u := by
  unfold B_joined_21
  exact kl_B_joined_26.tr kl_rf
theorem kl_B_joined_0 {N : Nat} {l1 : Int32} {l2 : Int32} {l3 : Int32} {l4 : Int32} {u : RSt}  : KL (B_joined_0 N l1 l2 l3 l4 u) u := by
  unfold B_joined_0
  refine KL_if ?_ ?_
  · skip
    exact kl_B_joined_21.tr kl_rf
  · skip
    refine KL_if ?_ ?_
    · skip
      exact kl_B_joined_21.tr kl_rf
    · skip
      refine KL_if ?_ ?_
      · skip
        exact kl_B_joined_21.tr kl_rf
      · skip
        exact kl_B_joined_26.tr kl_rf
theorem kl_F_joined {N : Nat} {l1 : Int32} {l2 : Int32} {l3 : Int32} {l4 : Int32} {u : RSt}  : KL (F_joined N l1 l2 l3 l4 u) u := by
  unfold F_joined
  exact kl_B_joined_0.tr kl_rf
theorem kl_B_leadAll_2 {N : Nat} {R_2 : Int32 × RSt → Option (Int32 × RSt)} {l2 : Int32} {u : RSt} (h_R_2 : ∀ a, KL (R_2 a) a.2) : KL (B_leadAll_2 N R_2 l2 u) u := by
  unfold B_leadAll_2
  refine KL_if ?_ ?_
  · skip
    exact KL_some kl_rf
  · skip
    refine KL_if ?_ ?_
    · skip
      refine KL_if ?_ ?_
      · skip
        exact KL_some kl_rf
      · skip
        refine KL_rd (fun _ => ?_)
        refine KL_bn (kl_F_here.tr kl_rf) (fun _ _ => ?_)
        refine KL_wr ?_
        exact (h_R_2 _).tr (fl_sA (by decide) kl_rf)
    · skip
      exact KL_some kl_rf
theorem kl_LP_leadAll_2 {N : Nat}  (n : Nat) : ∀ a : Int32 × RSt, KL (LP_leadAll_2 N n a) a.2 := by
  induction n with
  | zero => exact fun a r z e => by have e : (none : Option _) = some (r, z) := e; cases e
  | succ n ih =>
    intro a
    show KL (B_leadAll_2 N (LP_leadAll_2 N n) a.1 a.2) a.2
    exact kl_B_leadAll_2 ih
theorem kl_B_leadAll_0 {N : Nat} {l1 : Int32} {u : RSt}  : KL (B_leadAll_0 N l1 u) u := by
  unfold B_leadAll_0
  exact (kl_LP_leadAll_2  _ _).tr kl_rf
theorem kl_F_leadAll {N : Nat} {l1 : Int32} {u : RSt}  : KL (F_leadAll N l1 u) u := by
  unfold F_leadAll
  exact kl_B_leadAll_0.tr kl_rf
theorem kl_B_loop_0 {N : Nat} {u : RSt}  : KL (B_loop_0 N u) u := by
  unfold B_loop_0
  refine KL_wr ?_
  refine KL_wr ?_
  refine KL_pu ?_
  exact KL_some (fl_sI (by decide) (fl_sA (by decide) (fl_sA (by decide) kl_rf)))
theorem kl_F_loop {N : Nat} {u : RSt}  : KL (F_loop N u) u := by
  unfold F_loop
  exact kl_B_loop_0.tr kl_rf
theorem kl_B_label_59 {N : Nat} {l1 : Int64} {l3 : Int64} {u : RSt}  : KL (B_label_59 N l1 l3 u) u := by
  unfold B_label_59
  refine KL_bn (kl_F_emit.tr kl_rf) (fun _ _ => ?_)
  refine KL_if ?_ ?_
  · skip
    exact KL_some kl_rf
  · skip
    refine KL_if ?_ ?_
    · skip
      refine KL_wr ?_
      refine KL_wr ?_
      exact KL_some (fl_sB (by decide) (fl_sB (by decide) kl_rf))
    · skip
      exact KL_some kl_rf
theorem kl_B_label_53 {N : Nat} {l1 : Int64} {l3 : Int64} {l5 : Int32} {s1 : Int32} {u : RSt}  : KL (B_label_53 N l1 l3 l5 s1 u) u := by
  unfold B_label_53
  refine KL_bn (kl_F_wrong.tr kl_rf) (fun _ _ => ?_)
  exact kl_B_label_59.tr kl_rf
theorem kl_B_label_0 {N : Nat} {u : RSt}  : KL (B_label_0 N u) u := by
  unfold B_label_0
  refine KL_bn (kl_F_constant.tr kl_rf) (fun _ _ => ?_)
  refine KL_bn (kl_F_has.tr kl_rf) (fun _ _ => ?_)
  refine KL_if ?_ ?_
  · skip
    exact kl_B_label_59.tr kl_rf
  · skip
    refine KL_rd (fun _ => ?_)
    refine KL_bn (kl_F_constant.tr kl_rf) (fun _ _ => ?_)
    refine KL_if ?_ ?_
    · skip
      exact kl_B_label_53.tr kl_rf
    · skip
      exact kl_B_label_53.tr kl_rf
theorem kl_F_label {N : Nat} {u : RSt}  : KL (F_label N u) u := by
  unfold F_label
  exact kl_B_label_0.tr kl_rf
theorem kl_B_leaves_94 {N : Nat} {u : RSt}  : KL (B_leaves_94 N u) u := by
  unfold B_leaves_94
  refine KL_bn (kl_F_take.tr kl_rf) (fun _ _ => ?_)
  exact KL_some kl_rf
theorem kl_B_leaves_63 {N : Nat} {l1 : Int32} {l3 : Int32} {s1 : Int32} {s2 : Int32} {u : RSt}  : KL (B_leaves_63 N l1 l3 s1 s2 u) u := by
  unfold B_leaves_63
  refine KL_bn (kl_F_emit.tr kl_rf) (fun _ _ => ?_)
  refine KL_if ?_ ?_
  · skip
    refine KL_wr ?_
    exact kl_B_leaves_94.tr (fl_sA (by decide) kl_rf)
  · skip
    refine KL_wr ?_
    exact kl_B_leaves_94.tr (fl_sA (by decide) kl_rf)
theorem kl_B_leaves_13 {N : Nat} {l1 : Int32} {l2 : Int32} {s1 : Int32} {u : RSt}  : KL (B_leaves_13 N l1 l2 s1 u) u := by
  unfold B_leaves_13
  refine KL_bn (kl_F_wrong.tr kl_rf) (fun _ _ => ?_)
  refine KL_if ?_ ?_
  · skip
    exact kl_B_leaves_94.tr kl_rf
  · skip
    refine KL_if ?_ ?_
    · skip
      refine KL_if ?_ ?_
      · skip
        refine KL_rd (fun _ => ?_)
        exact kl_B_leaves_63.tr kl_rf
      · skip
        refine KL_rd (fun _ => ?_)
        exact kl_B_leaves_63.tr kl_rf
    · skip
      exact kl_B_leaves_94.tr kl_rf
theorem kl_B_leaves_0 {N : Nat} {l1 : Int32} {l2 : Int32} {u : RSt}  : KL (B_leaves_0 N l1 l2 u) u := by
  unfold B_leaves_0
  refine KL_if ?_ ?_
  · skip
    exact kl_B_leaves_13.tr kl_rf
  · skip
    exact kl_B_leaves_13.tr kl_rf
theorem kl_F_leaves {N : Nat} {l1 : Int32} {l2 : Int32} {u : RSt}  : KL (F_leaves N l1 l2 u) u := by
  unfold F_leaves
  exact kl_B_leaves_0.tr kl_rf
theorem kl_B_expression_119 {N : Nat} {ro : Nat → Int32 → Int32 → RSt → Option (Int32 × RSt)} {u : RSt} (h_ro : ∀ q a b u, KL (ro q a b u) u) : KL (B_expression_119 N ro u) u := by
  unfold B_expression_119
  exact KL_some kl_rf
theorem kl_B_expression_0 {N : Nat} {ro : Nat → Int32 → Int32 → RSt → Option (Int32 × RSt)} {u : RSt} (h_ro : ∀ q a b u, KL (ro q a b u) u) : KL (B_expression_0 N ro u) u := by
  unfold B_expression_0
  refine KL_bn ((h_ro _ _ _ _).tr kl_rf) (fun _ _ => ?_)
  refine KL_bn (kl_F_is.tr kl_rf) (fun _ _ => ?_)
  refine KL_if ?_ ?_
  · skip
    exact KL_some kl_rf
  · skip
    refine KL_bn (kl_F_opens.tr kl_rf) (fun _ _ => ?_)
    refine KL_rd (fun _ => ?_)
    refine KL_bn (kl_F_cost.tr kl_rf) (fun _ _ => ?_)
    refine KL_pu ?_
    refine KL_bn (kl_F_emit.tr (fl_sI (by decide) kl_rf)) (fun _ _ => ?_)
    refine KL_bn ((h_ro _ _ _ _).tr kl_rf) (fun _ _ => ?_)
    refine KL_bn (kl_F_emit.tr kl_rf) (fun _ _ => ?_)
    refine KL_bn (kl_F_lead.tr kl_rf) (fun _ _ => ?_)
    refine KL_bn (kl_F_take.tr kl_rf) (fun _ _ => ?_)
    refine KL_bn ((h_ro _ _ _ _).tr kl_rf) (fun _ _ => ?_)
    refine KL_bn (kl_F_lead.tr kl_rf) (fun _ _ => ?_)
    refine KL_pu ?_
    refine KL_pu ?_
    refine KL_if ?_ ?_
    · skip
      exact (kl_B_expression_119 h_ro).tr (fl_sI (by decide) (fl_sI (by decide) kl_rf))
    · skip
      refine KL_if ?_ ?_
      · skip
        exact (kl_B_expression_119 h_ro).tr (fl_sI (by decide) (fl_sI (by decide) kl_rf))
      · skip
        exact KL_some (fl_sI (by decide) (fl_sI (by decide) kl_rf))
theorem kl_F_expression {N : Nat} {ro : Nat → Int32 → Int32 → RSt → Option (Int32 × RSt)} {u : RSt} (h_ro : ∀ q a b u, KL (ro q a b u) u) : KL (F_expression N ro u) u := by
  unfold F_expression
  exact (kl_B_expression_0 h_ro).tr kl_rf
theorem kl_B_two_159 {N : Nat} {ro : Nat → Int32 → Int32 → RSt → Option (Int32 × RSt)} {R_10 : Int32 × Int32 × Int32 × RSt → Option (Int32 × RSt)} {l1 : Int32} {l2 : Int32} {u : RSt} (h_ro : ∀ q a b u, KL (ro q a b u) u) (h_R_10 : ∀ a, KL (R_10 a) a.2.2.2) : KL (B_two_159 N ro R_10 l1 l2 u) u := by
  unfold B_two_159
  refine KL_pu ?_
  refine KL_bn (kl_F_strength.tr (fl_sI (by decide) kl_rf)) (fun _ _ => ?_)
  exact (h_R_10 _).tr kl_rf
theorem kl_B_two_124 {N : Nat} {ro : Nat → Int32 → Int32 → RSt → Option (Int32 × RSt)} {R_10 : Int32 × Int32 × Int32 × RSt → Option (Int32 × RSt)} {l1 : Int32} {l8 : Int32} {s1 : Int64} {u : RSt} (h_ro : ∀ q a b u, KL (ro q a b u) u) (h_R_10 : ∀ a, KL (R_10 a) a.2.2.2) : KL (B_two_124 N ro R_10 l1 l8 s1 u) u := by
  unfold B_two_124
  refine KL_bn (kl_F_push.tr kl_rf) (fun _ _ => ?_)
  refine KL_bn (kl_F_lead.tr kl_rf) (fun _ _ => ?_)
  exact (kl_B_two_159 h_ro h_R_10).tr kl_rf
theorem kl_B_two_71 {N : Nat} {ro : Nat → Int32 → Int32 → RSt → Option (Int32 × RSt)} {R_10 : Int32 × Int32 × Int32 × RSt → Option (Int32 × RSt)} {l1 : Int32} {l3 : Int32} {s1 : Int32} {u : RSt} (h_ro : ∀ q a b u, KL (ro q a b u) u) (h_R_10 : ∀ a, KL (R_10 a) a.2.2.2) : KL (B_two_71 N ro R_10 l1 l3 s1 u) u := by
  unfold B_two_71
  refine KL_bn (kl_F_emit.tr kl_rf) (fun _ _ => ?_)
  refine KL_bn ((h_ro _ _ _ _).tr kl_rf) (fun _ _ => ?_)
  refine KL_bn (kl_F_emit.tr kl_rf) (fun _ _ => ?_)
  refine KL_bn (kl_F_emit.tr kl_rf) (fun _ _ => ?_)
  refine KL_bn (kl_F_lead.tr kl_rf) (fun _ _ => ?_)
  refine KL_if ?_ ?_
  · skip
    exact (kl_B_two_124 h_ro h_R_10).tr kl_rf
  · skip
    exact (kl_B_two_124 h_ro h_R_10).tr kl_rf
theorem kl_B_two_10 {N : Nat} {ro : Nat → Int32 → Int32 → RSt → Option (Int32 × RSt)} {R_10 : Int32 × Int32 × Int32 × RSt → Option (Int32 × RSt)} {l1 : Int32} {l2 : Int32} {l3 : Int32} {u : RSt} (h_ro : ∀ q a b u, KL (ro q a b u) u) (h_R_10 : ∀ a, KL (R_10 a) a.2.2.2) : KL (B_two_10 N ro R_10 l1 l2 l3 u) u := by
  unfold B_two_10
  refine KL_if ?_ ?_
  · skip
    exact KL_some kl_rf
  · skip
    refine KL_rd (fun _ => ?_)
    refine KL_rd (fun _ => ?_)
    refine KL_pu ?_
    refine KL_bn (kl_F_cost.tr (fl_sI (by decide) kl_rf)) (fun _ _ => ?_)
    refine KL_if ?_ ?_
    · skip
      refine KL_bn ((h_ro _ _ _ _).tr kl_rf) (fun _ _ => ?_)
      refine KL_bn (kl_F_joined.tr kl_rf) (fun _ _ => ?_)
      exact (kl_B_two_159 h_ro h_R_10).tr kl_rf
    · skip
      refine KL_if ?_ ?_
      · skip
        exact (kl_B_two_71 h_ro h_R_10).tr kl_rf
      · skip
        exact (kl_B_two_71 h_ro h_R_10).tr kl_rf
theorem kl_LP_two_10 {N : Nat} {ro : Nat → Int32 → Int32 → RSt → Option (Int32 × RSt)} (h_ro : ∀ q a b u, KL (ro q a b u) u) (n : Nat) : ∀ a : Int32 × Int32 × Int32 × RSt, KL (LP_two_10 N ro n a) a.2.2.2 := by
  induction n with
  | zero => exact fun a r z e => by have e : (none : Option _) = some (r, z) := e; cases e
  | succ n ih =>
    intro a
    show KL (B_two_10 N ro (LP_two_10 N ro n) a.1 a.2.1 a.2.2.1 a.2.2.2) a.2.2.2
    exact kl_B_two_10 h_ro ih
theorem kl_B_two_0 {N : Nat} {ro : Nat → Int32 → Int32 → RSt → Option (Int32 × RSt)} {l1 : Int32} {u : RSt} (h_ro : ∀ q a b u, KL (ro q a b u) u) : KL (B_two_0 N ro l1 u) u := by
  unfold B_two_0
  refine KL_bn ((h_ro _ _ _ _).tr kl_rf) (fun _ _ => ?_)
  refine KL_bn (kl_F_strength.tr kl_rf) (fun _ _ => ?_)
  exact (kl_LP_two_10 h_ro _ _).tr kl_rf
theorem kl_F_two {N : Nat} {ro : Nat → Int32 → Int32 → RSt → Option (Int32 × RSt)} {l1 : Int32} {u : RSt} (h_ro : ∀ q a b u, KL (ro q a b u) u) : KL (F_two N ro l1 u) u := by
  unfold F_two
  exact (kl_B_two_0 h_ro).tr kl_rf
theorem kl_B_operand_40 {N : Nat} {ro : Nat → Int32 → Int32 → RSt → Option (Int32 × RSt)} {l1 : Int32} {u : RSt} (h_ro : ∀ q a b u, KL (ro q a b u) u) : KL (B_operand_40 N ro l1 u) u := by
  unfold B_operand_40
  refine KL_bn ((h_ro _ _ _ _).tr kl_rf) (fun _ _ => ?_)
  exact KL_some kl_rf
theorem kl_B_operand_141 {N : Nat} {ro : Nat → Int32 → Int32 → RSt → Option (Int32 × RSt)} {s1 : Int32} {u : RSt} (h_ro : ∀ q a b u, KL (ro q a b u) u) : KL (B_operand_141 N ro s1 u) u := by
  unfold B_operand_141
  refine KL_rd (fun _ => ?_)
  refine KL_bn (kl_F_wrong.tr kl_rf) (fun _ _ => ?_)
  refine KL_rd (fun _ => ?_)
  refine KL_bn (kl_F_cost.tr kl_rf) (fun _ _ => ?_)
  refine KL_rd (fun _ => ?_)
  refine KL_bn (kl_F_push.tr kl_rf) (fun _ _ => ?_)
  refine KL_pu ?_
  refine KL_rd (fun _ => ?_)
  refine KL_pu ?_
  refine KL_pu ?_
  refine KL_rd (fun _ => ?_)
  refine KL_if ?_ ?_
  · skip
    exact KL_some (fl_sI (by decide) (fl_sL (fl_sI (by decide) kl_rf)))
  · skip
    exact KL_some (fl_sI (by decide) (fl_sL (fl_sI (by decide) kl_rf)))
theorem kl_B_operand_130 {N : Nat} {ro : Nat → Int32 → Int32 → RSt → Option (Int32 × RSt)} {l1 : Int32} {u : RSt} (h_ro : ∀ q a b u, KL (ro q a b u) u) : KL (B_operand_130 N ro l1 u) u := by
  unfold B_operand_130
  refine KL_if ?_ ?_
  · skip
    exact (kl_B_operand_141 h_ro).tr kl_rf
  · skip
    exact (kl_B_operand_141 h_ro).tr kl_rf
theorem kl_B_operand_366 {N : Nat} {ro : Nat → Int32 → Int32 → RSt → Option (Int32 × RSt)} {u : RSt} (h_ro : ∀ q a b u, KL (ro q a b u) u) : KL (B_operand_366 N ro u) u := by
  unfold B_operand_366
  refine KL_pu ?_
  refine KL_if ?_ ?_
  · skip
    exact KL_some (fl_sI (by decide) kl_rf)
  · skip
    exact KL_some (fl_sI (by decide) kl_rf)
theorem kl_B_operand_329 {N : Nat} {ro : Nat → Int32 → Int32 → RSt → Option (Int32 × RSt)} {u : RSt} (h_ro : ∀ q a b u, KL (ro q a b u) u) : KL (B_operand_329 N ro u) u := by
  unfold B_operand_329
  refine KL_bn ((h_ro _ _ _ _).tr kl_rf) (fun _ _ => ?_)
  refine KL_bn (kl_F_emit.tr kl_rf) (fun _ _ => ?_)
  refine KL_if ?_ ?_
  · skip
    exact (kl_B_operand_366 h_ro).tr kl_rf
  · skip
    refine KL_bn (kl_F_emit.tr kl_rf) (fun _ _ => ?_)
    exact (kl_B_operand_366 h_ro).tr kl_rf
theorem kl_B_operand_71 {N : Nat} {ro : Nat → Int32 → Int32 → RSt → Option (Int32 × RSt)} {l1 : Int32} {u : RSt} (h_ro : ∀ q a b u, KL (ro q a b u) u) : KL (B_operand_71 N ro l1 u) u := by
  unfold B_operand_71
  refine KL_if ?_ ?_
  · skip
    refine KL_bn (kl_F_begins.tr kl_rf) (fun _ _ => ?_)
    refine KL_bn ((h_ro _ _ _ _).tr kl_rf) (fun _ _ => ?_)
    refine KL_bn (kl_F_ends.tr kl_rf) (fun _ _ => ?_)
    refine KL_if ?_ ?_
    · skip
      refine KL_pu ?_
      exact KL_some (fl_sI (by decide) kl_rf)
    · skip
      refine KL_pu ?_
      exact KL_some (fl_sI (by decide) kl_rf)
  · skip
    refine KL_if ?_ ?_
    · skip
      exact (kl_B_operand_130 h_ro).tr kl_rf
    · skip
      refine KL_if ?_ ?_
      · skip
        exact (kl_B_operand_130 h_ro).tr kl_rf
      · skip
        refine KL_if ?_ ?_
        · skip
          exact (kl_B_operand_130 h_ro).tr kl_rf
        · skip
          refine KL_pu ?_
          refine KL_if ?_ ?_
          · skip
            refine KL_rd (fun _ => ?_)
            refine KL_bn (kl_F_cost.tr (fl_sI (by decide) kl_rf)) (fun _ _ => ?_)
            refine KL_bn (kl_F_emit.tr kl_rf) (fun _ _ => ?_)
            refine KL_pu ?_
            exact KL_some (fl_sI (by decide) kl_rf)
          · skip
            refine KL_if ?_ ?_
            · skip
              refine KL_bn (kl_F_isNext.tr (fl_sI (by decide) kl_rf)) (fun _ _ => ?_)
              refine KL_if ?_ ?_
              · skip
                refine KL_bn (kl_F_isNext.tr kl_rf) (fun _ _ => ?_)
                refine KL_if ?_ ?_
                · skip
                  exact (kl_B_operand_329 h_ro).tr kl_rf
                · skip
                  refine KL_rd (fun _ => ?_)
                  refine KL_if ?_ ?_
                  · skip
                    refine KL_bn ((h_ro _ _ _ _).tr kl_rf) (fun _ _ => ?_)
                    exact KL_some kl_rf
                  · skip
                    exact (kl_B_operand_329 h_ro).tr kl_rf
              · skip
                refine KL_bn ((h_ro _ _ _ _).tr kl_rf) (fun _ _ => ?_)
                exact KL_some kl_rf
            · skip
              refine KL_bn (kl_F_stuck.tr (fl_sI (by decide) kl_rf)) (fun _ _ => ?_)
              exact KL_some kl_rf
theorem kl_B_operand_0 {N : Nat} {ro : Nat → Int32 → Int32 → RSt → Option (Int32 × RSt)} {u : RSt} (h_ro : ∀ q a b u, KL (ro q a b u) u) : KL (B_operand_0 N ro u) u := by
  unfold B_operand_0
  refine KL_if ?_ ?_
  · skip
    refine KL_rd (fun _ => ?_)
    refine KL_if ?_ ?_
    · skip
      exact (kl_B_operand_40 h_ro).tr kl_rf
    · skip
      refine KL_if ?_ ?_
      · skip
        exact (kl_B_operand_40 h_ro).tr kl_rf
      · skip
        refine KL_if ?_ ?_
        · skip
          exact (kl_B_operand_40 h_ro).tr kl_rf
        · skip
          refine KL_if ?_ ?_
          · skip
            refine KL_bn (kl_F_isKind.tr kl_rf) (fun _ _ => ?_)
            refine KL_if ?_ ?_
            · skip
              exact (kl_B_operand_71 h_ro).tr kl_rf
            · skip
              refine KL_bn ((h_ro _ _ _ _).tr kl_rf) (fun _ _ => ?_)
              exact KL_some kl_rf
          · skip
            exact (kl_B_operand_71 h_ro).tr kl_rf
  · skip
    exact KL_some kl_rf
theorem kl_F_operand {N : Nat} {ro : Nat → Int32 → Int32 → RSt → Option (Int32 × RSt)} {u : RSt} (h_ro : ∀ q a b u, KL (ro q a b u) u) : KL (F_operand N ro u) u := by
  unfold F_operand
  exact (kl_B_operand_0 h_ro).tr kl_rf
theorem kl_B_signed_143 {N : Nat} {ro : Nat → Int32 → Int32 → RSt → Option (Int32 × RSt)} {l1 : Int32} {l4 : Int32} {s1 : Int32} {u : RSt} (h_ro : ∀ q a b u, KL (ro q a b u) u) : KL (B_signed_143 N ro l1 l4 s1 u) u := by
  unfold B_signed_143
  refine KL_pu ?_
  refine KL_pu ?_
  refine KL_if ?_ ?_
  · skip
    exact KL_some (fl_sL (fl_sI (by decide) kl_rf))
  · skip
    refine KL_if ?_ ?_
    · skip
      exact KL_some (fl_sL (fl_sI (by decide) kl_rf))
    · skip
      exact KL_some (fl_sL (fl_sI (by decide) kl_rf))
theorem kl_B_signed_142 {N : Nat} {ro : Nat → Int32 → Int32 → RSt → Option (Int32 × RSt)} {l1 : Int32} {l4 : Int32} {u : RSt} (h_ro : ∀ q a b u, KL (ro q a b u) u) : KL (B_signed_142 N ro l1 l4 u) u := by
  unfold B_signed_142
  exact (kl_B_signed_143 h_ro).tr kl_rf
theorem kl_B_signed_102 {N : Nat} {ro : Nat → Int32 → Int32 → RSt → Option (Int32 × RSt)} {l1 : Int32} {l2 : Int32} {l4 : Int32} {s1 : Int32} {s2 : Int32} {u : RSt} (h_ro : ∀ q a b u, KL (ro q a b u) u) : KL (B_signed_102 N ro l1 l2 l4 s1 s2 u) u := by
  unfold B_signed_102
  refine KL_bn (kl_F_emit.tr kl_rf) (fun _ _ => ?_)
  refine KL_pu ?_
  refine KL_if ?_ ?_
  · skip
    refine KL_if ?_ ?_
    · skip
      exact (kl_B_signed_142 h_ro).tr (fl_sI (by decide) kl_rf)
    · skip
      refine KL_if ?_ ?_
      · skip
        exact (kl_B_signed_143 h_ro).tr (fl_sI (by decide) kl_rf)
      · skip
        exact (kl_B_signed_142 h_ro).tr (fl_sI (by decide) kl_rf)
  · skip
    exact (kl_B_signed_142 h_ro).tr (fl_sI (by decide) kl_rf)
theorem kl_B_signed_92 {N : Nat} {ro : Nat → Int32 → Int32 → RSt → Option (Int32 × RSt)} {l1 : Int32} {l2 : Int32} {l4 : Int32} {s1 : Int32} {u : RSt} (h_ro : ∀ q a b u, KL (ro q a b u) u) : KL (B_signed_92 N ro l1 l2 l4 s1 u) u := by
  unfold B_signed_92
  refine KL_if ?_ ?_
  · skip
    exact (kl_B_signed_102 h_ro).tr kl_rf
  · skip
    exact (kl_B_signed_102 h_ro).tr kl_rf
theorem kl_B_signed_63 {N : Nat} {ro : Nat → Int32 → Int32 → RSt → Option (Int32 × RSt)} {l1 : Int32} {l2 : Int32} {s0 : Int32} {u : RSt} (h_ro : ∀ q a b u, KL (ro q a b u) u) : KL (B_signed_63 N ro l1 l2 s0 u) u := by
  unfold B_signed_63
  refine KL_if ?_ ?_
  · skip
    exact (kl_B_signed_92 h_ro).tr kl_rf
  · skip
    refine KL_if ?_ ?_
    · skip
      exact (kl_B_signed_92 h_ro).tr kl_rf
    · skip
      exact (kl_B_signed_92 h_ro).tr kl_rf
theorem kl_B_signed_47 {N : Nat} {ro : Nat → Int32 → Int32 → RSt → Option (Int32 × RSt)} {l1 : Int32} {s0 : Int32} {u : RSt} (h_ro : ∀ q a b u, KL (ro q a b u) u) : KL (B_signed_47 N ro l1 s0 u) u := by
  unfold B_signed_47
  refine KL_bn ((h_ro _ _ _ _).tr kl_rf) (fun _ _ => ?_)
  refine KL_if ?_ ?_
  · skip
    exact (kl_B_signed_63 h_ro).tr kl_rf
  · skip
    exact (kl_B_signed_63 h_ro).tr kl_rf
theorem kl_B_signed_42 {N : Nat} {ro : Nat → Int32 → Int32 → RSt → Option (Int32 × RSt)} {l1 : Int32} {u : RSt} (h_ro : ∀ q a b u, KL (ro q a b u) u) : KL (B_signed_42 N ro l1 u) u := by
  unfold B_signed_42
  exact (kl_B_signed_47 h_ro).tr kl_rf
theorem kl_B_signed_0 {N : Nat} {ro : Nat → Int32 → Int32 → RSt → Option (Int32 × RSt)} {l1 : Int32} {u : RSt} (h_ro : ∀ q a b u, KL (ro q a b u) u) : KL (B_signed_0 N ro l1 u) u := by
  unfold B_signed_0
  refine KL_bn (kl_F_opens.tr kl_rf) (fun _ _ => ?_)
  refine KL_rd (fun _ => ?_)
  refine KL_bn (kl_F_cost.tr kl_rf) (fun _ _ => ?_)
  refine KL_pu ?_
  refine KL_bn (kl_F_isNumber.tr (fl_sI (by decide) kl_rf)) (fun _ _ => ?_)
  refine KL_if ?_ ?_
  · skip
    refine KL_bn (kl_F_is.tr kl_rf) (fun _ _ => ?_)
    refine KL_if ?_ ?_
    · skip
      exact (kl_B_signed_47 h_ro).tr kl_rf
    · skip
      exact (kl_B_signed_42 h_ro).tr kl_rf
  · skip
    exact (kl_B_signed_42 h_ro).tr kl_rf
theorem kl_F_signed {N : Nat} {ro : Nat → Int32 → Int32 → RSt → Option (Int32 × RSt)} {l1 : Int32} {u : RSt} (h_ro : ∀ q a b u, KL (ro q a b u) u) : KL (F_signed N ro l1 u) u := by
  unfold F_signed
  exact (kl_B_signed_0 h_ro).tr kl_rf
theorem kl_B_cast_0 {N : Nat} {ro : Nat → Int32 → Int32 → RSt → Option (Int32 × RSt)} {u : RSt} (h_ro : ∀ q a b u, KL (ro q a b u) u) : KL (B_cast_0 N ro u) u := by
  unfold B_cast_0
  refine KL_bn (kl_F_opens.tr kl_rf) (fun _ _ => ?_)
  refine KL_rd (fun _ => ?_)
  refine KL_bn (kl_F_cost.tr kl_rf) (fun _ _ => ?_)
  refine KL_pu ?_
  refine KL_bn (kl_F_kind.tr (fl_sI (by decide) kl_rf)) (fun _ _ => ?_)
  refine KL_bn (kl_F_take.tr kl_rf) (fun _ _ => ?_)
  refine KL_bn ((h_ro _ _ _ _).tr kl_rf) (fun _ _ => ?_)
  refine KL_bn (kl_F_emit.tr kl_rf) (fun _ _ => ?_)
  refine KL_pu ?_
  refine KL_pu ?_
  exact KL_some (fl_sI (by decide) (fl_sI (by decide) kl_rf))
theorem kl_F_cast {N : Nat} {ro : Nat → Int32 → Int32 → RSt → Option (Int32 × RSt)} {u : RSt} (h_ro : ∀ q a b u, KL (ro q a b u) u) : KL (F_cast N ro u) u := by
  unfold F_cast
  exact (kl_B_cast_0 h_ro).tr kl_rf
theorem kl_B_call_222 {N : Nat} {ro : Nat → Int32 → Int32 → RSt → Option (Int32 × RSt)} {R_123 : Int32 × Int32 × Int32 × Int32 × Int32 × Int32 × Int32 × Int32 × RSt → Option (Int32 × RSt)} {l1 : Int32} {l2 : Int32} {l3 : Int32} {l4 : Int32} {l5 : Int32} {l6 : Int32} {l7 : Int32} {u : RSt} (h_ro : ∀ q a b u, KL (ro q a b u) u) (h_R_123 : ∀ a, KL (R_123 a) a.2.2.2.2.2.2.2.2) : KL (B_call_222 N ro R_123 l1 l2 l3 l4 l5 l6 l7 u) u := by
  unfold B_call_222
  refine KL_bn (kl_F_has.tr kl_rf) (fun _ _ => ?_)
  exact (h_R_123 _).tr kl_rf
theorem kl_B_call_206 {N : Nat} {ro : Nat → Int32 → Int32 → RSt → Option (Int32 × RSt)} {R_123 : Int32 × Int32 × Int32 × Int32 × Int32 × Int32 × Int32 × Int32 × RSt → Option (Int32 × RSt)} {l1 : Int32} {l2 : Int32} {l3 : Int32} {l4 : Int32} {l5 : Int32} {l6 : Int32} {l7 : Int32} {l10 : Int32} {u : RSt} (h_ro : ∀ q a b u, KL (ro q a b u) u) (h_R_123 : ∀ a, KL (R_123 a) a.2.2.2.2.2.2.2.2) : KL (B_call_206 N ro R_123 l1 l2 l3 l4 l5 l6 l7 l10 u) u := by
  unfold B_call_206
  refine KL_if ?_ ?_
  · skip
    exact (kl_B_call_222 h_ro h_R_123).tr kl_rf
  · skip
    exact (kl_B_call_222 h_ro h_R_123).tr kl_rf
theorem kl_B_call_288 {N : Nat} {ro : Nat → Int32 → Int32 → RSt → Option (Int32 × RSt)} {l1 : Int32} {l4 : Int32} {s1 : Int32} {u : RSt} (h_ro : ∀ q a b u, KL (ro q a b u) u) : KL (B_call_288 N ro l1 l4 s1 u) u := by
  unfold B_call_288
  refine KL_rd (fun _ => ?_)
  refine KL_bn (kl_F_wrong.tr kl_rf) (fun _ _ => ?_)
  refine KL_rd (fun _ => ?_)
  refine KL_bn (kl_F_emit.tr kl_rf) (fun _ _ => ?_)
  refine KL_rd (fun _ => ?_)
  exact KL_some kl_rf
theorem kl_B_call_400 {N : Nat} {ro : Nat → Int32 → Int32 → RSt → Option (Int32 × RSt)} {l3 : Int32} {l9 : Int32} {s1 : Int32} {s2 : Int32} {s3 : Int32} {u : RSt} (h_ro : ∀ q a b u, KL (ro q a b u) u) : KL (B_call_400 N ro l3 l9 s1 s2 s3 u) u := by
  unfold B_call_400
  refine KL_bn (kl_F_emit.tr kl_rf) (fun _ _ => ?_)
  refine KL_if ?_ ?_
  · skip
    exact KL_some kl_rf
  · skip
    refine KL_if ?_ ?_
    · skip
      exact KL_some kl_rf
    · skip
      exact KL_some kl_rf
theorem kl_B_call_384 {N : Nat} {ro : Nat → Int32 → Int32 → RSt → Option (Int32 × RSt)} {l3 : Int32} {s0 : Int32} {u : RSt} (h_ro : ∀ q a b u, KL (ro q a b u) u) : KL (B_call_384 N ro l3 s0 u) u := by
  unfold B_call_384
  refine KL_if ?_ ?_
  · skip
    exact (kl_B_call_400 h_ro).tr kl_rf
  · skip
    exact (kl_B_call_400 h_ro).tr kl_rf
theorem kl_B_call_379 {N : Nat} {ro : Nat → Int32 → Int32 → RSt → Option (Int32 × RSt)} {l3 : Int32} {u : RSt} (h_ro : ∀ q a b u, KL (ro q a b u) u) : KL (B_call_379 N ro l3 u) u := by
  unfold B_call_379
  exact (kl_B_call_384 h_ro).tr kl_rf
theorem kl_B_call_383 {N : Nat} {ro : Nat → Int32 → Int32 → RSt → Option (Int32 × RSt)} {l3 : Int32} {u : RSt} (h_ro : ∀ q a b u, KL (ro q a b u) u) : KL (B_call_383 N ro l3 u) u := by
  unfold B_call_383
  exact (kl_B_call_384 h_ro).tr kl_rf
theorem kl_B_call_373 {N : Nat} {ro : Nat → Int32 → Int32 → RSt → Option (Int32 × RSt)} {l3 : Int32} {l7 : Int32} {u : RSt} (h_ro : ∀ q a b u, KL (ro q a b u) u) : KL (B_call_373 N ro l3 l7 u) u := by
  unfold B_call_373
  refine KL_if ?_ ?_
  · skip
    exact (kl_B_call_379 h_ro).tr kl_rf
  · skip
    exact (kl_B_call_383 h_ro).tr kl_rf
theorem kl_B_call_347 {N : Nat} {ro : Nat → Int32 → Int32 → RSt → Option (Int32 × RSt)} {l1 : Int32} {l3 : Int32} {l6 : Int32} {l7 : Int32} {s1 : Int32} {u : RSt} (h_ro : ∀ q a b u, KL (ro q a b u) u) : KL (B_call_347 N ro l1 l3 l6 l7 s1 u) u := by
  unfold B_call_347
  refine KL_rd (fun _ => ?_)
  refine KL_bn (kl_F_wrong.tr kl_rf) (fun _ _ => ?_)
  refine KL_if ?_ ?_
  · skip
    exact (kl_B_call_379 h_ro).tr kl_rf
  · skip
    refine KL_if ?_ ?_
    · skip
      exact (kl_B_call_373 h_ro).tr kl_rf
    · skip
      refine KL_if ?_ ?_
      · skip
        exact (kl_B_call_373 h_ro).tr kl_rf
      · skip
        exact (kl_B_call_383 h_ro).tr kl_rf
theorem kl_B_call_339 {N : Nat} {ro : Nat → Int32 → Int32 → RSt → Option (Int32 × RSt)} {l1 : Int32} {l3 : Int32} {l6 : Int32} {l7 : Int32} {s1 : Int32} {s2 : Int32} {u : RSt} (h_ro : ∀ q a b u, KL (ro q a b u) u) : KL (B_call_339 N ro l1 l3 l6 l7 s1 s2 u) u := by
  unfold B_call_339
  refine KL_if ?_ ?_
  · skip
    exact (kl_B_call_347 h_ro).tr kl_rf
  · skip
    exact (kl_B_call_347 h_ro).tr kl_rf
theorem kl_B_call_334 {N : Nat} {ro : Nat → Int32 → Int32 → RSt → Option (Int32 × RSt)} {l1 : Int32} {l3 : Int32} {l6 : Int32} {l7 : Int32} {s1 : Int32} {u : RSt} (h_ro : ∀ q a b u, KL (ro q a b u) u) : KL (B_call_334 N ro l1 l3 l6 l7 s1 u) u := by
  unfold B_call_334
  exact (kl_B_call_339 h_ro).tr kl_rf
theorem kl_B_call_123 {N : Nat} {ro : Nat → Int32 → Int32 → RSt → Option (Int32 × RSt)} {R_123 : Int32 × Int32 × Int32 × Int32 × Int32 × Int32 × Int32 × Int32 × RSt → Option (Int32 × RSt)} {l1 : Int32} {l2 : Int32} {l3 : Int32} {l4 : Int32} {l5 : Int32} {l6 : Int32} {l7 : Int32} {l8 : Int32} {u : RSt} (h_ro : ∀ q a b u, KL (ro q a b u) u) (h_R_123 : ∀ a, KL (R_123 a) a.2.2.2.2.2.2.2.2) : KL (B_call_123 N ro R_123 l1 l2 l3 l4 l5 l6 l7 l8 u) u := by
  unfold B_call_123
  refine KL_if ?_ ?_
  · skip
    refine KL_bn (kl_F_ends.tr kl_rf) (fun _ _ => ?_)
    refine KL_pu ?_
    refine KL_if ?_ ?_
    · skip
      exact KL_some (fl_sI (by decide) kl_rf)
    · skip
      refine KL_if ?_ ?_
      · skip
        refine KL_if ?_ ?_
        · skip
          refine KL_if ?_ ?_
          · skip
            exact (kl_B_call_334 h_ro).tr (fl_sI (by decide) kl_rf)
          · skip
            refine KL_if ?_ ?_
            · skip
              exact (kl_B_call_339 h_ro).tr (fl_sI (by decide) kl_rf)
            · skip
              exact (kl_B_call_334 h_ro).tr (fl_sI (by decide) kl_rf)
        · skip
          refine KL_rd (fun _ => ?_)
          refine KL_if ?_ ?_
          · skip
            exact (kl_B_call_288 h_ro).tr (fl_sI (by decide) kl_rf)
          · skip
            exact (kl_B_call_288 h_ro).tr (fl_sI (by decide) kl_rf)
      · skip
        exact KL_some (fl_sI (by decide) kl_rf)
  · skip
    refine KL_rd (fun _ => ?_)
    refine KL_bn ((h_ro _ _ _ _).tr kl_rf) (fun _ _ => ?_)
    refine KL_if ?_ ?_
    · skip
      exact (kl_B_call_206 h_ro h_R_123).tr kl_rf
    · skip
      refine KL_if ?_ ?_
      · skip
        exact (kl_B_call_206 h_ro h_R_123).tr kl_rf
      · skip
        refine KL_rd (fun _ => ?_)
        refine KL_if ?_ ?_
        · skip
          exact (kl_B_call_206 h_ro h_R_123).tr kl_rf
        · skip
          refine KL_rd (fun _ => ?_)
          refine KL_rd (fun _ => ?_)
          refine KL_bn (kl_F_isTooWide.tr kl_rf) (fun _ _ => ?_)
          refine KL_bn (kl_F_wrong.tr kl_rf) (fun _ _ => ?_)
          exact (kl_B_call_206 h_ro h_R_123).tr kl_rf
theorem kl_LP_call_123 {N : Nat} {ro : Nat → Int32 → Int32 → RSt → Option (Int32 × RSt)} (h_ro : ∀ q a b u, KL (ro q a b u) u) (n : Nat) : ∀ a : Int32 × Int32 × Int32 × Int32 × Int32 × Int32 × Int32 × Int32 × RSt, KL (LP_call_123 N ro n a) a.2.2.2.2.2.2.2.2 := by
  induction n with
  | zero => exact fun a r z e => by have e : (none : Option _) = some (r, z) := e; cases e
  | succ n ih =>
    intro a
    show KL (B_call_123 N ro (LP_call_123 N ro n) a.1 a.2.1 a.2.2.1 a.2.2.2.1 a.2.2.2.2.1 a.2.2.2.2.2.1 a.2.2.2.2.2.2.1 a.2.2.2.2.2.2.2.1 a.2.2.2.2.2.2.2.2) a.2.2.2.2.2.2.2.2
    exact kl_B_call_123 h_ro ih
theorem kl_B_call_121 {N : Nat} {ro : Nat → Int32 → Int32 → RSt → Option (Int32 × RSt)} {l1 : Int32} {l2 : Int32} {l3 : Int32} {l4 : Int32} {l5 : Int32} {l6 : Int32} {l7 : Int32} {s0 : Int32} {u : RSt} (h_ro : ∀ q a b u, KL (ro q a b u) u) : KL (B_call_121 N ro l1 l2 l3 l4 l5 l6 l7 s0 u) u := by
  unfold B_call_121
  exact (kl_LP_call_123 h_ro _ _).tr kl_rf
theorem kl_B_call_120 {N : Nat} {ro : Nat → Int32 → Int32 → RSt → Option (Int32 × RSt)} {l1 : Int32} {l2 : Int32} {l3 : Int32} {l4 : Int32} {l5 : Int32} {l6 : Int32} {l7 : Int32} {u : RSt} (h_ro : ∀ q a b u, KL (ro q a b u) u) : KL (B_call_120 N ro l1 l2 l3 l4 l5 l6 l7 u) u := by
  unfold B_call_120
  exact (kl_B_call_121 h_ro).tr kl_rf
theorem kl_B_call_33 {N : Nat} {ro : Nat → Int32 → Int32 → RSt → Option (Int32 × RSt)} {l1 : Int32} {l2 : Int32} {l3 : Int32} {s1 : Int32} {u : RSt} (h_ro : ∀ q a b u, KL (ro q a b u) u) : KL (B_call_33 N ro l1 l2 l3 s1 u) u := by
  unfold B_call_33
  refine KL_rd (fun _ => ?_)
  refine KL_bn (kl_F_wrong.tr kl_rf) (fun _ _ => ?_)
  refine KL_rd (fun _ => ?_)
  refine KL_bn (kl_F_cost.tr kl_rf) (fun _ _ => ?_)
  refine KL_pu ?_
  refine KL_bn (kl_F_begins.tr (fl_sI (by decide) kl_rf)) (fun _ _ => ?_)
  refine KL_if ?_ ?_
  · skip
    refine KL_bn (kl_F_is.tr kl_rf) (fun _ _ => ?_)
    refine KL_if ?_ ?_
    · skip
      exact (kl_B_call_121 h_ro).tr kl_rf
    · skip
      exact (kl_B_call_120 h_ro).tr kl_rf
  · skip
    exact (kl_B_call_120 h_ro).tr kl_rf
theorem kl_B_call_32 {N : Nat} {ro : Nat → Int32 → Int32 → RSt → Option (Int32 × RSt)} {l1 : Int32} {l2 : Int32} {l3 : Int32} {u : RSt} (h_ro : ∀ q a b u, KL (ro q a b u) u) : KL (B_call_32 N ro l1 l2 l3 u) u := by
  unfold B_call_32
  exact (kl_B_call_33 h_ro).tr kl_rf
theorem kl_B_call_0 {N : Nat} {ro : Nat → Int32 → Int32 → RSt → Option (Int32 × RSt)} {u : RSt} (h_ro : ∀ q a b u, KL (ro q a b u) u) : KL (B_call_0 N ro u) u := by
  unfold B_call_0
  refine KL_bn (kl_F_own.tr kl_rf) (fun _ _ => ?_)
  refine KL_bn (kl_F_own.tr kl_rf) (fun _ _ => ?_)
  refine KL_if ?_ ?_
  · skip
    refine KL_if ?_ ?_
    · skip
      exact (kl_B_call_33 h_ro).tr kl_rf
    · skip
      exact (kl_B_call_32 h_ro).tr kl_rf
  · skip
    exact (kl_B_call_32 h_ro).tr kl_rf
theorem kl_F_call {N : Nat} {ro : Nat → Int32 → Int32 → RSt → Option (Int32 × RSt)} {u : RSt} (h_ro : ∀ q a b u, KL (ro q a b u) u) : KL (F_call N ro u) u := by
  unfold F_call
  exact (kl_B_call_0 h_ro).tr kl_rf
theorem kl_B_inner_192 {N : Nat} {ro : Nat → Int32 → Int32 → RSt → Option (Int32 × RSt)} {R_102 : Int32 × Int32 × Int32 × Int32 × Int32 × RSt → Option (Int32 × RSt)} {l1 : Int32} {l2 : Int32} {l3 : Int32} {l4 : Int32} {l5 : Int32} {u : RSt} (h_ro : ∀ q a b u, KL (ro q a b u) u) (h_R_102 : ∀ a, KL (R_102 a) a.2.2.2.2.2) : KL (B_inner_192 N ro R_102 l1 l2 l3 l4 l5 u) u := by
  unfold B_inner_192
  exact (h_R_102 _).tr kl_rf
theorem kl_B_inner_387 {N : Nat} {ro : Nat → Int32 → Int32 → RSt → Option (Int32 × RSt)} {l3 : Int32} {l6 : Int32} {s1 : Int32} {s2 : Int32} {u : RSt} (h_ro : ∀ q a b u, KL (ro q a b u) u) : KL (B_inner_387 N ro l3 l6 s1 s2 u) u := by
  unfold B_inner_387
  refine KL_bn (kl_F_emit.tr kl_rf) (fun _ _ => ?_)
  refine KL_pu ?_
  refine KL_if ?_ ?_
  · skip
    exact KL_some (fl_sI (by decide) kl_rf)
  · skip
    refine KL_rd (fun _ => ?_)
    exact KL_some (fl_sI (by decide) kl_rf)
theorem kl_B_inner_369 {N : Nat} {ro : Nat → Int32 → Int32 → RSt → Option (Int32 × RSt)} {l3 : Int32} {l6 : Int32} {u : RSt} (h_ro : ∀ q a b u, KL (ro q a b u) u) : KL (B_inner_369 N ro l3 l6 u) u := by
  unfold B_inner_369
  refine KL_if ?_ ?_
  · skip
    exact (kl_B_inner_387 h_ro).tr kl_rf
  · skip
    refine KL_rd (fun _ => ?_)
    exact (kl_B_inner_387 h_ro).tr kl_rf
theorem kl_B_inner_348 {N : Nat} {ro : Nat → Int32 → Int32 → RSt → Option (Int32 × RSt)} {l3 : Int32} {l5 : Int32} {l6 : Int32} {s1 : Int32} {s2 : Int32} {u : RSt} (h_ro : ∀ q a b u, KL (ro q a b u) u) : KL (B_inner_348 N ro l3 l5 l6 s1 s2 u) u := by
  unfold B_inner_348
  refine KL_bn (kl_F_emit.tr kl_rf) (fun _ _ => ?_)
  refine KL_if ?_ ?_
  · skip
    exact (kl_B_inner_369 h_ro).tr kl_rf
  · skip
    refine KL_bn (kl_F_emit.tr kl_rf) (fun _ _ => ?_)
    exact (kl_B_inner_369 h_ro).tr kl_rf
theorem kl_B_inner_315 {N : Nat} {ro : Nat → Int32 → Int32 → RSt → Option (Int32 × RSt)} {l1 : Int32} {l3 : Int32} {l5 : Int32} {l6 : Int32} {u : RSt} (h_ro : ∀ q a b u, KL (ro q a b u) u) : KL (B_inner_315 N ro l1 l3 l5 l6 u) u := by
  unfold B_inner_315
  refine KL_if ?_ ?_
  · skip
    exact (kl_B_inner_348 h_ro).tr kl_rf
  · skip
    refine KL_rd (fun _ => ?_)
    refine KL_rd (fun _ => ?_)
    exact (kl_B_inner_348 h_ro).tr kl_rf
theorem kl_B_inner_311 {N : Nat} {ro : Nat → Int32 → Int32 → RSt → Option (Int32 × RSt)} {l1 : Int32} {l2 : Int32} {l3 : Int32} {l5 : Int32} {l6 : Int32} {s1 : Int32} {u : RSt} (h_ro : ∀ q a b u, KL (ro q a b u) u) : KL (B_inner_311 N ro l1 l2 l3 l5 l6 s1 u) u := by
  unfold B_inner_311
  refine KL_bn ((h_ro _ _ _ _).tr kl_rf) (fun _ _ => ?_)
  exact (kl_B_inner_315 h_ro).tr kl_rf
theorem kl_B_inner_275 {N : Nat} {ro : Nat → Int32 → Int32 → RSt → Option (Int32 × RSt)} {l1 : Int32} {l2 : Int32} {l3 : Int32} {l5 : Int32} {l6 : Int32} {s1 : Int32} {u : RSt} (h_ro : ∀ q a b u, KL (ro q a b u) u) : KL (B_inner_275 N ro l1 l2 l3 l5 l6 s1 u) u := by
  unfold B_inner_275
  refine KL_bn (kl_F_wrong.tr kl_rf) (fun _ _ => ?_)
  refine KL_pu ?_
  refine KL_if ?_ ?_
  · skip
    exact (kl_B_inner_315 h_ro).tr (fl_sI (by decide) kl_rf)
  · skip
    refine KL_if ?_ ?_
    · skip
      exact (kl_B_inner_311 h_ro).tr (fl_sI (by decide) kl_rf)
    · skip
      refine KL_rd (fun _ => ?_)
      exact (kl_B_inner_311 h_ro).tr (fl_sI (by decide) kl_rf)
theorem kl_B_inner_274 {N : Nat} {ro : Nat → Int32 → Int32 → RSt → Option (Int32 × RSt)} {l1 : Int32} {l2 : Int32} {l3 : Int32} {l5 : Int32} {l6 : Int32} {u : RSt} (h_ro : ∀ q a b u, KL (ro q a b u) u) : KL (B_inner_274 N ro l1 l2 l3 l5 l6 u) u := by
  unfold B_inner_274
  exact (kl_B_inner_275 h_ro).tr kl_rf
theorem kl_B_inner_264 {N : Nat} {ro : Nat → Int32 → Int32 → RSt → Option (Int32 × RSt)} {l1 : Int32} {l2 : Int32} {l3 : Int32} {l5 : Int32} {l6 : Int32} {s2 : Int32} {u : RSt} (h_ro : ∀ q a b u, KL (ro q a b u) u) : KL (B_inner_264 N ro l1 l2 l3 l5 l6 s2 u) u := by
  unfold B_inner_264
  refine KL_rd (fun _ => ?_)
  refine KL_if ?_ ?_
  · skip
    exact (kl_B_inner_274 h_ro).tr kl_rf
  · skip
    exact (kl_B_inner_275 h_ro).tr kl_rf
theorem kl_B_inner_242 {N : Nat} {ro : Nat → Int32 → Int32 → RSt → Option (Int32 × RSt)} {l1 : Int32} {l2 : Int32} {l3 : Int32} {l5 : Int32} {s0 : Int32} {u : RSt} (h_ro : ∀ q a b u, KL (ro q a b u) u) : KL (B_inner_242 N ro l1 l2 l3 l5 s0 u) u := by
  unfold B_inner_242
  refine KL_if ?_ ?_
  · skip
    exact (kl_B_inner_274 h_ro).tr kl_rf
  · skip
    refine KL_if ?_ ?_
    · skip
      exact (kl_B_inner_264 h_ro).tr kl_rf
    · skip
      exact (kl_B_inner_264 h_ro).tr kl_rf
theorem kl_B_inner_241 {N : Nat} {ro : Nat → Int32 → Int32 → RSt → Option (Int32 × RSt)} {l1 : Int32} {l2 : Int32} {l3 : Int32} {l5 : Int32} {u : RSt} (h_ro : ∀ q a b u, KL (ro q a b u) u) : KL (B_inner_241 N ro l1 l2 l3 l5 u) u := by
  unfold B_inner_241
  exact (kl_B_inner_242 h_ro).tr kl_rf
theorem kl_B_inner_209 {N : Nat} {ro : Nat → Int32 → Int32 → RSt → Option (Int32 × RSt)} {l1 : Int32} {l2 : Int32} {l3 : Int32} {s1 : Int32} {u : RSt} (h_ro : ∀ q a b u, KL (ro q a b u) u) : KL (B_inner_209 N ro l1 l2 l3 s1 u) u := by
  unfold B_inner_209
  refine KL_bn (kl_F_wrong.tr kl_rf) (fun _ _ => ?_)
  refine KL_bn (kl_F_isNext.tr kl_rf) (fun _ _ => ?_)
  refine KL_if ?_ ?_
  · skip
    exact (kl_B_inner_241 h_ro).tr kl_rf
  · skip
    refine KL_if ?_ ?_
    · skip
      exact (kl_B_inner_242 h_ro).tr kl_rf
    · skip
      exact (kl_B_inner_241 h_ro).tr kl_rf
theorem kl_B_inner_198 {N : Nat} {ro : Nat → Int32 → Int32 → RSt → Option (Int32 × RSt)} {l1 : Int32} {l2 : Int32} {l3 : Int32} {u : RSt} (h_ro : ∀ q a b u, KL (ro q a b u) u) : KL (B_inner_198 N ro l1 l2 l3 u) u := by
  unfold B_inner_198
  refine KL_if ?_ ?_
  · skip
    exact (kl_B_inner_209 h_ro).tr kl_rf
  · skip
    exact (kl_B_inner_209 h_ro).tr kl_rf
theorem kl_B_inner_102 {N : Nat} {ro : Nat → Int32 → Int32 → RSt → Option (Int32 × RSt)} {R_102 : Int32 × Int32 × Int32 × Int32 × Int32 × RSt → Option (Int32 × RSt)} {l1 : Int32} {l2 : Int32} {l3 : Int32} {l4 : Int32} {l5 : Int32} {u : RSt} (h_ro : ∀ q a b u, KL (ro q a b u) u) (h_R_102 : ∀ a, KL (R_102 a) a.2.2.2.2.2) : KL (B_inner_102 N ro R_102 l1 l2 l3 l4 l5 u) u := by
  unfold B_inner_102
  refine KL_if ?_ ?_
  · skip
    exact (kl_B_inner_198 h_ro).tr kl_rf
  · skip
    refine KL_if ?_ ?_
    · skip
      refine KL_rd (fun _ => ?_)
      refine KL_if ?_ ?_
      · skip
        exact (kl_B_inner_198 h_ro).tr kl_rf
      · skip
        refine KL_rd (fun _ => ?_)
        refine KL_rd (fun _ => ?_)
        refine KL_rd (fun _ => ?_)
        refine KL_if ?_ ?_
        · skip
          refine KL_rd (fun _ => ?_)
          refine KL_rd (fun _ => ?_)
          refine KL_if ?_ ?_
          · skip
            exact (kl_B_inner_192 h_ro h_R_102).tr kl_rf
          · skip
            exact (kl_B_inner_192 h_ro h_R_102).tr kl_rf
        · skip
          exact (kl_B_inner_192 h_ro h_R_102).tr kl_rf
    · skip
      exact (kl_B_inner_198 h_ro).tr kl_rf
theorem kl_LP_inner_102 {N : Nat} {ro : Nat → Int32 → Int32 → RSt → Option (Int32 × RSt)} (h_ro : ∀ q a b u, KL (ro q a b u) u) (n : Nat) : ∀ a : Int32 × Int32 × Int32 × Int32 × Int32 × RSt, KL (LP_inner_102 N ro n a) a.2.2.2.2.2 := by
  induction n with
  | zero => exact fun a r z e => by have e : (none : Option _) = some (r, z) := e; cases e
  | succ n ih =>
    intro a
    show KL (B_inner_102 N ro (LP_inner_102 N ro n) a.1 a.2.1 a.2.2.1 a.2.2.2.1 a.2.2.2.2.1 a.2.2.2.2.2) a.2.2.2.2.2
    exact kl_B_inner_102 h_ro ih
theorem kl_B_inner_97 {N : Nat} {ro : Nat → Int32 → Int32 → RSt → Option (Int32 × RSt)} {l1 : Int32} {l2 : Int32} {l3 : Int32} {s0 : Int32} {u : RSt} (h_ro : ∀ q a b u, KL (ro q a b u) u) : KL (B_inner_97 N ro l1 l2 l3 s0 u) u := by
  unfold B_inner_97
  exact (kl_LP_inner_102 h_ro _ _).tr kl_rf
theorem kl_B_inner_96 {N : Nat} {ro : Nat → Int32 → Int32 → RSt → Option (Int32 × RSt)} {l1 : Int32} {l2 : Int32} {l3 : Int32} {u : RSt} (h_ro : ∀ q a b u, KL (ro q a b u) u) : KL (B_inner_96 N ro l1 l2 l3 u) u := by
  unfold B_inner_96
  exact (kl_B_inner_97 h_ro).tr kl_rf
theorem kl_B_inner_17 {N : Nat} {ro : Nat → Int32 → Int32 → RSt → Option (Int32 × RSt)} {l1 : Int32} {s1 : Int32} {u : RSt} (h_ro : ∀ q a b u, KL (ro q a b u) u) : KL (B_inner_17 N ro l1 s1 u) u := by
  unfold B_inner_17
  refine KL_rd (fun _ => ?_)
  refine KL_bn (kl_F_wrong.tr kl_rf) (fun _ _ => ?_)
  refine KL_rd (fun _ => ?_)
  refine KL_bn (kl_F_cost.tr kl_rf) (fun _ _ => ?_)
  refine KL_pu ?_
  refine KL_rd (fun _ => ?_)
  refine KL_if ?_ ?_
  · skip
    exact (kl_B_inner_96 h_ro).tr (fl_sI (by decide) kl_rf)
  · skip
    refine KL_if ?_ ?_
    · skip
      refine KL_rd (fun _ => ?_)
      exact (kl_B_inner_97 h_ro).tr (fl_sI (by decide) kl_rf)
    · skip
      exact (kl_B_inner_96 h_ro).tr (fl_sI (by decide) kl_rf)
theorem kl_B_inner_0 {N : Nat} {ro : Nat → Int32 → Int32 → RSt → Option (Int32 × RSt)} {u : RSt} (h_ro : ∀ q a b u, KL (ro q a b u) u) : KL (B_inner_0 N ro u) u := by
  unfold B_inner_0
  refine KL_bn (kl_F_own.tr kl_rf) (fun _ _ => ?_)
  refine KL_if ?_ ?_
  · skip
    exact (kl_B_inner_17 h_ro).tr kl_rf
  · skip
    exact (kl_B_inner_17 h_ro).tr kl_rf
theorem kl_F_inner {N : Nat} {ro : Nat → Int32 → Int32 → RSt → Option (Int32 × RSt)} {u : RSt} (h_ro : ∀ q a b u, KL (ro q a b u) u) : KL (F_inner N ro u) u := by
  unfold F_inner
  exact (kl_B_inner_0 h_ro).tr kl_rf
theorem kl_B_index_35 {N : Nat} {ro : Nat → Int32 → Int32 → RSt → Option (Int32 × RSt)} {l1 : Int32} {l2 : Int32} {l3 : Int32} {s1 : Int32} {u : RSt} (h_ro : ∀ q a b u, KL (ro q a b u) u) : KL (B_index_35 N ro l1 l2 l3 s1 u) u := by
  unfold B_index_35
  refine KL_bn (kl_F_wrong.tr kl_rf) (fun _ _ => ?_)
  refine KL_bn (kl_F_emit.tr kl_rf) (fun _ _ => ?_)
  refine KL_bn (kl_F_ends.tr kl_rf) (fun _ _ => ?_)
  exact KL_some kl_rf
theorem kl_B_index_0 {N : Nat} {ro : Nat → Int32 → Int32 → RSt → Option (Int32 × RSt)} {l1 : Int32} {l2 : Int32} {u : RSt} (h_ro : ∀ q a b u, KL (ro q a b u) u) : KL (B_index_0 N ro l1 l2 u) u := by
  unfold B_index_0
  refine KL_bn (kl_F_begins.tr kl_rf) (fun _ _ => ?_)
  refine KL_rd (fun _ => ?_)
  refine KL_bn ((h_ro _ _ _ _).tr kl_rf) (fun _ _ => ?_)
  refine KL_if ?_ ?_
  · skip
    exact (kl_B_index_35 h_ro).tr kl_rf
  · skip
    exact (kl_B_index_35 h_ro).tr kl_rf
theorem kl_F_index {N : Nat} {ro : Nat → Int32 → Int32 → RSt → Option (Int32 × RSt)} {l1 : Int32} {l2 : Int32} {u : RSt} (h_ro : ∀ q a b u, KL (ro q a b u) u) : KL (F_index N ro l1 l2 u) u := by
  unfold F_index
  exact (kl_B_index_0 h_ro).tr kl_rf
theorem kl_B_spot_409 {N : Nat} {ro : Nat → Int32 → Int32 → RSt → Option (Int32 × RSt)} {l7 : Int32} {l11 : Int32} {u : RSt} (h_ro : ∀ q a b u, KL (ro q a b u) u) : KL (B_spot_409 N ro l7 l11 u) u := by
  unfold B_spot_409
  refine KL_pu ?_
  refine KL_pu ?_
  exact KL_some (fl_sI (by decide) (fl_sI (by decide) kl_rf))
theorem kl_B_spot_382 {N : Nat} {ro : Nat → Int32 → Int32 → RSt → Option (Int32 × RSt)} {l7 : Int32} {u : RSt} (h_ro : ∀ q a b u, KL (ro q a b u) u) : KL (B_spot_382 N ro l7 u) u := by
  unfold B_spot_382
  refine KL_bn (kl_F_has.tr kl_rf) (fun _ _ => ?_)
  refine KL_if ?_ ?_
  · skip
    exact (kl_B_spot_409 h_ro).tr kl_rf
  · skip
    refine KL_bn (kl_F_bounded.tr kl_rf) (fun _ _ => ?_)
    exact (kl_B_spot_409 h_ro).tr kl_rf
theorem kl_B_spot_361 {N : Nat} {ro : Nat → Int32 → Int32 → RSt → Option (Int32 × RSt)} {l7 : Int32} {l9 : Int32} {s1 : Int32} {s2 : Int32} {u : RSt} (h_ro : ∀ q a b u, KL (ro q a b u) u) : KL (B_spot_361 N ro l7 l9 s1 s2 u) u := by
  unfold B_spot_361
  refine KL_bn (kl_F_emit.tr kl_rf) (fun _ _ => ?_)
  refine KL_if ?_ ?_
  · skip
    exact (kl_B_spot_382 h_ro).tr kl_rf
  · skip
    refine KL_bn (kl_F_emit.tr kl_rf) (fun _ _ => ?_)
    exact (kl_B_spot_382 h_ro).tr kl_rf
theorem kl_B_spot_331 {N : Nat} {ro : Nat → Int32 → Int32 → RSt → Option (Int32 × RSt)} {l3 : Int32} {l5 : Int32} {l6 : Int32} {l7 : Int32} {l9 : Int32} {s1 : Int32} {u : RSt} (h_ro : ∀ q a b u, KL (ro q a b u) u) : KL (B_spot_331 N ro l3 l5 l6 l7 l9 s1 u) u := by
  unfold B_spot_331
  refine KL_if ?_ ?_
  · skip
    exact (kl_B_spot_361 h_ro).tr kl_rf
  · skip
    refine KL_if ?_ ?_
    · skip
      refine KL_rd (fun _ => ?_)
      exact (kl_B_spot_361 h_ro).tr kl_rf
    · skip
      refine KL_rd (fun _ => ?_)
      exact (kl_B_spot_361 h_ro).tr kl_rf
theorem kl_B_spot_305 {N : Nat} {ro : Nat → Int32 → Int32 → RSt → Option (Int32 × RSt)} {l3 : Int32} {l5 : Int32} {l6 : Int32} {l7 : Int32} {l9 : Int32} {u : RSt} (h_ro : ∀ q a b u, KL (ro q a b u) u) : KL (B_spot_305 N ro l3 l5 l6 l7 l9 u) u := by
  unfold B_spot_305
  refine KL_if ?_ ?_
  · skip
    exact (kl_B_spot_331 h_ro).tr kl_rf
  · skip
    refine KL_if ?_ ?_
    · skip
      exact (kl_B_spot_331 h_ro).tr kl_rf
    · skip
      exact (kl_B_spot_331 h_ro).tr kl_rf
theorem kl_B_spot_283 {N : Nat} {ro : Nat → Int32 → Int32 → RSt → Option (Int32 × RSt)} {l2 : Int32} {l3 : Int32} {l5 : Int32} {l6 : Int32} {l7 : Int32} {l8 : Int32} {l9 : Int32} {u : RSt} (h_ro : ∀ q a b u, KL (ro q a b u) u) : KL (B_spot_283 N ro l2 l3 l5 l6 l7 l8 l9 u) u := by
  unfold B_spot_283
  refine KL_pu ?_
  refine KL_if ?_ ?_
  · skip
    exact (kl_B_spot_305 h_ro).tr (fl_sI (by decide) kl_rf)
  · skip
    refine KL_bn ((h_ro _ _ _ _).tr (fl_sI (by decide) kl_rf)) (fun _ _ => ?_)
    exact (kl_B_spot_305 h_ro).tr kl_rf
theorem kl_B_spot_269 {N : Nat} {ro : Nat → Int32 → Int32 → RSt → Option (Int32 × RSt)} {l1 : Int32} {l2 : Int32} {l3 : Int32} {l5 : Int32} {l6 : Int32} {l7 : Int32} {l8 : Int32} {l9 : Int32} {s1 : Int32} {u : RSt} (h_ro : ∀ q a b u, KL (ro q a b u) u) : KL (B_spot_269 N ro l1 l2 l3 l5 l6 l7 l8 l9 s1 u) u := by
  unfold B_spot_269
  refine KL_bn (kl_F_wrong.tr kl_rf) (fun _ _ => ?_)
  refine KL_if ?_ ?_
  · skip
    refine KL_bn (kl_F_cost.tr kl_rf) (fun _ _ => ?_)
    exact (kl_B_spot_283 h_ro).tr kl_rf
  · skip
    exact (kl_B_spot_283 h_ro).tr kl_rf
theorem kl_B_spot_268 {N : Nat} {ro : Nat → Int32 → Int32 → RSt → Option (Int32 × RSt)} {l1 : Int32} {l2 : Int32} {l3 : Int32} {l5 : Int32} {l6 : Int32} {l7 : Int32} {l8 : Int32} {l9 : Int32} {u : RSt} (h_ro : ∀ q a b u, KL (ro q a b u) u) : KL (B_spot_268 N ro l1 l2 l3 l5 l6 l7 l8 l9 u) u := by
  unfold B_spot_268
  exact (kl_B_spot_269 h_ro).tr kl_rf
theorem kl_B_spot_233 {N : Nat} {ro : Nat → Int32 → Int32 → RSt → Option (Int32 × RSt)} {l1 : Int32} {l2 : Int32} {l3 : Int32} {l5 : Int32} {l6 : Int32} {l7 : Int32} {l8 : Int32} {l9 : Int32} {s1 : Int32} {u : RSt} (h_ro : ∀ q a b u, KL (ro q a b u) u) : KL (B_spot_233 N ro l1 l2 l3 l5 l6 l7 l8 l9 s1 u) u := by
  unfold B_spot_233
  refine KL_bn (kl_F_wrong.tr kl_rf) (fun _ _ => ?_)
  refine KL_if ?_ ?_
  · skip
    exact (kl_B_spot_268 h_ro).tr kl_rf
  · skip
    refine KL_if ?_ ?_
    · skip
      exact (kl_B_spot_268 h_ro).tr kl_rf
    · skip
      refine KL_if ?_ ?_
      · skip
        refine KL_rd (fun _ => ?_)
        refine KL_if ?_ ?_
        · skip
          exact (kl_B_spot_269 h_ro).tr kl_rf
        · skip
          exact (kl_B_spot_268 h_ro).tr kl_rf
      · skip
        exact (kl_B_spot_268 h_ro).tr kl_rf
theorem kl_B_spot_232 {N : Nat} {ro : Nat → Int32 → Int32 → RSt → Option (Int32 × RSt)} {l1 : Int32} {l2 : Int32} {l3 : Int32} {l5 : Int32} {l6 : Int32} {l7 : Int32} {l8 : Int32} {l9 : Int32} {u : RSt} (h_ro : ∀ q a b u, KL (ro q a b u) u) : KL (B_spot_232 N ro l1 l2 l3 l5 l6 l7 l8 l9 u) u := by
  unfold B_spot_232
  exact (kl_B_spot_233 h_ro).tr kl_rf
theorem kl_B_spot_223 {N : Nat} {ro : Nat → Int32 → Int32 → RSt → Option (Int32 × RSt)} {l1 : Int32} {l2 : Int32} {l3 : Int32} {l5 : Int32} {l6 : Int32} {l7 : Int32} {l8 : Int32} {l9 : Int32} {s1 : Int32} {u : RSt} (h_ro : ∀ q a b u, KL (ro q a b u) u) : KL (B_spot_223 N ro l1 l2 l3 l5 l6 l7 l8 l9 s1 u) u := by
  unfold B_spot_223
  refine KL_if ?_ ?_
  · skip
    exact (kl_B_spot_232 h_ro).tr kl_rf
  · skip
    exact (kl_B_spot_233 h_ro).tr kl_rf
theorem kl_B_spot_185 {N : Nat} {ro : Nat → Int32 → Int32 → RSt → Option (Int32 × RSt)} {l1 : Int32} {l2 : Int32} {l3 : Int32} {l5 : Int32} {l6 : Int32} {l7 : Int32} {s0 : Int32} {u : RSt} (h_ro : ∀ q a b u, KL (ro q a b u) u) : KL (B_spot_185 N ro l1 l2 l3 l5 l6 l7 s0 u) u := by
  unfold B_spot_185
  refine KL_bn (kl_F_isNext.tr kl_rf) (fun _ _ => ?_)
  refine KL_if ?_ ?_
  · skip
    exact (kl_B_spot_232 h_ro).tr kl_rf
  · skip
    refine KL_if ?_ ?_
    · skip
      refine KL_rd (fun _ => ?_)
      exact (kl_B_spot_223 h_ro).tr kl_rf
    · skip
      refine KL_rd (fun _ => ?_)
      exact (kl_B_spot_223 h_ro).tr kl_rf
theorem kl_B_spot_153 {N : Nat} {ro : Nat → Int32 → Int32 → RSt → Option (Int32 × RSt)} {l1 : Int32} {l2 : Int32} {l3 : Int32} {l5 : Int32} {l6 : Int32} {s0 : Int32} {u : RSt} (h_ro : ∀ q a b u, KL (ro q a b u) u) : KL (B_spot_153 N ro l1 l2 l3 l5 l6 s0 u) u := by
  unfold B_spot_153
  refine KL_if ?_ ?_
  · skip
    exact (kl_B_spot_185 h_ro).tr kl_rf
  · skip
    refine KL_if ?_ ?_
    · skip
      refine KL_rd (fun _ => ?_)
      exact (kl_B_spot_185 h_ro).tr kl_rf
    · skip
      refine KL_rd (fun _ => ?_)
      exact (kl_B_spot_185 h_ro).tr kl_rf
theorem kl_B_spot_108 {N : Nat} {ro : Nat → Int32 → Int32 → RSt → Option (Int32 × RSt)} {l1 : Int32} {l2 : Int32} {l3 : Int32} {l4 : Int32} {s0 : Int32} {u : RSt} (h_ro : ∀ q a b u, KL (ro q a b u) u) : KL (B_spot_108 N ro l1 l2 l3 l4 s0 u) u := by
  unfold B_spot_108
  refine KL_if ?_ ?_
  · skip
    exact (kl_B_spot_153 h_ro).tr kl_rf
  · skip
    refine KL_if ?_ ?_
    · skip
      refine KL_rd (fun _ => ?_)
      exact (kl_B_spot_153 h_ro).tr kl_rf
    · skip
      refine KL_rd (fun _ => ?_)
      exact (kl_B_spot_153 h_ro).tr kl_rf
theorem kl_B_spot_107 {N : Nat} {ro : Nat → Int32 → Int32 → RSt → Option (Int32 × RSt)} {l1 : Int32} {l2 : Int32} {l3 : Int32} {l4 : Int32} {u : RSt} (h_ro : ∀ q a b u, KL (ro q a b u) u) : KL (B_spot_107 N ro l1 l2 l3 l4 u) u := by
  unfold B_spot_107
  exact (kl_B_spot_108 h_ro).tr kl_rf
theorem kl_B_spot_84 {N : Nat} {ro : Nat → Int32 → Int32 → RSt → Option (Int32 × RSt)} {l1 : Int32} {l2 : Int32} {l3 : Int32} {l4 : Int32} {s1 : Int32} {u : RSt} (h_ro : ∀ q a b u, KL (ro q a b u) u) : KL (B_spot_84 N ro l1 l2 l3 l4 s1 u) u := by
  unfold B_spot_84
  refine KL_bn (kl_F_wrong.tr kl_rf) (fun _ _ => ?_)
  refine KL_if ?_ ?_
  · skip
    exact (kl_B_spot_107 h_ro).tr kl_rf
  · skip
    refine KL_if ?_ ?_
    · skip
      exact (kl_B_spot_108 h_ro).tr kl_rf
    · skip
      exact (kl_B_spot_107 h_ro).tr kl_rf
theorem kl_B_spot_83 {N : Nat} {ro : Nat → Int32 → Int32 → RSt → Option (Int32 × RSt)} {l1 : Int32} {l2 : Int32} {l3 : Int32} {l4 : Int32} {u : RSt} (h_ro : ∀ q a b u, KL (ro q a b u) u) : KL (B_spot_83 N ro l1 l2 l3 l4 u) u := by
  unfold B_spot_83
  exact (kl_B_spot_84 h_ro).tr kl_rf
theorem kl_B_spot_65 {N : Nat} {ro : Nat → Int32 → Int32 → RSt → Option (Int32 × RSt)} {l1 : Int32} {l2 : Int32} {l3 : Int32} {s0 : Int32} {u : RSt} (h_ro : ∀ q a b u, KL (ro q a b u) u) : KL (B_spot_65 N ro l1 l2 l3 s0 u) u := by
  unfold B_spot_65
  refine KL_if ?_ ?_
  · skip
    refine KL_if ?_ ?_
    · skip
      exact (kl_B_spot_84 h_ro).tr kl_rf
    · skip
      exact (kl_B_spot_83 h_ro).tr kl_rf
  · skip
    exact (kl_B_spot_83 h_ro).tr kl_rf
theorem kl_B_spot_64 {N : Nat} {ro : Nat → Int32 → Int32 → RSt → Option (Int32 × RSt)} {l1 : Int32} {l2 : Int32} {l3 : Int32} {u : RSt} (h_ro : ∀ q a b u, KL (ro q a b u) u) : KL (B_spot_64 N ro l1 l2 l3 u) u := by
  unfold B_spot_64
  exact (kl_B_spot_65 h_ro).tr kl_rf
theorem kl_B_spot_43 {N : Nat} {ro : Nat → Int32 → Int32 → RSt → Option (Int32 × RSt)} {l1 : Int32} {l2 : Int32} {s0 : Int32} {u : RSt} (h_ro : ∀ q a b u, KL (ro q a b u) u) : KL (B_spot_43 N ro l1 l2 s0 u) u := by
  unfold B_spot_43
  refine KL_if ?_ ?_
  · skip
    refine KL_if ?_ ?_
    · skip
      exact (kl_B_spot_64 h_ro).tr kl_rf
    · skip
      refine KL_bn (kl_F_own.tr kl_rf) (fun _ _ => ?_)
      exact (kl_B_spot_65 h_ro).tr kl_rf
  · skip
    exact (kl_B_spot_64 h_ro).tr kl_rf
theorem kl_B_spot_0 {N : Nat} {ro : Nat → Int32 → Int32 → RSt → Option (Int32 × RSt)} {l1 : Int32} {u : RSt} (h_ro : ∀ q a b u, KL (ro q a b u) u) : KL (B_spot_0 N ro l1 u) u := by
  unfold B_spot_0
  refine KL_rd (fun _ => ?_)
  refine KL_if ?_ ?_
  · skip
    exact (kl_B_spot_43 h_ro).tr kl_rf
  · skip
    refine KL_rd (fun _ => ?_)
    refine KL_rd (fun _ => ?_)
    refine KL_bn (kl_F_slotOf.tr kl_rf) (fun _ _ => ?_)
    exact (kl_B_spot_43 h_ro).tr kl_rf
theorem kl_F_spot {N : Nat} {ro : Nat → Int32 → Int32 → RSt → Option (Int32 × RSt)} {l1 : Int32} {u : RSt} (h_ro : ∀ q a b u, KL (ro q a b u) u) : KL (F_spot N ro l1 u) u := by
  unfold F_spot
  exact (kl_B_spot_0 h_ro).tr kl_rf
theorem kl_FE_ {N : Nat} : ∀ (d q : Nat) (a b : Int32) (u : RSt), KL (FE_ N d q a b u) u := by
  intro d
  induction d with
  | zero => exact fun q a b u => KL_none
  | succ d ih =>
    intro q a b u
    show KL (if q = 0 then F_expression N (FE_ N d) u else if q = 1 then F_two N (FE_ N d) a u else if q = 2 then F_operand N (FE_ N d) u else if q = 3 then F_signed N (FE_ N d) a u else if q = 4 then F_cast N (FE_ N d) u else if q = 5 then F_call N (FE_ N d) u else if q = 6 then F_inner N (FE_ N d) u else if q = 7 then F_index N (FE_ N d) a b u else if q = 8 then F_spot N (FE_ N d) a u else none) u
    refine KL_if (kl_F_expression ih) ?_
    refine KL_if (kl_F_two ih) ?_
    refine KL_if (kl_F_operand ih) ?_
    refine KL_if (kl_F_signed ih) ?_
    refine KL_if (kl_F_cast ih) ?_
    refine KL_if (kl_F_call ih) ?_
    refine KL_if (kl_F_inner ih) ?_
    refine KL_if (kl_F_index ih) ?_
    refine KL_if (kl_F_spot ih) ?_
    exact KL_none
theorem kl_G_expression {N : Nat} {u : RSt} : KL (G_expression N u) u := kl_FE_ _ _ _ _ _
theorem kl_G_spot {N : Nat} {l1 : Int32} {u : RSt} : KL (G_spot N l1 u) u := kl_FE_ _ _ _ _ _
theorem kl_B_returns_136 {N : Nat} {u : RSt}  : KL (B_returns_136 N u) u := by
  unfold B_returns_136
  refine KL_bn (kl_F_take.tr kl_rf) (fun _ _ => ?_)
  exact KL_some kl_rf
theorem kl_B_returns_124 {N : Nat} {u : RSt}  : KL (B_returns_124 N u) u := by
  unfold B_returns_124
  exact kl_B_returns_136.tr kl_rf
theorem kl_B_returns_46 {N : Nat} {l1 : Int32} {l2 : Int32} {s1 : Int32} {u : RSt}  : KL (B_returns_46 N l1 l2 s1 u) u := by
  unfold B_returns_46
  refine KL_bn (kl_F_wrong.tr kl_rf) (fun _ _ => ?_)
  refine KL_if ?_ ?_
  · skip
    refine KL_bn (kl_F_emit.tr kl_rf) (fun _ _ => ?_)
    exact kl_B_returns_136.tr kl_rf
  · skip
    refine KL_rd (fun _ => ?_)
    refine KL_bn (kl_G_expression.tr kl_rf) (fun _ _ => ?_)
    refine KL_if ?_ ?_
    · skip
      exact kl_B_returns_124.tr kl_rf
    · skip
      refine KL_if ?_ ?_
      · skip
        refine KL_rd (fun _ => ?_)
        refine KL_bn (kl_F_isTooWide.tr kl_rf) (fun _ _ => ?_)
        refine KL_bn (kl_F_wrong.tr kl_rf) (fun _ _ => ?_)
        refine KL_rd (fun _ => ?_)
        refine KL_bn (kl_F_emit.tr kl_rf) (fun _ _ => ?_)
        exact kl_B_returns_124.tr kl_rf
      · skip
        exact kl_B_returns_124.tr kl_rf
theorem kl_B_returns_38 {N : Nat} {l1 : Int32} {l2 : Int32} {s1 : Int32} {s2 : Int32} {u : RSt}  : KL (B_returns_38 N l1 l2 s1 s2 u) u := by
  unfold B_returns_38
  refine KL_if ?_ ?_
  · skip
    exact kl_B_returns_46.tr kl_rf
  · skip
    exact kl_B_returns_46.tr kl_rf
theorem kl_B_returns_22 {N : Nat} {l1 : Int32} {s0 : Int32} {u : RSt}  : KL (B_returns_22 N l1 s0 u) u := by
  unfold B_returns_22
  refine KL_if ?_ ?_
  · skip
    exact kl_B_returns_38.tr kl_rf
  · skip
    exact kl_B_returns_38.tr kl_rf
theorem kl_B_returns_21 {N : Nat} {l1 : Int32} {u : RSt}  : KL (B_returns_21 N l1 u) u := by
  unfold B_returns_21
  exact kl_B_returns_22.tr kl_rf
theorem kl_B_returns_0 {N : Nat} {l1 : Int32} {u : RSt}  : KL (B_returns_0 N l1 u) u := by
  unfold B_returns_0
  refine KL_if ?_ ?_
  · skip
    refine KL_bn (kl_F_is.tr kl_rf) (fun _ _ => ?_)
    refine KL_if ?_ ?_
    · skip
      exact kl_B_returns_22.tr kl_rf
    · skip
      exact kl_B_returns_21.tr kl_rf
  · skip
    exact kl_B_returns_21.tr kl_rf
theorem kl_F_returns {N : Nat} {l1 : Int32} {u : RSt}  : KL (F_returns N l1 u) u := by
  unfold F_returns
  exact kl_B_returns_0.tr kl_rf
theorem kl_B_runs_275 {N : Nat} {R_117 : Int32 × Int32 × Int32 × Int32 × Int32 × RSt → Option (Int32 × RSt)} {l1 : Int32} {l3 : Int32} {l4 : Int32} {l5 : Int32} {u : RSt} (h_R_117 : ∀ a, KL (R_117 a) a.2.2.2.2.2) : KL (B_runs_275 N R_117 l1 l3 l4 l5 u) u := by
  unfold B_runs_275
  refine KL_bn (kl_F_has.tr kl_rf) (fun _ _ => ?_)
  exact (h_R_117 _).tr kl_rf
theorem kl_B_runs_215 {N : Nat} {R_117 : Int32 × Int32 × Int32 × Int32 × Int32 × RSt → Option (Int32 × RSt)} {l1 : Int32} {l3 : Int32} {l4 : Int32} {l5 : Int32} {l7 : Int32} {l8 : Int32} {s0 : Int32} {u : RSt} (h_R_117 : ∀ a, KL (R_117 a) a.2.2.2.2.2) : KL (B_runs_215 N R_117 l1 l3 l4 l5 l7 l8 s0 u) u := by
  unfold B_runs_215
  refine KL_rd (fun _ => ?_)
  refine KL_bn (kl_G_expression.tr kl_rf) (fun _ _ => ?_)
  refine KL_if ?_ ?_
  · skip
    exact (kl_B_runs_275 h_R_117).tr kl_rf
  · skip
    refine KL_rd (fun _ => ?_)
    refine KL_bn (kl_F_isTooWide.tr kl_rf) (fun _ _ => ?_)
    refine KL_bn (kl_F_wrong.tr kl_rf) (fun _ _ => ?_)
    refine KL_rd (fun _ => ?_)
    refine KL_bn (kl_F_emit.tr kl_rf) (fun _ _ => ?_)
    exact (kl_B_runs_275 h_R_117).tr kl_rf
theorem kl_B_runs_183 {N : Nat} {R_117 : Int32 × Int32 × Int32 × Int32 × Int32 × RSt → Option (Int32 × RSt)} {l1 : Int32} {l3 : Int32} {l4 : Int32} {l5 : Int32} {l7 : Int32} {s0 : Int32} {u : RSt} (h_R_117 : ∀ a, KL (R_117 a) a.2.2.2.2.2) : KL (B_runs_183 N R_117 l1 l3 l4 l5 l7 s0 u) u := by
  unfold B_runs_183
  refine KL_if ?_ ?_
  · skip
    exact (kl_B_runs_215 h_R_117).tr kl_rf
  · skip
    refine KL_rd (fun _ => ?_)
    refine KL_rd (fun _ => ?_)
    refine KL_bn (kl_F_emit.tr kl_rf) (fun _ _ => ?_)
    exact (kl_B_runs_215 h_R_117).tr kl_rf
theorem kl_B_runs_153 {N : Nat} {R_117 : Int32 × Int32 × Int32 × Int32 × Int32 × RSt → Option (Int32 × RSt)} {l1 : Int32} {l3 : Int32} {l4 : Int32} {l5 : Int32} {s0 : Int32} {u : RSt} (h_R_117 : ∀ a, KL (R_117 a) a.2.2.2.2.2) : KL (B_runs_153 N R_117 l1 l3 l4 l5 s0 u) u := by
  unfold B_runs_153
  refine KL_if ?_ ?_
  · skip
    exact (kl_B_runs_183 h_R_117).tr kl_rf
  · skip
    refine KL_rd (fun _ => ?_)
    exact (kl_B_runs_183 h_R_117).tr kl_rf
theorem kl_B_runs_152 {N : Nat} {R_117 : Int32 × Int32 × Int32 × Int32 × Int32 × RSt → Option (Int32 × RSt)} {l1 : Int32} {l3 : Int32} {l4 : Int32} {l5 : Int32} {u : RSt} (h_R_117 : ∀ a, KL (R_117 a) a.2.2.2.2.2) : KL (B_runs_152 N R_117 l1 l3 l4 l5 u) u := by
  unfold B_runs_152
  exact (kl_B_runs_153 h_R_117).tr kl_rf
theorem kl_B_runs_344 {N : Nat} {u : RSt}  : KL (B_runs_344 N u) u := by
  unfold B_runs_344
  refine KL_bn (kl_F_take.tr kl_rf) (fun _ _ => ?_)
  exact KL_some kl_rf
theorem kl_B_runs_329 {N : Nat} {l1 : Int32} {l3 : Int32} {s1 : Int32} {u : RSt}  : KL (B_runs_329 N l1 l3 s1 u) u := by
  unfold B_runs_329
  refine KL_bn (kl_F_wrong.tr kl_rf) (fun _ _ => ?_)
  refine KL_bn (kl_F_emit.tr kl_rf) (fun _ _ => ?_)
  exact kl_B_runs_344.tr kl_rf
theorem kl_B_runs_117 {N : Nat} {R_117 : Int32 × Int32 × Int32 × Int32 × Int32 × RSt → Option (Int32 × RSt)} {l1 : Int32} {l3 : Int32} {l4 : Int32} {l5 : Int32} {l6 : Int32} {u : RSt} (h_R_117 : ∀ a, KL (R_117 a) a.2.2.2.2.2) : KL (B_runs_117 N R_117 l1 l3 l4 l5 l6 u) u := by
  unfold B_runs_117
  refine KL_if ?_ ?_
  · skip
    refine KL_bn (kl_F_ends.tr kl_rf) (fun _ _ => ?_)
    refine KL_if ?_ ?_
    · skip
      exact kl_B_runs_344.tr kl_rf
    · skip
      refine KL_if ?_ ?_
      · skip
        refine KL_rd (fun _ => ?_)
        refine KL_if ?_ ?_
        · skip
          exact kl_B_runs_329.tr kl_rf
        · skip
          exact kl_B_runs_329.tr kl_rf
      · skip
        exact kl_B_runs_344.tr kl_rf
  · skip
    refine KL_if ?_ ?_
    · skip
      exact (kl_B_runs_152 h_R_117).tr kl_rf
    · skip
      refine KL_if ?_ ?_
      · skip
        refine KL_rd (fun _ => ?_)
        refine KL_if ?_ ?_
        · skip
          exact (kl_B_runs_152 h_R_117).tr kl_rf
        · skip
          exact (kl_B_runs_153 h_R_117).tr kl_rf
      · skip
        exact (kl_B_runs_152 h_R_117).tr kl_rf
theorem kl_LP_runs_117 {N : Nat}  (n : Nat) : ∀ a : Int32 × Int32 × Int32 × Int32 × Int32 × RSt, KL (LP_runs_117 N n a) a.2.2.2.2.2 := by
  induction n with
  | zero => exact fun a r z e => by have e : (none : Option _) = some (r, z) := e; cases e
  | succ n ih =>
    intro a
    show KL (B_runs_117 N (LP_runs_117 N n) a.1 a.2.1 a.2.2.1 a.2.2.2.1 a.2.2.2.2.1 a.2.2.2.2.2) a.2.2.2.2.2
    exact kl_B_runs_117 ih
theorem kl_B_runs_115 {N : Nat} {l1 : Int32} {l3 : Int32} {l4 : Int32} {l5 : Int32} {s0 : Int32} {u : RSt}  : KL (B_runs_115 N l1 l3 l4 l5 s0 u) u := by
  unfold B_runs_115
  exact (kl_LP_runs_117  _ _).tr kl_rf
theorem kl_B_runs_114 {N : Nat} {l1 : Int32} {l3 : Int32} {l4 : Int32} {l5 : Int32} {u : RSt}  : KL (B_runs_114 N l1 l3 l4 l5 u) u := by
  unfold B_runs_114
  exact kl_B_runs_115.tr kl_rf
theorem kl_B_runs_81 {N : Nat} {l1 : Int32} {l3 : Int32} {s0 : Int32} {u : RSt}  : KL (B_runs_81 N l1 l3 s0 u) u := by
  unfold B_runs_81
  refine KL_bn (kl_F_begins.tr kl_rf) (fun _ _ => ?_)
  refine KL_if ?_ ?_
  · skip
    refine KL_bn (kl_F_is.tr kl_rf) (fun _ _ => ?_)
    refine KL_if ?_ ?_
    · skip
      exact kl_B_runs_115.tr kl_rf
    · skip
      exact kl_B_runs_114.tr kl_rf
  · skip
    exact kl_B_runs_114.tr kl_rf
theorem kl_B_runs_80 {N : Nat} {l1 : Int32} {l3 : Int32} {u : RSt}  : KL (B_runs_80 N l1 l3 u) u := by
  unfold B_runs_80
  exact kl_B_runs_81.tr kl_rf
theorem kl_B_runs_27 {N : Nat} {l1 : Int32} {l2 : Int32} {s1 : Int32} {u : RSt}  : KL (B_runs_27 N l1 l2 s1 u) u := by
  unfold B_runs_27
  refine KL_bn (kl_F_wrong.tr kl_rf) (fun _ _ => ?_)
  refine KL_bn (kl_F_cost.tr kl_rf) (fun _ _ => ?_)
  refine KL_pu ?_
  refine KL_if ?_ ?_
  · skip
    exact kl_B_runs_80.tr (fl_sI (by decide) kl_rf)
  · skip
    refine KL_if ?_ ?_
    · skip
      refine KL_rd (fun _ => ?_)
      exact kl_B_runs_81.tr (fl_sI (by decide) kl_rf)
    · skip
      exact kl_B_runs_80.tr (fl_sI (by decide) kl_rf)
theorem kl_B_runs_0 {N : Nat} {u : RSt}  : KL (B_runs_0 N u) u := by
  unfold B_runs_0
  refine KL_rd (fun _ => ?_)
  refine KL_bn (kl_F_own.tr kl_rf) (fun _ _ => ?_)
  refine KL_if ?_ ?_
  · skip
    exact kl_B_runs_27.tr kl_rf
  · skip
    exact kl_B_runs_27.tr kl_rf
theorem kl_F_runs {N : Nat} {u : RSt}  : KL (F_runs N u) u := by
  unfold F_runs
  exact kl_B_runs_0.tr kl_rf
theorem kl_B_sets_442 {N : Nat} {u : RSt}  : KL (B_sets_442 N u) u := by
  unfold B_sets_442
  refine KL_bn (kl_F_take.tr kl_rf) (fun _ _ => ?_)
  exact KL_some kl_rf
theorem kl_B_sets_233 {N : Nat} {s0 : Int32} {u : RSt}  : KL (B_sets_233 N s0 u) u := by
  unfold B_sets_233
  exact kl_B_sets_442.tr kl_rf
theorem kl_B_sets_203 {N : Nat} {l1 : Int32} {l2 : Int32} {l4 : Int32} {s1 : Int32} {u : RSt}  : KL (B_sets_203 N l1 l2 l4 s1 u) u := by
  unfold B_sets_203
  refine KL_bn (kl_F_wrong.tr kl_rf) (fun _ _ => ?_)
  refine KL_if ?_ ?_
  · skip
    refine KL_bn (kl_F_emit.tr kl_rf) (fun _ _ => ?_)
    exact kl_B_sets_233.tr kl_rf
  · skip
    refine KL_bn (kl_F_emit.tr kl_rf) (fun _ _ => ?_)
    exact kl_B_sets_233.tr kl_rf
theorem kl_B_sets_202 {N : Nat} {l1 : Int32} {l2 : Int32} {l4 : Int32} {u : RSt}  : KL (B_sets_202 N l1 l2 l4 u) u := by
  unfold B_sets_202
  exact kl_B_sets_203.tr kl_rf
theorem kl_B_sets_417 {N : Nat} {l1 : Int32} {l4 : Int32} {l8 : Int32} {s0 : Int32} {u : RSt}  : KL (B_sets_417 N l1 l4 l8 s0 u) u := by
  unfold B_sets_417
  refine KL_bn (kl_F_joined.tr kl_rf) (fun _ _ => ?_)
  refine KL_bn (kl_F_emit.tr kl_rf) (fun _ _ => ?_)
  exact kl_B_sets_442.tr kl_rf
theorem kl_B_sets_323 {N : Nat} {l1 : Int32} {l4 : Int32} {l8 : Int32} {u : RSt}  : KL (B_sets_323 N l1 l4 l8 u) u := by
  unfold B_sets_323
  exact kl_B_sets_417.tr kl_rf
theorem kl_B_sets_343 {N : Nat} {l1 : Int32} {l4 : Int32} {l8 : Int32} {u : RSt}  : KL (B_sets_343 N l1 l4 l8 u) u := by
  unfold B_sets_343
  exact kl_B_sets_417.tr kl_rf
theorem kl_B_sets_270 {N : Nat} {l1 : Int32} {l3 : Int32} {l4 : Int32} {l8 : Int32} {u : RSt}  : KL (B_sets_270 N l1 l3 l4 l8 u) u := by
  unfold B_sets_270
  refine KL_if ?_ ?_
  · skip
    exact kl_B_sets_417.tr kl_rf
  · skip
    refine KL_if ?_ ?_
    · skip
      exact kl_B_sets_417.tr kl_rf
    · skip
      refine KL_if ?_ ?_
      · skip
        exact kl_B_sets_417.tr kl_rf
      · skip
        refine KL_if ?_ ?_
        · skip
          exact kl_B_sets_323.tr kl_rf
        · skip
          refine KL_if ?_ ?_
          · skip
            exact kl_B_sets_323.tr kl_rf
          · skip
            refine KL_if ?_ ?_
            · skip
              exact kl_B_sets_343.tr kl_rf
            · skip
              refine KL_if ?_ ?_
              · skip
                exact kl_B_sets_343.tr kl_rf
              · skip
                refine KL_if ?_ ?_
                · skip
                  exact kl_B_sets_417.tr kl_rf
                · skip
                  refine KL_if ?_ ?_
                  · skip
                    exact kl_B_sets_417.tr kl_rf
                  · skip
                    refine KL_if ?_ ?_
                    · skip
                      exact kl_B_sets_417.tr kl_rf
                    · skip
                      refine KL_if ?_ ?_
                      · skip
                        exact kl_B_sets_417.tr kl_rf
                      · skip
                        refine KL_if ?_ ?_
                        · skip
                          exact kl_B_sets_417.tr kl_rf
                        · skip
                          exact kl_B_sets_417.tr kl_rf
theorem kl_B_sets_145 {N : Nat} {l1 : Int32} {l2 : Int32} {l3 : Int32} {l4 : Int32} {l5 : Int32} {s1 : Int32} {u : RSt}  : KL (B_sets_145 N l1 l2 l3 l4 l5 s1 u) u := by
  unfold B_sets_145
  refine KL_bn (kl_F_wrong.tr kl_rf) (fun _ _ => ?_)
  refine KL_if ?_ ?_
  · skip
    refine KL_pu ?_
    refine KL_if ?_ ?_
    · skip
      refine KL_bn (kl_G_expression.tr (fl_sI (by decide) kl_rf)) (fun _ _ => ?_)
      refine KL_if ?_ ?_
      · skip
        refine KL_bn (kl_F_isTooWide.tr kl_rf) (fun _ _ => ?_)
        refine KL_if ?_ ?_
        · skip
          exact kl_B_sets_202.tr kl_rf
        · skip
          exact kl_B_sets_203.tr kl_rf
      · skip
        exact kl_B_sets_202.tr kl_rf
    · skip
      refine KL_bn (kl_F_emit.tr (fl_sI (by decide) kl_rf)) (fun _ _ => ?_)
      refine KL_if ?_ ?_
      · skip
        refine KL_bn (kl_F_push.tr kl_rf) (fun _ _ => ?_)
        exact kl_B_sets_270.tr kl_rf
      · skip
        refine KL_bn (kl_G_expression.tr kl_rf) (fun _ _ => ?_)
        exact kl_B_sets_270.tr kl_rf
  · skip
    exact KL_some kl_rf
theorem kl_B_sets_144 {N : Nat} {l1 : Int32} {l2 : Int32} {l3 : Int32} {l4 : Int32} {l5 : Int32} {u : RSt}  : KL (B_sets_144 N l1 l2 l3 l4 l5 u) u := by
  unfold B_sets_144
  exact kl_B_sets_145.tr kl_rf
theorem kl_B_sets_127 {N : Nat} {l1 : Int32} {l2 : Int32} {l3 : Int32} {l4 : Int32} {l5 : Int32} {u : RSt}  : KL (B_sets_127 N l1 l2 l3 l4 l5 u) u := by
  unfold B_sets_127
  refine KL_if ?_ ?_
  · skip
    exact kl_B_sets_144.tr kl_rf
  · skip
    refine KL_if ?_ ?_
    · skip
      exact kl_B_sets_144.tr kl_rf
    · skip
      exact kl_B_sets_145.tr kl_rf
theorem kl_B_sets_97 {N : Nat} {l1 : Int32} {l2 : Int32} {l3 : Int32} {l4 : Int32} {l5 : Int32} {s0 : Int32} {u : RSt}  : KL (B_sets_97 N l1 l2 l3 l4 l5 s0 u) u := by
  unfold B_sets_97
  refine KL_if ?_ ?_
  · skip
    refine KL_if ?_ ?_
    · skip
      exact kl_B_sets_127.tr kl_rf
    · skip
      refine KL_if ?_ ?_
      · skip
        refine KL_if ?_ ?_
        · skip
          refine KL_bn (kl_F_stuck.tr kl_rf) (fun _ _ => ?_)
          exact kl_B_sets_127.tr kl_rf
        · skip
          exact kl_B_sets_127.tr kl_rf
      · skip
        exact kl_B_sets_127.tr kl_rf
  · skip
    exact kl_B_sets_127.tr kl_rf
theorem kl_B_sets_92 {N : Nat} {l1 : Int32} {l2 : Int32} {l3 : Int32} {l4 : Int32} {l5 : Int32} {u : RSt}  : KL (B_sets_92 N l1 l2 l3 l4 l5 u) u := by
  unfold B_sets_92
  exact kl_B_sets_97.tr kl_rf
theorem kl_B_sets_76 {N : Nat} {l1 : Int32} {l2 : Int32} {l3 : Int32} {l4 : Int32} {s0 : Int32} {u : RSt}  : KL (B_sets_76 N l1 l2 l3 l4 s0 u) u := by
  unfold B_sets_76
  refine KL_if ?_ ?_
  · skip
    exact kl_B_sets_92.tr kl_rf
  · skip
    refine KL_if ?_ ?_
    · skip
      exact kl_B_sets_92.tr kl_rf
    · skip
      exact kl_B_sets_97.tr kl_rf
theorem kl_B_sets_71 {N : Nat} {l1 : Int32} {l2 : Int32} {l3 : Int32} {l4 : Int32} {u : RSt}  : KL (B_sets_71 N l1 l2 l3 l4 u) u := by
  unfold B_sets_71
  exact kl_B_sets_76.tr kl_rf
theorem kl_B_sets_50 {N : Nat} {l1 : Int32} {l2 : Int32} {l3 : Int32} {l4 : Int32} {u : RSt}  : KL (B_sets_50 N l1 l2 l3 l4 u) u := by
  unfold B_sets_50
  refine KL_if ?_ ?_
  · skip
    exact kl_B_sets_71.tr kl_rf
  · skip
    refine KL_if ?_ ?_
    · skip
      exact kl_B_sets_71.tr kl_rf
    · skip
      refine KL_if ?_ ?_
      · skip
        exact kl_B_sets_71.tr kl_rf
      · skip
        exact kl_B_sets_76.tr kl_rf
theorem kl_B_sets_0 {N : Nat} {u : RSt}  : KL (B_sets_0 N u) u := by
  unfold B_sets_0
  refine KL_bn (kl_G_spot.tr kl_rf) (fun _ _ => ?_)
  refine KL_rd (fun _ => ?_)
  refine KL_rd (fun _ => ?_)
  refine KL_if ?_ ?_
  · skip
    exact kl_B_sets_50.tr kl_rf
  · skip
    refine KL_if ?_ ?_
    · skip
      exact kl_B_sets_71.tr kl_rf
    · skip
      exact kl_B_sets_50.tr kl_rf
theorem kl_F_sets {N : Nat} {u : RSt}  : KL (F_sets N u) u := by
  unfold F_sets
  exact kl_B_sets_0.tr kl_rf
theorem kl_B_body_31 {N : Nat} {ro : Nat → Int32 → Int32 → RSt → Option (Int32 × RSt)} {u : RSt} (h_ro : ∀ q a b u, KL (ro q a b u) u) : KL (B_body_31 N ro u) u := by
  unfold B_body_31
  refine KL_bn (kl_F_ends.tr kl_rf) (fun _ _ => ?_)
  exact KL_some kl_rf
theorem kl_B_body_7 {N : Nat} {ro : Nat → Int32 → Int32 → RSt → Option (Int32 × RSt)} {R_7 : RSt → Option (Int32 × RSt)} {u : RSt} (h_ro : ∀ q a b u, KL (ro q a b u) u) (h_R_7 : ∀ a, KL (R_7 a) a) : KL (B_body_7 N ro R_7 u) u := by
  unfold B_body_7
  refine KL_if ?_ ?_
  · skip
    refine KL_bn (kl_F_is.tr kl_rf) (fun _ _ => ?_)
    refine KL_if ?_ ?_
    · skip
      refine KL_bn ((h_ro _ _ _ _).tr kl_rf) (fun _ _ => ?_)
      exact (h_R_7 _).tr kl_rf
    · skip
      exact (kl_B_body_31 h_ro).tr kl_rf
  · skip
    exact (kl_B_body_31 h_ro).tr kl_rf
theorem kl_LP_body_7 {N : Nat} {ro : Nat → Int32 → Int32 → RSt → Option (Int32 × RSt)} (h_ro : ∀ q a b u, KL (ro q a b u) u) (n : Nat) : ∀ a : RSt, KL (LP_body_7 N ro n a) a := by
  induction n with
  | zero => exact fun a r z e => by have e : (none : Option _) = some (r, z) := e; cases e
  | succ n ih =>
    intro a
    show KL (B_body_7 N ro (LP_body_7 N ro n) a) a
    exact kl_B_body_7 h_ro ih
theorem kl_B_body_0 {N : Nat} {ro : Nat → Int32 → Int32 → RSt → Option (Int32 × RSt)} {u : RSt} (h_ro : ∀ q a b u, KL (ro q a b u) u) : KL (B_body_0 N ro u) u := by
  unfold B_body_0
  refine KL_bn (kl_F_begins.tr kl_rf) (fun _ _ => ?_)
  exact (kl_LP_body_7 h_ro _ _).tr kl_rf
theorem kl_F_body {N : Nat} {ro : Nat → Int32 → Int32 → RSt → Option (Int32 × RSt)} {u : RSt} (h_ro : ∀ q a b u, KL (ro q a b u) u) : KL (F_body N ro u) u := by
  unfold F_body
  exact (kl_B_body_0 h_ro).tr kl_rf
theorem kl_B_stat_66 {N : Nat} {ro : Nat → Int32 → Int32 → RSt → Option (Int32 × RSt)} {l1 : Int32} {l2 : Int32} {s0 : Int32} {u : RSt} (h_ro : ∀ q a b u, KL (ro q a b u) u) : KL (B_stat_66 N ro l1 l2 s0 u) u := by
  unfold B_stat_66
  refine KL_if ?_ ?_
  · skip
    refine KL_bn (kl_F_stuck.tr kl_rf) (fun _ _ => ?_)
    exact KL_some kl_rf
  · skip
    refine KL_bn (kl_F_cost.tr kl_rf) (fun _ _ => ?_)
    refine KL_if ?_ ?_
    · skip
      refine KL_bn (kl_F_isNext.tr kl_rf) (fun _ _ => ?_)
      refine KL_if ?_ ?_
      · skip
        refine KL_bn (kl_F_sets.tr kl_rf) (fun _ _ => ?_)
        exact KL_some kl_rf
      · skip
        refine KL_bn (kl_F_runs.tr kl_rf) (fun _ _ => ?_)
        exact KL_some kl_rf
    · skip
      refine KL_pu ?_
      refine KL_if ?_ ?_
      · skip
        refine KL_bn ((h_ro _ _ _ _).tr (fl_sI (by decide) kl_rf)) (fun _ _ => ?_)
        exact KL_some kl_rf
      · skip
        refine KL_if ?_ ?_
        · skip
          refine KL_bn ((h_ro _ _ _ _).tr (fl_sI (by decide) kl_rf)) (fun _ _ => ?_)
          exact KL_some kl_rf
        · skip
          refine KL_if ?_ ?_
          · skip
            refine KL_bn ((h_ro _ _ _ _).tr (fl_sI (by decide) kl_rf)) (fun _ _ => ?_)
            exact KL_some kl_rf
          · skip
            refine KL_if ?_ ?_
            · skip
              refine KL_bn ((h_ro _ _ _ _).tr (fl_sI (by decide) kl_rf)) (fun _ _ => ?_)
              exact KL_some kl_rf
            · skip
              refine KL_if ?_ ?_
              · skip
                refine KL_bn (kl_F_leaves.tr (fl_sI (by decide) kl_rf)) (fun _ _ => ?_)
                exact KL_some kl_rf
              · skip
                refine KL_if ?_ ?_
                · skip
                  refine KL_bn (kl_F_leaves.tr (fl_sI (by decide) kl_rf)) (fun _ _ => ?_)
                  exact KL_some kl_rf
                · skip
                  refine KL_if ?_ ?_
                  · skip
                    refine KL_bn (kl_F_returns.tr (fl_sI (by decide) kl_rf)) (fun _ _ => ?_)
                    exact KL_some kl_rf
                  · skip
                    refine KL_bn (kl_G_expression.tr (fl_sI (by decide) kl_rf)) (fun _ _ => ?_)
                    refine KL_bn (kl_F_emit.tr kl_rf) (fun _ _ => ?_)
                    refine KL_bn (kl_F_take.tr kl_rf) (fun _ _ => ?_)
                    exact KL_some kl_rf
theorem kl_B_stat_61 {N : Nat} {ro : Nat → Int32 → Int32 → RSt → Option (Int32 × RSt)} {l1 : Int32} {l2 : Int32} {u : RSt} (h_ro : ∀ q a b u, KL (ro q a b u) u) : KL (B_stat_61 N ro l1 l2 u) u := by
  unfold B_stat_61
  exact (kl_B_stat_66 h_ro).tr kl_rf
theorem kl_B_stat_65 {N : Nat} {ro : Nat → Int32 → Int32 → RSt → Option (Int32 × RSt)} {l1 : Int32} {l2 : Int32} {u : RSt} (h_ro : ∀ q a b u, KL (ro q a b u) u) : KL (B_stat_65 N ro l1 l2 u) u := by
  unfold B_stat_65
  exact (kl_B_stat_66 h_ro).tr kl_rf
theorem kl_B_stat_0 {N : Nat} {ro : Nat → Int32 → Int32 → RSt → Option (Int32 × RSt)} {u : RSt} (h_ro : ∀ q a b u, KL (ro q a b u) u) : KL (B_stat_0 N ro u) u := by
  unfold B_stat_0
  refine KL_rd (fun _ => ?_)
  refine KL_rd (fun _ => ?_)
  refine KL_if ?_ ?_
  · skip
    exact (kl_B_stat_61 h_ro).tr kl_rf
  · skip
    refine KL_if ?_ ?_
    · skip
      exact (kl_B_stat_65 h_ro).tr kl_rf
    · skip
      refine KL_if ?_ ?_
      · skip
        exact (kl_B_stat_65 h_ro).tr kl_rf
      · skip
        refine KL_if ?_ ?_
        · skip
          exact (kl_B_stat_65 h_ro).tr kl_rf
        · skip
          refine KL_if ?_ ?_
          · skip
            exact (kl_B_stat_65 h_ro).tr kl_rf
          · skip
            refine KL_if ?_ ?_
            · skip
              exact (kl_B_stat_65 h_ro).tr kl_rf
            · skip
              refine KL_if ?_ ?_
              · skip
                exact (kl_B_stat_65 h_ro).tr kl_rf
              · skip
                exact (kl_B_stat_61 h_ro).tr kl_rf
theorem kl_F_stat {N : Nat} {ro : Nat → Int32 → Int32 → RSt → Option (Int32 × RSt)} {u : RSt} (h_ro : ∀ q a b u, KL (ro q a b u) u) : KL (F_stat N ro u) u := by
  unfold F_stat
  exact (kl_B_stat_0 h_ro).tr kl_rf
theorem kl_B_choice_120 {N : Nat} {ro : Nat → Int32 → Int32 → RSt → Option (Int32 × RSt)} {l3 : Int32} {u : RSt} (h_ro : ∀ q a b u, KL (ro q a b u) u) : KL (B_choice_120 N ro l3 u) u := by
  unfold B_choice_120
  refine KL_bn (kl_F_leadAll.tr kl_rf) (fun _ _ => ?_)
  exact KL_some kl_rf
theorem kl_B_choice_110 {N : Nat} {ro : Nat → Int32 → Int32 → RSt → Option (Int32 × RSt)} {l2 : Int32} {l3 : Int32} {u : RSt} (h_ro : ∀ q a b u, KL (ro q a b u) u) : KL (B_choice_110 N ro l2 l3 u) u := by
  unfold B_choice_110
  refine KL_if ?_ ?_
  · skip
    exact (kl_B_choice_120 h_ro).tr kl_rf
  · skip
    refine KL_bn (kl_F_lead.tr kl_rf) (fun _ _ => ?_)
    exact (kl_B_choice_120 h_ro).tr kl_rf
theorem kl_B_choice_95 {N : Nat} {ro : Nat → Int32 → Int32 → RSt → Option (Int32 × RSt)} {R_20 : Int32 × Int32 × RSt → Option (Int32 × RSt)} {l2 : Int32} {l3 : Int32} {l4 : Int32} {u : RSt} (h_ro : ∀ q a b u, KL (ro q a b u) u) (h_R_20 : ∀ a, KL (R_20 a) a.2.2) : KL (B_choice_95 N ro R_20 l2 l3 l4 u) u := by
  unfold B_choice_95
  refine KL_bn ((h_ro _ _ _ _).tr kl_rf) (fun _ _ => ?_)
  refine KL_if ?_ ?_
  · skip
    exact (h_R_20 _).tr kl_rf
  · skip
    exact (kl_B_choice_110 h_ro).tr kl_rf
theorem kl_B_choice_38 {N : Nat} {ro : Nat → Int32 → Int32 → RSt → Option (Int32 × RSt)} {R_20 : Int32 × Int32 × RSt → Option (Int32 × RSt)} {l2 : Int32} {l3 : Int32} {u : RSt} (h_ro : ∀ q a b u, KL (ro q a b u) u) (h_R_20 : ∀ a, KL (R_20 a) a.2.2) : KL (B_choice_38 N ro R_20 l2 l3 u) u := by
  unfold B_choice_38
  refine KL_bn (kl_F_is.tr kl_rf) (fun _ _ => ?_)
  refine KL_bn (kl_F_emit.tr kl_rf) (fun _ _ => ?_)
  refine KL_bn (kl_F_lead.tr kl_rf) (fun _ _ => ?_)
  refine KL_pu ?_
  refine KL_if ?_ ?_
  · skip
    refine KL_bn (kl_G_expression.tr (fl_sI (by decide) kl_rf)) (fun _ _ => ?_)
    refine KL_bn (kl_F_emit.tr kl_rf) (fun _ _ => ?_)
    exact (kl_B_choice_95 h_ro h_R_20).tr kl_rf
  · skip
    exact (kl_B_choice_95 h_ro h_R_20).tr (fl_sI (by decide) kl_rf)
theorem kl_B_choice_20 {N : Nat} {ro : Nat → Int32 → Int32 → RSt → Option (Int32 × RSt)} {R_20 : Int32 × Int32 × RSt → Option (Int32 × RSt)} {l2 : Int32} {l3 : Int32} {u : RSt} (h_ro : ∀ q a b u, KL (ro q a b u) u) (h_R_20 : ∀ a, KL (R_20 a) a.2.2) : KL (B_choice_20 N ro R_20 l2 l3 u) u := by
  unfold B_choice_20
  refine KL_bn (kl_F_is.tr kl_rf) (fun _ _ => ?_)
  refine KL_if ?_ ?_
  · skip
    refine KL_bn (kl_F_is.tr kl_rf) (fun _ _ => ?_)
    refine KL_if ?_ ?_
    · skip
      exact (kl_B_choice_110 h_ro).tr kl_rf
    · skip
      exact (kl_B_choice_38 h_ro h_R_20).tr kl_rf
  · skip
    exact (kl_B_choice_38 h_ro h_R_20).tr kl_rf
theorem kl_LP_choice_20 {N : Nat} {ro : Nat → Int32 → Int32 → RSt → Option (Int32 × RSt)} (h_ro : ∀ q a b u, KL (ro q a b u) u) (n : Nat) : ∀ a : Int32 × Int32 × RSt, KL (LP_choice_20 N ro n a) a.2.2 := by
  induction n with
  | zero => exact fun a r z e => by have e : (none : Option _) = some (r, z) := e; cases e
  | succ n ih =>
    intro a
    show KL (B_choice_20 N ro (LP_choice_20 N ro n) a.1 a.2.1 a.2.2) a.2.2
    exact kl_B_choice_20 h_ro ih
theorem kl_B_choice_0 {N : Nat} {ro : Nat → Int32 → Int32 → RSt → Option (Int32 × RSt)} {u : RSt} (h_ro : ∀ q a b u, KL (ro q a b u) u) : KL (B_choice_0 N ro u) u := by
  unfold B_choice_0
  refine KL_bn (kl_G_expression.tr kl_rf) (fun _ _ => ?_)
  refine KL_bn (kl_F_emit.tr kl_rf) (fun _ _ => ?_)
  refine KL_bn ((h_ro _ _ _ _).tr kl_rf) (fun _ _ => ?_)
  exact (kl_LP_choice_20 h_ro _ _).tr kl_rf
theorem kl_F_choice {N : Nat} {ro : Nat → Int32 → Int32 → RSt → Option (Int32 × RSt)} {u : RSt} (h_ro : ∀ q a b u, KL (ro q a b u) u) : KL (F_choice N ro u) u := by
  unfold F_choice
  exact (kl_B_choice_0 h_ro).tr kl_rf
theorem kl_B_again_0 {N : Nat} {ro : Nat → Int32 → Int32 → RSt → Option (Int32 × RSt)} {l1 : Int32} {u : RSt} (h_ro : ∀ q a b u, KL (ro q a b u) u) : KL (B_again_0 N ro l1 u) u := by
  unfold B_again_0
  refine KL_bn (kl_F_here.tr kl_rf) (fun _ _ => ?_)
  refine KL_bn (kl_G_expression.tr kl_rf) (fun _ _ => ?_)
  refine KL_bn (kl_F_emit.tr kl_rf) (fun _ _ => ?_)
  refine KL_bn (kl_F_cost.tr kl_rf) (fun _ _ => ?_)
  refine KL_bn (kl_F_loop.tr kl_rf) (fun _ _ => ?_)
  refine KL_bn ((h_ro _ _ _ _).tr kl_rf) (fun _ _ => ?_)
  refine KL_pu ?_
  refine KL_rd (fun _ => ?_)
  refine KL_bn (kl_F_leadAll.tr (fl_sI (by decide) kl_rf)) (fun _ _ => ?_)
  refine KL_bn (kl_F_emit.tr kl_rf) (fun _ _ => ?_)
  refine KL_bn (kl_F_lead.tr kl_rf) (fun _ _ => ?_)
  refine KL_rd (fun _ => ?_)
  refine KL_bn (kl_F_leadAll.tr kl_rf) (fun _ _ => ?_)
  exact KL_some kl_rf
theorem kl_F_again {N : Nat} {ro : Nat → Int32 → Int32 → RSt → Option (Int32 × RSt)} {l1 : Int32} {u : RSt} (h_ro : ∀ q a b u, KL (ro q a b u) u) : KL (F_again N ro l1 u) u := by
  unfold F_again
  exact (kl_B_again_0 h_ro).tr kl_rf
theorem kl_B_counts_279 {N : Nat} {ro : Nat → Int32 → Int32 → RSt → Option (Int32 × RSt)} {l1 : Int32} {l7 : Int32} {l8 : Int32} {s0 : Int32} {u : RSt} (h_ro : ∀ q a b u, KL (ro q a b u) u) : KL (B_counts_279 N ro l1 l7 l8 s0 u) u := by
  unfold B_counts_279
  refine KL_pu ?_
  refine KL_rd (fun _ => ?_)
  refine KL_bn (kl_F_take.tr (fl_sI (by decide) kl_rf)) (fun _ _ => ?_)
  refine KL_bn (kl_F_emit.tr kl_rf) (fun _ _ => ?_)
  refine KL_bn (kl_G_expression.tr kl_rf) (fun _ _ => ?_)
  refine KL_bn (kl_F_isTooWide.tr kl_rf) (fun _ _ => ?_)
  refine KL_bn (kl_F_wrong.tr kl_rf) (fun _ _ => ?_)
  refine KL_bn (kl_F_emit.tr kl_rf) (fun _ _ => ?_)
  refine KL_bn (kl_F_take.tr kl_rf) (fun _ _ => ?_)
  refine KL_bn (kl_G_expression.tr kl_rf) (fun _ _ => ?_)
  refine KL_bn (kl_F_here.tr kl_rf) (fun _ _ => ?_)
  refine KL_bn (kl_F_emit.tr kl_rf) (fun _ _ => ?_)
  refine KL_bn (kl_F_emit.tr kl_rf) (fun _ _ => ?_)
  refine KL_bn (kl_F_emit.tr kl_rf) (fun _ _ => ?_)
  refine KL_bn (kl_F_cost.tr kl_rf) (fun _ _ => ?_)
  refine KL_bn (kl_F_loop.tr kl_rf) (fun _ _ => ?_)
  refine KL_bn ((h_ro _ _ _ _).tr kl_rf) (fun _ _ => ?_)
  refine KL_pu ?_
  refine KL_rd (fun _ => ?_)
  refine KL_bn (kl_F_leadAll.tr (fl_sI (by decide) kl_rf)) (fun _ _ => ?_)
  refine KL_bn (kl_F_emit.tr kl_rf) (fun _ _ => ?_)
  refine KL_bn (kl_F_emit.tr kl_rf) (fun _ _ => ?_)
  refine KL_bn (kl_F_emit.tr kl_rf) (fun _ _ => ?_)
  refine KL_bn (kl_F_emit.tr kl_rf) (fun _ _ => ?_)
  refine KL_bn (kl_F_emit.tr kl_rf) (fun _ _ => ?_)
  refine KL_bn (kl_F_push.tr kl_rf) (fun _ _ => ?_)
  refine KL_bn (kl_F_joined.tr kl_rf) (fun _ _ => ?_)
  refine KL_bn (kl_F_emit.tr kl_rf) (fun _ _ => ?_)
  refine KL_bn (kl_F_emit.tr kl_rf) (fun _ _ => ?_)
  refine KL_bn (kl_F_lead.tr kl_rf) (fun _ _ => ?_)
  refine KL_bn (kl_F_lead.tr kl_rf) (fun _ _ => ?_)
  refine KL_rd (fun _ => ?_)
  refine KL_bn (kl_F_leadAll.tr kl_rf) (fun _ _ => ?_)
  refine KL_bn (kl_F_emit.tr kl_rf) (fun _ _ => ?_)
  exact KL_some kl_rf
theorem kl_B_counts_247 {N : Nat} {ro : Nat → Int32 → Int32 → RSt → Option (Int32 × RSt)} {l1 : Int32} {l3 : Int32} {l5 : Int32} {l6 : Int32} {l7 : Int32} {s0 : Int32} {u : RSt} (h_ro : ∀ q a b u, KL (ro q a b u) u) : KL (B_counts_247 N ro l1 l3 l5 l6 l7 s0 u) u := by
  unfold B_counts_247
  refine KL_if ?_ ?_
  · skip
    exact (kl_B_counts_279 h_ro).tr kl_rf
  · skip
    refine KL_if ?_ ?_
    · skip
      refine KL_rd (fun _ => ?_)
      exact (kl_B_counts_279 h_ro).tr kl_rf
    · skip
      refine KL_rd (fun _ => ?_)
      exact (kl_B_counts_279 h_ro).tr kl_rf
theorem kl_B_counts_220 {N : Nat} {ro : Nat → Int32 → Int32 → RSt → Option (Int32 × RSt)} {l1 : Int32} {l3 : Int32} {l5 : Int32} {l6 : Int32} {s0 : Int32} {u : RSt} (h_ro : ∀ q a b u, KL (ro q a b u) u) : KL (B_counts_220 N ro l1 l3 l5 l6 s0 u) u := by
  unfold B_counts_220
  refine KL_if ?_ ?_
  · skip
    exact (kl_B_counts_247 h_ro).tr kl_rf
  · skip
    refine KL_if ?_ ?_
    · skip
      exact (kl_B_counts_247 h_ro).tr kl_rf
    · skip
      exact (kl_B_counts_247 h_ro).tr kl_rf
theorem kl_B_counts_185 {N : Nat} {ro : Nat → Int32 → Int32 → RSt → Option (Int32 × RSt)} {l1 : Int32} {l2 : Int32} {l3 : Int32} {l5 : Int32} {l6 : Int32} {s1 : Int32} {u : RSt} (h_ro : ∀ q a b u, KL (ro q a b u) u) : KL (B_counts_185 N ro l1 l2 l3 l5 l6 s1 u) u := by
  unfold B_counts_185
  refine KL_bn (kl_F_wrong.tr kl_rf) (fun _ _ => ?_)
  refine KL_if ?_ ?_
  · skip
    exact (kl_B_counts_220 h_ro).tr kl_rf
  · skip
    refine KL_if ?_ ?_
    · skip
      refine KL_rd (fun _ => ?_)
      exact (kl_B_counts_220 h_ro).tr kl_rf
    · skip
      refine KL_rd (fun _ => ?_)
      exact (kl_B_counts_220 h_ro).tr kl_rf
theorem kl_B_counts_180 {N : Nat} {ro : Nat → Int32 → Int32 → RSt → Option (Int32 × RSt)} {l1 : Int32} {l2 : Int32} {l3 : Int32} {l5 : Int32} {l6 : Int32} {u : RSt} (h_ro : ∀ q a b u, KL (ro q a b u) u) : KL (B_counts_180 N ro l1 l2 l3 l5 l6 u) u := by
  unfold B_counts_180
  exact (kl_B_counts_185 h_ro).tr kl_rf
theorem kl_B_counts_184 {N : Nat} {ro : Nat → Int32 → Int32 → RSt → Option (Int32 × RSt)} {l1 : Int32} {l2 : Int32} {l3 : Int32} {l5 : Int32} {l6 : Int32} {u : RSt} (h_ro : ∀ q a b u, KL (ro q a b u) u) : KL (B_counts_184 N ro l1 l2 l3 l5 l6 u) u := by
  unfold B_counts_184
  exact (kl_B_counts_185 h_ro).tr kl_rf
theorem kl_B_counts_121 {N : Nat} {ro : Nat → Int32 → Int32 → RSt → Option (Int32 × RSt)} {l1 : Int32} {l2 : Int32} {l3 : Int32} {l4 : Int32} {s0 : Int32} {u : RSt} (h_ro : ∀ q a b u, KL (ro q a b u) u) : KL (B_counts_121 N ro l1 l2 l3 l4 s0 u) u := by
  unfold B_counts_121
  refine KL_if ?_ ?_
  · skip
    exact (kl_B_counts_184 h_ro).tr kl_rf
  · skip
    refine KL_if ?_ ?_
    · skip
      refine KL_rd (fun _ => ?_)
      refine KL_if ?_ ?_
      · skip
        refine KL_rd (fun _ => ?_)
        refine KL_if ?_ ?_
        · skip
          exact (kl_B_counts_180 h_ro).tr kl_rf
        · skip
          exact (kl_B_counts_184 h_ro).tr kl_rf
      · skip
        exact (kl_B_counts_180 h_ro).tr kl_rf
    · skip
      refine KL_rd (fun _ => ?_)
      refine KL_if ?_ ?_
      · skip
        exact (kl_B_counts_184 h_ro).tr kl_rf
      · skip
        exact (kl_B_counts_180 h_ro).tr kl_rf
theorem kl_B_counts_120 {N : Nat} {ro : Nat → Int32 → Int32 → RSt → Option (Int32 × RSt)} {l1 : Int32} {l2 : Int32} {l3 : Int32} {l4 : Int32} {u : RSt} (h_ro : ∀ q a b u, KL (ro q a b u) u) : KL (B_counts_120 N ro l1 l2 l3 l4 u) u := by
  unfold B_counts_120
  exact (kl_B_counts_121 h_ro).tr kl_rf
theorem kl_B_counts_97 {N : Nat} {ro : Nat → Int32 → Int32 → RSt → Option (Int32 × RSt)} {l1 : Int32} {l2 : Int32} {l3 : Int32} {l4 : Int32} {s1 : Int32} {u : RSt} (h_ro : ∀ q a b u, KL (ro q a b u) u) : KL (B_counts_97 N ro l1 l2 l3 l4 s1 u) u := by
  unfold B_counts_97
  refine KL_bn (kl_F_wrong.tr kl_rf) (fun _ _ => ?_)
  refine KL_if ?_ ?_
  · skip
    exact (kl_B_counts_120 h_ro).tr kl_rf
  · skip
    refine KL_if ?_ ?_
    · skip
      exact (kl_B_counts_121 h_ro).tr kl_rf
    · skip
      exact (kl_B_counts_120 h_ro).tr kl_rf
theorem kl_B_counts_96 {N : Nat} {ro : Nat → Int32 → Int32 → RSt → Option (Int32 × RSt)} {l1 : Int32} {l2 : Int32} {l3 : Int32} {l4 : Int32} {u : RSt} (h_ro : ∀ q a b u, KL (ro q a b u) u) : KL (B_counts_96 N ro l1 l2 l3 l4 u) u := by
  unfold B_counts_96
  exact (kl_B_counts_97 h_ro).tr kl_rf
theorem kl_B_counts_78 {N : Nat} {ro : Nat → Int32 → Int32 → RSt → Option (Int32 × RSt)} {l1 : Int32} {l2 : Int32} {l3 : Int32} {s0 : Int32} {u : RSt} (h_ro : ∀ q a b u, KL (ro q a b u) u) : KL (B_counts_78 N ro l1 l2 l3 s0 u) u := by
  unfold B_counts_78
  refine KL_if ?_ ?_
  · skip
    refine KL_if ?_ ?_
    · skip
      exact (kl_B_counts_97 h_ro).tr kl_rf
    · skip
      exact (kl_B_counts_96 h_ro).tr kl_rf
  · skip
    exact (kl_B_counts_96 h_ro).tr kl_rf
theorem kl_B_counts_77 {N : Nat} {ro : Nat → Int32 → Int32 → RSt → Option (Int32 × RSt)} {l1 : Int32} {l2 : Int32} {l3 : Int32} {u : RSt} (h_ro : ∀ q a b u, KL (ro q a b u) u) : KL (B_counts_77 N ro l1 l2 l3 u) u := by
  unfold B_counts_77
  exact (kl_B_counts_78 h_ro).tr kl_rf
theorem kl_B_counts_56 {N : Nat} {ro : Nat → Int32 → Int32 → RSt → Option (Int32 × RSt)} {l1 : Int32} {l2 : Int32} {s0 : Int32} {u : RSt} (h_ro : ∀ q a b u, KL (ro q a b u) u) : KL (B_counts_56 N ro l1 l2 s0 u) u := by
  unfold B_counts_56
  refine KL_if ?_ ?_
  · skip
    refine KL_if ?_ ?_
    · skip
      exact (kl_B_counts_77 h_ro).tr kl_rf
    · skip
      refine KL_bn (kl_F_own.tr kl_rf) (fun _ _ => ?_)
      exact (kl_B_counts_78 h_ro).tr kl_rf
  · skip
    exact (kl_B_counts_77 h_ro).tr kl_rf
theorem kl_B_counts_0 {N : Nat} {ro : Nat → Int32 → Int32 → RSt → Option (Int32 × RSt)} {l1 : Int32} {u : RSt} (h_ro : ∀ q a b u, KL (ro q a b u) u) : KL (B_counts_0 N ro l1 u) u := by
  unfold B_counts_0
  refine KL_bn (kl_F_is.tr kl_rf) (fun _ _ => ?_)
  refine KL_if ?_ ?_
  · skip
    refine KL_bn (kl_F_stuck.tr kl_rf) (fun _ _ => ?_)
    exact KL_some kl_rf
  · skip
    refine KL_rd (fun _ => ?_)
    refine KL_if ?_ ?_
    · skip
      exact (kl_B_counts_56 h_ro).tr kl_rf
    · skip
      refine KL_rd (fun _ => ?_)
      refine KL_rd (fun _ => ?_)
      refine KL_bn (kl_F_slotOf.tr kl_rf) (fun _ _ => ?_)
      exact (kl_B_counts_56 h_ro).tr kl_rf
theorem kl_F_counts {N : Nat} {ro : Nat → Int32 → Int32 → RSt → Option (Int32 × RSt)} {l1 : Int32} {u : RSt} (h_ro : ∀ q a b u, KL (ro q a b u) u) : KL (F_counts N ro l1 u) u := by
  unfold F_counts
  exact (kl_B_counts_0 h_ro).tr kl_rf
theorem kl_B_cases_103 {N : Nat} {ro : Nat → Int32 → Int32 → RSt → Option (Int32 × RSt)} {R_14 : Int32 × RSt → Option (Int32 × RSt)} {l2 : Int32} {l4 : Int32} {u : RSt} (h_ro : ∀ q a b u, KL (ro q a b u) u) (h_R_14 : ∀ a, KL (R_14 a) a.2) : KL (B_cases_103 N ro R_14 l2 l4 u) u := by
  unfold B_cases_103
  refine KL_bn ((h_ro _ _ _ _).tr kl_rf) (fun _ _ => ?_)
  refine KL_bn (kl_F_emit.tr kl_rf) (fun _ _ => ?_)
  refine KL_bn (kl_F_lead.tr kl_rf) (fun _ _ => ?_)
  exact (h_R_14 _).tr kl_rf
theorem kl_B_cases_65 {N : Nat} {ro : Nat → Int32 → Int32 → RSt → Option (Int32 × RSt)} {R_14 : Int32 × RSt → Option (Int32 × RSt)} {R_65 : Int32 × Int32 × Int32 × RSt → Option (Int32 × RSt)} {l2 : Int32} {l4 : Int32} {l5 : Int32} {u : RSt} (h_ro : ∀ q a b u, KL (ro q a b u) u) (h_R_14 : ∀ a, KL (R_14 a) a.2) (h_R_65 : ∀ a, KL (R_65 a) a.2.2.2) : KL (B_cases_65 N ro R_14 R_65 l2 l4 l5 u) u := by
  unfold B_cases_65
  refine KL_if ?_ ?_
  · skip
    exact (kl_B_cases_103 h_ro h_R_14).tr kl_rf
  · skip
    refine KL_if ?_ ?_
    · skip
      refine KL_if ?_ ?_
      · skip
        exact (kl_B_cases_103 h_ro h_R_14).tr kl_rf
      · skip
        refine KL_bn (kl_F_here.tr kl_rf) (fun _ _ => ?_)
        refine KL_wr ?_
        exact (h_R_65 _).tr (fl_sA (by decide) kl_rf)
    · skip
      exact (kl_B_cases_103 h_ro h_R_14).tr kl_rf
theorem kl_LP_cases_65 {N : Nat} {ro : Nat → Int32 → Int32 → RSt → Option (Int32 × RSt)} {R_14 : Int32 × RSt → Option (Int32 × RSt)} (h_ro : ∀ q a b u, KL (ro q a b u) u) (h_R_14 : ∀ a, KL (R_14 a) a.2) (n : Nat) : ∀ a : Int32 × Int32 × Int32 × RSt, KL (LP_cases_65 N ro R_14 n a) a.2.2.2 := by
  induction n with
  | zero => exact fun a r z e => by have e : (none : Option _) = some (r, z) := e; cases e
  | succ n ih =>
    intro a
    show KL (B_cases_65 N ro R_14 (LP_cases_65 N ro R_14 n) a.1 a.2.1 a.2.2.1 a.2.2.2) a.2.2.2
    exact kl_B_cases_65 h_ro h_R_14 ih
theorem kl_B_cases_28 {N : Nat} {ro : Nat → Int32 → Int32 → RSt → Option (Int32 × RSt)} {R_14 : Int32 × RSt → Option (Int32 × RSt)} {R_28 : Int32 × Int32 × RSt → Option (Int32 × RSt)} {l2 : Int32} {l3 : Int32} {u : RSt} (h_ro : ∀ q a b u, KL (ro q a b u) u) (h_R_14 : ∀ a, KL (R_14 a) a.2) (h_R_28 : ∀ a, KL (R_28 a) a.2.2) : KL (B_cases_28 N ro R_14 R_28 l2 l3 u) u := by
  unfold B_cases_28
  refine KL_pu ?_
  refine KL_bn (kl_F_label.tr (fl_sI (by decide) kl_rf)) (fun _ _ => ?_)
  refine KL_bn (kl_F_is.tr kl_rf) (fun _ _ => ?_)
  refine KL_if ?_ ?_
  · skip
    refine KL_bn (kl_F_emit.tr kl_rf) (fun _ _ => ?_)
    exact (kl_LP_cases_65 h_ro h_R_14 _ _).tr kl_rf
  · skip
    exact (h_R_28 _).tr kl_rf
theorem kl_LP_cases_28 {N : Nat} {ro : Nat → Int32 → Int32 → RSt → Option (Int32 × RSt)} {R_14 : Int32 × RSt → Option (Int32 × RSt)} (h_ro : ∀ q a b u, KL (ro q a b u) u) (h_R_14 : ∀ a, KL (R_14 a) a.2) (n : Nat) : ∀ a : Int32 × Int32 × RSt, KL (LP_cases_28 N ro R_14 n a) a.2.2 := by
  induction n with
  | zero => exact fun a r z e => by have e : (none : Option _) = some (r, z) := e; cases e
  | succ n ih =>
    intro a
    show KL (B_cases_28 N ro R_14 (LP_cases_28 N ro R_14 n) a.1 a.2.1 a.2.2) a.2.2
    exact kl_B_cases_28 h_ro h_R_14 ih
theorem kl_B_cases_151 {N : Nat} {ro : Nat → Int32 → Int32 → RSt → Option (Int32 × RSt)} {l2 : Int32} {u : RSt} (h_ro : ∀ q a b u, KL (ro q a b u) u) : KL (B_cases_151 N ro l2 u) u := by
  unfold B_cases_151
  refine KL_bn (kl_F_ends.tr kl_rf) (fun _ _ => ?_)
  refine KL_bn (kl_F_leadAll.tr kl_rf) (fun _ _ => ?_)
  exact KL_some kl_rf
theorem kl_B_cases_14 {N : Nat} {ro : Nat → Int32 → Int32 → RSt → Option (Int32 × RSt)} {R_14 : Int32 × RSt → Option (Int32 × RSt)} {l2 : Int32} {u : RSt} (h_ro : ∀ q a b u, KL (ro q a b u) u) (h_R_14 : ∀ a, KL (R_14 a) a.2) : KL (B_cases_14 N ro R_14 l2 u) u := by
  unfold B_cases_14
  refine KL_bn (kl_F_is.tr kl_rf) (fun _ _ => ?_)
  refine KL_if ?_ ?_
  · skip
    refine KL_bn (kl_F_emit.tr kl_rf) (fun _ _ => ?_)
    refine KL_bn (kl_F_has.tr kl_rf) (fun _ _ => ?_)
    refine KL_if ?_ ?_
    · skip
      exact (kl_B_cases_151 h_ro).tr kl_rf
    · skip
      refine KL_bn ((h_ro _ _ _ _).tr kl_rf) (fun _ _ => ?_)
      exact (kl_B_cases_151 h_ro).tr kl_rf
  · skip
    refine KL_bn (kl_F_here.tr kl_rf) (fun _ _ => ?_)
    exact (kl_LP_cases_28 h_ro h_R_14 _ _).tr kl_rf
theorem kl_LP_cases_14 {N : Nat} {ro : Nat → Int32 → Int32 → RSt → Option (Int32 × RSt)} (h_ro : ∀ q a b u, KL (ro q a b u) u) (n : Nat) : ∀ a : Int32 × RSt, KL (LP_cases_14 N ro n a) a.2 := by
  induction n with
  | zero => exact fun a r z e => by have e : (none : Option _) = some (r, z) := e; cases e
  | succ n ih =>
    intro a
    show KL (B_cases_14 N ro (LP_cases_14 N ro n) a.1 a.2) a.2
    exact kl_B_cases_14 h_ro ih
theorem kl_B_cases_0 {N : Nat} {ro : Nat → Int32 → Int32 → RSt → Option (Int32 × RSt)} {u : RSt} (h_ro : ∀ q a b u, KL (ro q a b u) u) : KL (B_cases_0 N ro u) u := by
  unfold B_cases_0
  refine KL_bn (kl_G_expression.tr kl_rf) (fun _ _ => ?_)
  refine KL_bn (kl_F_begins.tr kl_rf) (fun _ _ => ?_)
  exact (kl_LP_cases_14 h_ro _ _).tr kl_rf
theorem kl_F_cases {N : Nat} {ro : Nat → Int32 → Int32 → RSt → Option (Int32 × RSt)} {u : RSt} (h_ro : ∀ q a b u, KL (ro q a b u) u) : KL (F_cases N ro u) u := by
  unfold F_cases
  exact (kl_B_cases_0 h_ro).tr kl_rf
theorem kl_FS_ {N : Nat} : ∀ (d q : Nat) (a b : Int32) (u : RSt), KL (FS_ N d q a b u) u := by
  intro d
  induction d with
  | zero => exact fun q a b u => KL_none
  | succ d ih =>
    intro q a b u
    show KL (if q = 0 then F_body N (FS_ N d) u else if q = 1 then F_stat N (FS_ N d) u else if q = 2 then F_choice N (FS_ N d) u else if q = 3 then F_again N (FS_ N d) a u else if q = 4 then F_counts N (FS_ N d) a u else if q = 5 then F_cases N (FS_ N d) u else none) u
    refine KL_if (kl_F_body ih) ?_
    refine KL_if (kl_F_stat ih) ?_
    refine KL_if (kl_F_choice ih) ?_
    refine KL_if (kl_F_again ih) ?_
    refine KL_if (kl_F_counts ih) ?_
    refine KL_if (kl_F_cases ih) ?_
    exact KL_none
theorem kl_G_body {N : Nat} {u : RSt} : KL (G_body N u) u := kl_FS_ _ _ _ _ _
theorem kl_G_stat {N : Nat} {u : RSt} : KL (G_stat N u) u := kl_FS_ _ _ _ _ _
