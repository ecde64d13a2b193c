/-! What going through the text leaves as it is in the reference; the first FAULT stays. -/
def wI : List Nat := [61, 62, 63, 65, 66, 70, 71, 72, 73, 74, 78, 80, 81]
def wA : List Nat := [10, 11, 12, 13, 14, 15, 19, 20, 21, 22, 23, 27, 28, 29, 30, 31, 32, 33, 36, 37, 38, 39, 42, 43, 44, 45, 48, 49, 50, 51, 54, 59, 60, 64, 75, 76]
def wB : List Nat := [16, 17, 18, 24, 25, 26, 34, 35, 40, 41, 46, 47, 52, 53, 57, 58]
def kp (u w : RSt) : Prop := (∀ k, k ∉ wI → k ≠ 67 → k ≠ 68 → w.1 k = u.1 k) ∧ (∀ k, k ∉ wA → w.2.2.1 k = u.2.2.1 k) ∧ (∀ k, k ∉ wB → w.2.2.2 k = u.2.2.2 k) ∧ (¬ u.1 67 = 0 → w.1 67 = u.1 67 ∧ w.1 68 = u.1 68)
def KP {β : Type} (x : Option (β × RSt)) (u : RSt) : Prop := ∀ r w, x = some (r, w) → kp u w
section KPs
variable {α β γ : Type} {u v w : RSt}
theorem kp_rf : kp u u := ⟨fun _ _ _ _ => rfl, fun _ _ => rfl, fun _ _ => rfl, fun _ => ⟨rfl, rfl⟩⟩
theorem kp_tr (h : kp u v) (h2 : kp v w) : kp u w := by
  obtain ⟨a1, a2, a3, a4⟩ := h
  obtain ⟨b1, b2, b3, b4⟩ := h2
  refine ⟨fun k h1 h2 h3 => (b1 k h1 h2 h3).trans (a1 k h1 h2 h3), fun k hk => (b2 k hk).trans (a2 k hk), fun k hk => (b3 k hk).trans (a3 k hk), fun z => ?_⟩
  obtain ⟨c1, c2⟩ := a4 z
  obtain ⟨d1, d2⟩ := b4 (by rw [c1]; exact z)
  exact ⟨d1.trans c1, d2.trans c2⟩
theorem KP.tr {x : Option (β × RSt)} (hx : KP x w) (h : kp u w) : KP x u := fun r z e => kp_tr h (hx r z e)
theorem ks_sI {k : Nat} {a : Int32} (hk : k ∈ wI ∧ k ≠ 67 ∧ k ≠ 68) (h : kp u w) : kp u (sI w k a) := by
  refine kp_tr h ⟨fun j hj _ _ => ?_, fun _ _ => rfl, fun _ _ => rfl, fun _ => ⟨?_, ?_⟩⟩
  · show (if j = k then a else w.1 j) = _
    rw [if_neg (fun q => hj (by rw [q]; exact hk.1))]
  · show (if 67 = k then a else w.1 67) = _
    rw [if_neg (fun q => hk.2.1 q.symm)]
  · show (if 68 = k then a else w.1 68) = _
    rw [if_neg (fun q => hk.2.2 q.symm)]
theorem ks_sL {k : Nat} {a : Int64} (h : kp u w) : kp u (sL w k a) := kp_tr h ⟨fun _ _ _ _ => rfl, fun _ _ => rfl, fun _ _ => rfl, fun _ => ⟨rfl, rfl⟩⟩
theorem ks_sA {k i : Nat} {a : Int32} (hk : k ∈ wA) (h : kp u w) : kp u (sA w k i a) := by
  refine kp_tr h ⟨fun _ _ _ _ => rfl, fun j hj => ?_, fun _ _ => rfl, fun _ => ⟨rfl, rfl⟩⟩
  show (if j = k then upd (w.2.2.1 k) i a else w.2.2.1 j) = _
  rw [if_neg (fun q => hj (by rw [q]; exact hk))]
theorem ks_sB {k i : Nat} {a : Int64} (hk : k ∈ wB) (h : kp u w) : kp u (sB w k i a) := by
  refine kp_tr h ⟨fun _ _ _ _ => rfl, fun _ _ => rfl, fun j hj => ?_, fun _ => ⟨rfl, rfl⟩⟩
  show (if j = k then vp_updL (w.2.2.2 k) i a else w.2.2.2 j) = _
  rw [if_neg (fun q => hj (by rw [q]; exact hk))]
theorem KP_some {r : β} (h : kp u w) : KP (some (r, w)) u := fun _ _ e => by cases e; exact h
theorem KP_none : KP (none : Option (β × RSt)) u := fun _ _ e => nomatch e
theorem KP_pu {x : RSt} {k : RSt → Option (β × RSt)} (h : KP (k x) u) : KP (pu x k) u := h
theorem KP_rd {f : Nat → α} {n : Nat} {i : Int32} {k : α → Option (β × RSt)} (h : ∀ a, KP (k a) u) : KP (rd f n i k) u := by
  intro r z e
  have q : wp (rd f n i k) (fun r' z' => r' = r ∧ z' = z) := ⟨r, z, e, rfl, rfl⟩
  obtain ⟨r1, z1, e1, rfl, rfl⟩ := (wp_rd.mp q).2
  exact h _ _ _ e1
theorem KP_wr {n : Nat} {i : Int32} {x : RSt} {k : RSt → Option (β × RSt)} (h : KP (k x) u) : KP (wr n i x k) u := by
  intro r z e
  have q : wp (wr n i x k) (fun r' z' => r' = r ∧ z' = z) := ⟨r, z, e, rfl, rfl⟩
  obtain ⟨r1, z1, e1, rfl, rfl⟩ := (wp_wr.mp q).2
  exact h _ _ e1
theorem KP_bn {x : Option (α × RSt)} {k : α → RSt → Option (β × RSt)} (hx : KP x u) (h : ∀ r w, KP (k r w) w) : KP (bn x k) u := by
  intro r z e
  have q : wp (bn x k) (fun r' z' => r' = r ∧ z' = z) := ⟨r, z, e, rfl, rfl⟩
  obtain ⟨r1, z1, e1, r2, z2, e2, rfl, rfl⟩ := wp_bn.mp q
  exact kp_tr (hx _ _ e1) (h _ _ _ _ e2)
theorem KP_if {c : Prop} {d : Decidable c} {a b : Option (β × RSt)} (ha : KP a u) (hb : KP b u) : KP (if c then a else b) u := by
  by_cases q : c
  · rw [if_pos q]; exact ha
  · rw [if_neg q]; exact hb
theorem KP_zr {v : Int32} {x : Option (β × RSt)} (h : KP x u) : KP (zr v x) u := fun r z e => h r z (zr_of e).2
theorem KP_nz {v : Int32} {x : Option (β × RSt)} (h : KP x u) : KP (nz v x) u := fun r z e => h r z (nz_of e).2
theorem KP_ok {P : Prop} {d : Decidable P} {x : Option (β × RSt)} (h : KP x u) : KP (ok P d x) u := fun r z e => h r z (ok_of e).2
theorem sk_B_bad_0 {N : Nat} {l1 l2 : Int32} {u : RSt} : KP (B_bad_0 N l1 l2 u) u := by
  intro r w e
  unfold B_bad_0 at e
  by_cases q : u.1 67 = 0
  · rw [if_pos q] at e
    cases e
    refine ⟨fun k _ h1 h2 => ?_, fun _ _ => rfl, fun _ _ => rfl, fun z => absurd q z⟩
    show (if k = 68 then l2 else if k = 67 then l1 else u.1 k) = _
    rw [if_neg h2, if_neg h1]
  · rw [if_neg q] at e
    cases e
    exact kp_rf
end KPs

theorem sk_F_bad {N : Nat} {l1 : Int32} {l2 : Int32} {u : RSt}  : KP (F_bad N l1 l2 u) u := by
  unfold F_bad
  exact sk_B_bad_0.tr kp_rf
theorem sk_B_wrong_0 {N : Nat} {l1 : Int32} {l2 : Int32} {l3 : Int32} {u : RSt}  : KP (B_wrong_0 N l1 l2 l3 u) u := by
  unfold B_wrong_0
  refine KP_if ?_ ?_
  · skip
    exact KP_some kp_rf
  · skip
    refine KP_if ?_ ?_
    · skip
      exact KP_some kp_rf
    · skip
      refine KP_bn (sk_F_bad.tr kp_rf) (fun _ _ => ?_)
      exact KP_some kp_rf
theorem sk_F_wrong {N : Nat} {l1 : Int32} {l2 : Int32} {l3 : Int32} {u : RSt}  : KP (F_wrong N l1 l2 l3 u) u := by
  unfold F_wrong
  exact sk_B_wrong_0.tr kp_rf
theorem sk_B_is_0 {N : Nat} {l1 : Int32} {u : RSt}  : KP (B_is_0 N l1 u) u := by
  unfold B_is_0
  refine KP_if ?_ ?_
  · skip
    refine KP_rd (fun _ => ?_)
    refine KP_if ?_ ?_
    · skip
      exact KP_some kp_rf
    · skip
      exact KP_some kp_rf
  · skip
    exact KP_some kp_rf
theorem sk_F_is {N : Nat} {l1 : Int32} {u : RSt}  : KP (F_is N l1 u) u := by
  unfold F_is
  exact sk_B_is_0.tr kp_rf
theorem sk_B_isNext_0 {N : Nat} {l1 : Int32} {u : RSt}  : KP (B_isNext_0 N l1 u) u := by
  unfold B_isNext_0
  refine KP_if ?_ ?_
  · skip
    refine KP_rd (fun _ => ?_)
    refine KP_if ?_ ?_
    · skip
      exact KP_some kp_rf
    · skip
      refine KP_rd (fun _ => ?_)
      refine KP_if ?_ ?_
      · skip
        exact KP_some kp_rf
      · skip
        exact KP_some kp_rf
  · skip
    exact KP_some kp_rf
theorem sk_F_isNext {N : Nat} {l1 : Int32} {u : RSt}  : KP (F_isNext N l1 u) u := by
  unfold F_isNext
  exact sk_B_isNext_0.tr kp_rf
theorem sk_B_stuck_18 {N : Nat} {s1 : Int32} {u : RSt}  : KP (B_stuck_18 N s1 u) u := by
  unfold B_stuck_18
  refine KP_rd (fun _ => ?_)
  refine KP_bn (sk_F_bad.tr kp_rf) (fun _ _ => ?_)
  exact KP_some kp_rf
theorem sk_B_stuck_0 {N : Nat} {u : RSt}  : KP (B_stuck_0 N u) u := by
  unfold B_stuck_0
  refine KP_rd (fun _ => ?_)
  refine KP_if ?_ ?_
  · skip
    exact sk_B_stuck_18.tr kp_rf
  · skip
    exact sk_B_stuck_18.tr kp_rf
theorem sk_F_stuck {N : Nat} {u : RSt}  : KP (F_stuck N u) u := by
  unfold F_stuck
  exact sk_B_stuck_0.tr kp_rf
theorem sk_B_take_0 {N : Nat} {l1 : Int32} {u : RSt}  : KP (B_take_0 N l1 u) u := by
  unfold B_take_0
  refine KP_bn (sk_F_is.tr kp_rf) (fun _ _ => ?_)
  refine KP_if ?_ ?_
  · skip
    refine KP_bn (sk_F_stuck.tr kp_rf) (fun _ _ => ?_)
    exact KP_some kp_rf
  · skip
    refine KP_pu ?_
    exact KP_some (ks_sI (by decide) kp_rf)
theorem sk_F_take {N : Nat} {l1 : Int32} {u : RSt}  : KP (F_take N l1 u) u := by
  unfold F_take
  exact sk_B_take_0.tr kp_rf
theorem sk_B_has_0 {N : Nat} {l1 : Int32} {u : RSt}  : KP (B_has_0 N l1 u) u := by
  unfold B_has_0
  refine KP_bn (sk_F_is.tr kp_rf) (fun _ _ => ?_)
  refine KP_if ?_ ?_
  · skip
    refine KP_zr ?_
    exact KP_some kp_rf
  · skip
    refine KP_pu ?_
    refine KP_zr ?_
    exact KP_some (ks_sI (by decide) kp_rf)
theorem sk_F_has {N : Nat} {l1 : Int32} {u : RSt}  : KP (F_has N l1 u) u := by
  unfold F_has
  exact sk_B_has_0.tr kp_rf
theorem sk_B_opens_0 {N : Nat} {u : RSt}  : KP (B_opens_0 N u) u := by
  unfold B_opens_0
  refine KP_pu ?_
  refine KP_if ?_ ?_
  · skip
    exact KP_some (ks_sI (by decide) kp_rf)
  · skip
    refine KP_rd (fun _ => ?_)
    refine KP_bn (sk_F_bad.tr (ks_sI (by decide) kp_rf)) (fun _ _ => ?_)
    exact KP_some kp_rf
theorem sk_F_opens {N : Nat} {u : RSt}  : KP (F_opens N u) u := by
  unfold F_opens
  exact sk_B_opens_0.tr kp_rf
theorem sk_B_begins_0 {N : Nat} {l1 : Int32} {u : RSt}  : KP (B_begins_0 N l1 u) u := by
  unfold B_begins_0
  refine KP_bn (sk_F_is.tr kp_rf) (fun _ _ => ?_)
  refine KP_if ?_ ?_
  · skip
    refine KP_bn (sk_F_stuck.tr kp_rf) (fun _ _ => ?_)
    exact KP_some kp_rf
  · skip
    refine KP_bn (sk_F_opens.tr kp_rf) (fun _ _ => ?_)
    refine KP_if ?_ ?_
    · skip
      refine KP_pu ?_
      exact KP_some (ks_sI (by decide) kp_rf)
    · skip
      exact KP_some kp_rf
theorem sk_F_begins {N : Nat} {l1 : Int32} {u : RSt}  : KP (F_begins N l1 u) u := by
  unfold F_begins
  exact sk_B_begins_0.tr kp_rf
theorem sk_B_ends_0 {N : Nat} {l1 : Int32} {u : RSt}  : KP (B_ends_0 N l1 u) u := by
  unfold B_ends_0
  refine KP_bn (sk_F_take.tr kp_rf) (fun _ _ => ?_)
  refine KP_pu ?_
  exact KP_some (ks_sI (by decide) kp_rf)
theorem sk_F_ends {N : Nat} {l1 : Int32} {u : RSt}  : KP (F_ends N l1 u) u := by
  unfold F_ends
  exact sk_B_ends_0.tr kp_rf
theorem sk_B_isNumber_16 {N : Nat} {u : RSt}  : KP (B_isNumber_16 N u) u := by
  unfold B_isNumber_16
  exact KP_some kp_rf
theorem sk_B_isNumber_0 {N : Nat} {u : RSt}  : KP (B_isNumber_0 N u) u := by
  unfold B_isNumber_0
  refine KP_bn (sk_F_is.tr kp_rf) (fun _ _ => ?_)
  refine KP_if ?_ ?_
  · skip
    refine KP_bn (sk_F_is.tr kp_rf) (fun _ _ => ?_)
    refine KP_if ?_ ?_
    · skip
      exact KP_some kp_rf
    · skip
      exact sk_B_isNumber_16.tr kp_rf
  · skip
    exact sk_B_isNumber_16.tr kp_rf
theorem sk_F_isNumber {N : Nat} {u : RSt}  : KP (F_isNumber N u) u := by
  unfold F_isNumber
  exact sk_B_isNumber_0.tr kp_rf
theorem sk_B_emit_0 {N : Nat} {l1 : Int32} {l2 : Int32} {l3 : Int32} {u : RSt}  : KP (B_emit_0 N l1 l2 l3 u) u := by
  unfold B_emit_0
  refine KP_if ?_ ?_
  · skip
    exact KP_some kp_rf
  · skip
    refine KP_if ?_ ?_
    · skip
      refine KP_rd (fun _ => ?_)
      refine KP_rd (fun _ => ?_)
      refine KP_wr ?_
      refine KP_wr ?_
      refine KP_wr ?_
      refine KP_wr ?_
      exact KP_some (ks_sA (by decide) (ks_sA (by decide) (ks_sA (by decide) (ks_sA (by decide) kp_rf))))
    · skip
      exact KP_some kp_rf
theorem sk_F_emit {N : Nat} {l1 : Int32} {l2 : Int32} {l3 : Int32} {u : RSt}  : KP (F_emit N l1 l2 l3 u) u := by
  unfold F_emit
  exact sk_B_emit_0.tr kp_rf
theorem sk_B_cost_0 {N : Nat} {l1 : Int32} {u : RSt}  : KP (B_cost_0 N l1 u) u := by
  unfold B_cost_0
  refine KP_bn (sk_F_emit.tr kp_rf) (fun _ _ => ?_)
  exact KP_some kp_rf
theorem sk_F_cost {N : Nat} {l1 : Int32} {u : RSt}  : KP (F_cost N l1 u) u := by
  unfold F_cost
  exact sk_B_cost_0.tr kp_rf
theorem sk_B_push_0 {N : Nat} {l1 : Int64} {u : RSt}  : KP (B_push_0 N l1 u) u := by
  unfold B_push_0
  refine KP_bn (sk_F_emit.tr kp_rf) (fun _ _ => ?_)
  refine KP_if ?_ ?_
  · skip
    exact KP_some kp_rf
  · skip
    refine KP_if ?_ ?_
    · skip
      refine KP_wr ?_
      exact KP_some (ks_sB (by decide) kp_rf)
    · skip
      exact KP_some kp_rf
theorem sk_F_push {N : Nat} {l1 : Int64} {u : RSt}  : KP (F_push N l1 u) u := by
  unfold F_push
  exact sk_B_push_0.tr kp_rf
theorem sk_B_here_0 {N : Nat} {u : RSt}  : KP (B_here_0 N u) u := by
  unfold B_here_0
  refine KP_rd (fun _ => ?_)
  exact KP_some kp_rf
theorem sk_F_here {N : Nat} {u : RSt}  : KP (F_here N u) u := by
  unfold F_here
  exact sk_B_here_0.tr kp_rf
theorem sk_B_lead_0 {N : Nat} {l1 : Int32} {u : RSt}  : KP (B_lead_0 N l1 u) u := by
  unfold B_lead_0
  refine KP_if ?_ ?_
  · skip
    exact KP_some kp_rf
  · skip
    refine KP_if ?_ ?_
    · skip
      refine KP_bn (sk_F_here.tr kp_rf) (fun _ _ => ?_)
      refine KP_wr ?_
      exact KP_some (ks_sA (by decide) kp_rf)
    · skip
      exact KP_some kp_rf
theorem sk_F_lead {N : Nat} {l1 : Int32} {u : RSt}  : KP (F_lead N l1 u) u := by
  unfold F_lead
  exact sk_B_lead_0.tr kp_rf
theorem sk_B_kind_33 {N : Nat} {u : RSt}  : KP (B_kind_33 N u) u := by
  unfold B_kind_33
  refine KP_bn (sk_F_stuck.tr kp_rf) (fun _ _ => ?_)
  exact KP_some kp_rf
theorem sk_B_kind_23 {N : Nat} {s0 : Int32} {u : RSt}  : KP (B_kind_23 N s0 u) u := by
  unfold B_kind_23
  refine KP_if ?_ ?_
  · skip
    exact sk_B_kind_33.tr kp_rf
  · skip
    refine KP_if ?_ ?_
    · skip
      refine KP_pu ?_
      exact KP_some (ks_sI (by decide) kp_rf)
    · skip
      exact sk_B_kind_33.tr kp_rf
theorem sk_B_kind_0 {N : Nat} {u : RSt}  : KP (B_kind_0 N u) u := by
  unfold B_kind_0
  refine KP_if ?_ ?_
  · skip
    refine KP_rd (fun _ => ?_)
    exact sk_B_kind_23.tr kp_rf
  · skip
    exact sk_B_kind_23.tr kp_rf
theorem sk_F_kind {N : Nat} {u : RSt}  : KP (F_kind N u) u := by
  unfold F_kind
  exact sk_B_kind_0.tr kp_rf
theorem sk_B_isKind_0 {N : Nat} {l1 : Int32} {u : RSt}  : KP (B_isKind_0 N l1 u) u := by
  unfold B_isKind_0
  refine KP_rd (fun _ => ?_)
  refine KP_if ?_ ?_
  · skip
    exact KP_some kp_rf
  · skip
    refine KP_rd (fun _ => ?_)
    refine KP_if ?_ ?_
    · skip
      exact KP_some kp_rf
    · skip
      exact KP_some kp_rf
theorem sk_F_isKind {N : Nat} {l1 : Int32} {u : RSt}  : KP (F_isKind N l1 u) u := by
  unfold F_isKind
  exact sk_B_isKind_0.tr kp_rf
theorem sk_B_named_39 {N : Nat} {R_3 : Int64 × Int64 × Int32 × RSt → Option (Int32 × RSt)} {l1 : Int64} {l3 : Int64} {l5 : Int32} {u : RSt} (h_R_3 : ∀ a, KP (R_3 a) a.2.2.2) : KP (B_named_39 N R_3 l1 l3 l5 u) u := by
  unfold B_named_39
  exact (h_R_3 _).tr kp_rf
theorem sk_B_named_3 {N : Nat} {R_3 : Int64 × Int64 × Int32 × RSt → Option (Int32 × RSt)} {l1 : Int64} {l3 : Int64} {l5 : Int32} {u : RSt} (h_R_3 : ∀ a, KP (R_3 a) a.2.2.2) : KP (B_named_3 N R_3 l1 l3 l5 u) u := by
  unfold B_named_3
  refine KP_if ?_ ?_
  · skip
    exact KP_some kp_rf
  · skip
    refine KP_rd (fun _ => ?_)
    refine KP_if ?_ ?_
    · skip
      refine KP_rd (fun _ => ?_)
      refine KP_if ?_ ?_
      · skip
        exact KP_some kp_rf
      · skip
        exact (sk_B_named_39 h_R_3).tr kp_rf
    · skip
      exact (sk_B_named_39 h_R_3).tr kp_rf
theorem sk_LP_named_3 {N : Nat}  (n : Nat) : ∀ a : Int64 × Int64 × Int32 × RSt, KP (LP_named_3 N n a) a.2.2.2 := by
  induction n with
  | zero => exact fun a r z e => by have e : (none : Option _) = some (r, z) := e; cases e
  | succ n ih =>
    intro a
    show KP (B_named_3 N (LP_named_3 N n) a.1 a.2.1 a.2.2.1 a.2.2.2) a.2.2.2
    exact sk_B_named_3 ih
theorem sk_B_named_0 {N : Nat} {l1 : Int64} {l3 : Int64} {u : RSt}  : KP (B_named_0 N l1 l3 u) u := by
  unfold B_named_0
  exact (sk_LP_named_3  _ _).tr kp_rf
theorem sk_F_named {N : Nat} {l1 : Int64} {l3 : Int64} {u : RSt}  : KP (F_named N l1 l3 u) u := by
  unfold F_named
  exact sk_B_named_0.tr kp_rf
theorem sk_B_slotOf_82 {N : Nat} {R_6 : Int64 × Int64 × Int32 × RSt → Option (Int32 × RSt)} {l1 : Int64} {l3 : Int64} {l5 : Int32} {u : RSt} (h_R_6 : ∀ a, KP (R_6 a) a.2.2.2) : KP (B_slotOf_82 N R_6 l1 l3 l5 u) u := by
  unfold B_slotOf_82
  exact (h_R_6 _).tr kp_rf
theorem sk_B_slotOf_6 {N : Nat} {R_6 : Int64 × Int64 × Int32 × RSt → Option (Int32 × RSt)} {l1 : Int64} {l3 : Int64} {l5 : Int32} {u : RSt} (h_R_6 : ∀ a, KP (R_6 a) a.2.2.2) : KP (B_slotOf_6 N R_6 l1 l3 l5 u) u := by
  unfold B_slotOf_6
  refine KP_if ?_ ?_
  · skip
    exact KP_some kp_rf
  · skip
    refine KP_rd (fun _ => ?_)
    refine KP_if ?_ ?_
    · skip
      exact KP_some kp_rf
    · skip
      refine KP_rd (fun _ => ?_)
      refine KP_if ?_ ?_
      · skip
        refine KP_rd (fun _ => ?_)
        refine KP_if ?_ ?_
        · skip
          exact KP_some kp_rf
        · skip
          exact (sk_B_slotOf_82 h_R_6).tr kp_rf
      · skip
        exact (sk_B_slotOf_82 h_R_6).tr kp_rf
theorem sk_LP_slotOf_6 {N : Nat}  (n : Nat) : ∀ a : Int64 × Int64 × Int32 × RSt, KP (LP_slotOf_6 N n a) a.2.2.2 := by
  induction n with
  | zero => exact fun a r z e => by have e : (none : Option _) = some (r, z) := e; cases e
  | succ n ih =>
    intro a
    show KP (B_slotOf_6 N (LP_slotOf_6 N n) a.1 a.2.1 a.2.2.1 a.2.2.2) a.2.2.2
    exact sk_B_slotOf_6 ih
theorem sk_B_slotOf_0 {N : Nat} {l1 : Int64} {l3 : Int64} {u : RSt}  : KP (B_slotOf_0 N l1 l3 u) u := by
  unfold B_slotOf_0
  exact (sk_LP_slotOf_6  _ _).tr kp_rf
theorem sk_F_slotOf {N : Nat} {l1 : Int64} {l3 : Int64} {u : RSt}  : KP (F_slotOf N l1 l3 u) u := by
  unfold F_slotOf
  exact sk_B_slotOf_0.tr kp_rf
theorem sk_B_own_0 {N : Nat} {l1 : Int32} {u : RSt}  : KP (B_own_0 N l1 u) u := by
  unfold B_own_0
  refine KP_if ?_ ?_
  · skip
    exact KP_some kp_rf
  · skip
    refine KP_rd (fun _ => ?_)
    refine KP_rd (fun _ => ?_)
    refine KP_bn (sk_F_slotOf.tr kp_rf) (fun _ _ => ?_)
    refine KP_if ?_ ?_
    · skip
      refine KP_rd (fun _ => ?_)
      refine KP_rd (fun _ => ?_)
      refine KP_bn (sk_F_named.tr kp_rf) (fun _ _ => ?_)
      refine KP_if ?_ ?_
      · skip
        exact KP_some kp_rf
      · skip
        refine KP_rd (fun _ => ?_)
        refine KP_if ?_ ?_
        · skip
          refine KP_rd (fun _ => ?_)
          exact KP_some kp_rf
        · skip
          exact KP_some kp_rf
    · skip
      exact KP_some kp_rf
theorem sk_F_own {N : Nat} {l1 : Int32} {u : RSt}  : KP (F_own N l1 u) u := by
  unfold F_own
  exact sk_B_own_0.tr kp_rf
theorem sk_B_telling_65 {N : Nat} {l1 : Int32} {l2 : Int32} {s1 : Int32} {u : RSt}  : KP (B_telling_65 N l1 l2 s1 u) u := by
  unfold B_telling_65
  refine KP_rd (fun _ => ?_)
  refine KP_bn (sk_F_wrong.tr kp_rf) (fun _ _ => ?_)
  refine KP_if ?_ ?_
  · skip
    exact KP_some kp_rf
  · skip
    refine KP_if ?_ ?_
    · skip
      refine KP_pu ?_
      refine KP_rd (fun _ => ?_)
      refine KP_wr ?_
      refine KP_rd (fun _ => ?_)
      refine KP_wr ?_
      refine KP_wr ?_
      refine KP_wr ?_
      refine KP_pu ?_
      exact KP_some (ks_sI (by decide) (ks_sA (by decide) (ks_sA (by decide) (ks_sB (by decide) (ks_sB (by decide) (ks_sI (by decide) kp_rf))))))
    · skip
      exact KP_some kp_rf
theorem sk_B_telling_60 {N : Nat} {l1 : Int32} {l2 : Int32} {u : RSt}  : KP (B_telling_60 N l1 l2 u) u := by
  unfold B_telling_60
  exact sk_B_telling_65.tr kp_rf
theorem sk_B_telling_32 {N : Nat} {l1 : Int32} {l2 : Int32} {l3 : Int32} {s1 : Int32} {u : RSt}  : KP (B_telling_32 N l1 l2 l3 s1 u) u := by
  unfold B_telling_32
  refine KP_rd (fun _ => ?_)
  refine KP_bn (sk_F_wrong.tr kp_rf) (fun _ _ => ?_)
  refine KP_if ?_ ?_
  · skip
    exact sk_B_telling_60.tr kp_rf
  · skip
    refine KP_if ?_ ?_
    · skip
      exact sk_B_telling_65.tr kp_rf
    · skip
      exact sk_B_telling_60.tr kp_rf
theorem sk_B_telling_0 {N : Nat} {l1 : Int32} {l2 : Int32} {l3 : Int32} {u : RSt}  : KP (B_telling_0 N l1 l2 l3 u) u := by
  unfold B_telling_0
  refine KP_rd (fun _ => ?_)
  refine KP_rd (fun _ => ?_)
  refine KP_bn (sk_F_named.tr kp_rf) (fun _ _ => ?_)
  refine KP_if ?_ ?_
  · skip
    exact sk_B_telling_32.tr kp_rf
  · skip
    exact sk_B_telling_32.tr kp_rf
theorem sk_F_telling {N : Nat} {l1 : Int32} {l2 : Int32} {l3 : Int32} {u : RSt}  : KP (F_telling N l1 l2 l3 u) u := by
  unfold F_telling
  exact sk_B_telling_0.tr kp_rf
theorem sk_B_constant_86 {N : Nat} {s1 : Int64} {u : RSt}  : KP (B_constant_86 N s1 u) u := by
  unfold B_constant_86
  refine KP_pu ?_
  refine KP_pu ?_
  exact KP_some (ks_sI (by decide) (ks_sL kp_rf))
theorem sk_B_constant_28 {N : Nat} {l1 : Int32} {u : RSt}  : KP (B_constant_28 N l1 u) u := by
  unfold B_constant_28
  refine KP_bn (sk_F_is.tr kp_rf) (fun _ _ => ?_)
  refine KP_rd (fun _ => ?_)
  refine KP_bn (sk_F_wrong.tr kp_rf) (fun _ _ => ?_)
  refine KP_if ?_ ?_
  · skip
    refine KP_rd (fun _ => ?_)
    exact sk_B_constant_86.tr kp_rf
  · skip
    refine KP_rd (fun _ => ?_)
    refine KP_rd (fun _ => ?_)
    exact sk_B_constant_86.tr kp_rf
theorem sk_B_constant_0 {N : Nat} {u : RSt}  : KP (B_constant_0 N u) u := by
  unfold B_constant_0
  refine KP_bn (sk_F_has.tr kp_rf) (fun _ _ => ?_)
  refine KP_bn (sk_F_isNumber.tr kp_rf) (fun _ _ => ?_)
  refine KP_if ?_ ?_
  · skip
    refine KP_bn (sk_F_is.tr kp_rf) (fun _ _ => ?_)
    refine KP_if ?_ ?_
    · skip
      refine KP_bn (sk_F_stuck.tr kp_rf) (fun _ _ => ?_)
      exact KP_some kp_rf
    · skip
      exact sk_B_constant_28.tr kp_rf
  · skip
    exact sk_B_constant_28.tr kp_rf
theorem sk_F_constant {N : Nat} {u : RSt}  : KP (F_constant N u) u := by
  unfold F_constant
  exact sk_B_constant_0.tr kp_rf
theorem sk_B_bounded_57 {N : Nat} {s1 : Int32} {u : RSt}  : KP (B_bounded_57 N s1 u) u := by
  unfold B_bounded_57
  refine KP_rd (fun _ => ?_)
  refine KP_bn (sk_F_wrong.tr kp_rf) (fun _ _ => ?_)
  refine KP_pu ?_
  refine KP_rd (fun _ => ?_)
  exact KP_some (ks_sI (by decide) kp_rf)
theorem sk_B_bounded_52 {N : Nat} {u : RSt}  : KP (B_bounded_52 N u) u := by
  unfold B_bounded_52
  exact sk_B_bounded_57.tr kp_rf
theorem sk_B_bounded_0 {N : Nat} {l1 : Int32} {l2 : Int32} {u : RSt}  : KP (B_bounded_0 N l1 l2 u) u := by
  unfold B_bounded_0
  refine KP_bn (sk_F_isNumber.tr kp_rf) (fun _ _ => ?_)
  refine KP_if ?_ ?_
  · skip
    refine KP_bn (sk_F_stuck.tr kp_rf) (fun _ _ => ?_)
    exact KP_some kp_rf
  · skip
    refine KP_bn (sk_F_is.tr kp_rf) (fun _ _ => ?_)
    refine KP_if ?_ ?_
    · skip
      refine KP_rd (fun _ => ?_)
      refine KP_if ?_ ?_
      · skip
        exact sk_B_bounded_52.tr kp_rf
      · skip
        refine KP_rd (fun _ => ?_)
        refine KP_if ?_ ?_
        · skip
          exact sk_B_bounded_57.tr kp_rf
        · skip
          exact sk_B_bounded_52.tr kp_rf
    · skip
      exact sk_B_bounded_52.tr kp_rf
theorem sk_F_bounded {N : Nat} {l1 : Int32} {l2 : Int32} {u : RSt}  : KP (F_bounded N l1 l2 u) u := by
  unfold F_bounded
  exact sk_B_bounded_0.tr kp_rf
theorem sk_B_local_86 {N : Nat} {s1 : Int32} {u : RSt}  : KP (B_local_86 N s1 u) u := by
  unfold B_local_86
  refine KP_rd (fun _ => ?_)
  refine KP_bn (sk_F_wrong.tr kp_rf) (fun _ _ => ?_)
  refine KP_if ?_ ?_
  · skip
    exact KP_some kp_rf
  · skip
    refine KP_if ?_ ?_
    · skip
      refine KP_pu ?_
      exact KP_some (ks_sI (by decide) kp_rf)
    · skip
      exact KP_some kp_rf
theorem sk_B_local_81 {N : Nat} {u : RSt}  : KP (B_local_81 N u) u := by
  unfold B_local_81
  exact sk_B_local_86.tr kp_rf
theorem sk_B_local_85 {N : Nat} {u : RSt}  : KP (B_local_85 N u) u := by
  unfold B_local_85
  exact sk_B_local_86.tr kp_rf
theorem sk_B_local_32 {N : Nat} {l1 : Int32} {s1 : Int32} {u : RSt}  : KP (B_local_32 N l1 s1 u) u := by
  unfold B_local_32
  refine KP_rd (fun _ => ?_)
  refine KP_bn (sk_F_wrong.tr kp_rf) (fun _ _ => ?_)
  refine KP_if ?_ ?_
  · skip
    exact sk_B_local_81.tr kp_rf
  · skip
    refine KP_if ?_ ?_
    · skip
      exact sk_B_local_85.tr kp_rf
    · skip
      refine KP_if ?_ ?_
      · skip
        exact sk_B_local_85.tr kp_rf
      · skip
        refine KP_rd (fun _ => ?_)
        refine KP_if ?_ ?_
        · skip
          exact sk_B_local_81.tr kp_rf
        · skip
          exact sk_B_local_85.tr kp_rf
theorem sk_B_local_0 {N : Nat} {l1 : Int32} {u : RSt}  : KP (B_local_0 N l1 u) u := by
  unfold B_local_0
  refine KP_rd (fun _ => ?_)
  refine KP_rd (fun _ => ?_)
  refine KP_bn (sk_F_slotOf.tr kp_rf) (fun _ _ => ?_)
  refine KP_if ?_ ?_
  · skip
    exact sk_B_local_32.tr kp_rf
  · skip
    exact sk_B_local_32.tr kp_rf
theorem sk_F_local {N : Nat} {l1 : Int32} {u : RSt}  : KP (F_local N l1 u) u := by
  unfold F_local
  exact sk_B_local_0.tr kp_rf
theorem sk_B_addSlot_17 {N : Nat} {l1 : Int32} {l2 : Int32} {l3 : Int32} {l4 : Int32} {l5 : Int64} {s1 : Int32} {u : RSt}  : KP (B_addSlot_17 N l1 l2 l3 l4 l5 s1 u) u := by
  unfold B_addSlot_17
  refine KP_rd (fun _ => ?_)
  refine KP_bn (sk_F_wrong.tr kp_rf) (fun _ _ => ?_)
  refine KP_if ?_ ?_
  · skip
    exact KP_some kp_rf
  · skip
    refine KP_if ?_ ?_
    · skip
      refine KP_rd (fun _ => ?_)
      refine KP_wr ?_
      refine KP_wr ?_
      refine KP_wr ?_
      refine KP_wr ?_
      refine KP_wr ?_
      refine KP_rd (fun _ => ?_)
      refine KP_wr ?_
      refine KP_rd (fun _ => ?_)
      refine KP_wr ?_
      refine KP_rd (fun _ => ?_)
      refine KP_wr ?_
      refine KP_pu ?_
      refine KP_rd (fun _ => ?_)
      refine KP_wr ?_
      refine KP_wr ?_
      exact KP_some (ks_sA (by decide) (ks_sA (by decide) (ks_sI (by decide) (ks_sA (by decide) (ks_sB (by decide) (ks_sB (by decide) (ks_sB (by decide) (ks_sA (by decide) (ks_sA (by decide) (ks_sA (by decide) (ks_sA (by decide) kp_rf)))))))))))
    · skip
      exact KP_some kp_rf
theorem sk_B_addSlot_0 {N : Nat} {l1 : Int32} {l2 : Int32} {l3 : Int32} {l4 : Int32} {l5 : Int64} {u : RSt}  : KP (B_addSlot_0 N l1 l2 l3 l4 l5 u) u := by
  unfold B_addSlot_0
  refine KP_if ?_ ?_
  · skip
    exact sk_B_addSlot_17.tr kp_rf
  · skip
    exact sk_B_addSlot_17.tr kp_rf
theorem sk_F_addSlot {N : Nat} {l1 : Int32} {l2 : Int32} {l3 : Int32} {l4 : Int32} {l5 : Int64} {u : RSt}  : KP (F_addSlot N l1 l2 l3 l4 l5 u) u := by
  unfold F_addSlot
  exact sk_B_addSlot_0.tr kp_rf
theorem sk_B_addVariable_219 {N : Nat} {s1 : Int32} {s2 : Int32} {u : RSt}  : KP (B_addVariable_219 N s1 s2 u) u := by
  unfold B_addVariable_219
  refine KP_pu ?_
  refine KP_rd (fun _ => ?_)
  refine KP_wr ?_
  exact KP_some (ks_sA (by decide) (ks_sI (by decide) kp_rf))
theorem sk_B_addVariable_202 {N : Nat} {l3 : Int32} {l4 : Int32} {s1 : Int32} {s2 : Int32} {u : RSt}  : KP (B_addVariable_202 N l3 l4 s1 s2 u) u := by
  unfold B_addVariable_202
  refine KP_wr ?_
  refine KP_if ?_ ?_
  · skip
    exact sk_B_addVariable_219.tr (ks_sA (by decide) kp_rf)
  · skip
    exact sk_B_addVariable_219.tr (ks_sA (by decide) kp_rf)
theorem sk_B_addVariable_51 {N : Nat} {l1 : Int32} {l2 : Int32} {l3 : Int32} {l4 : Int32} {l5 : Int32} {l6 : Int32} {l7 : Int64} {u : RSt}  : KP (B_addVariable_51 N l1 l2 l3 l4 l5 l6 l7 u) u := by
  unfold B_addVariable_51
  refine KP_if ?_ ?_
  · skip
    exact KP_some kp_rf
  · skip
    refine KP_if ?_ ?_
    · skip
      refine KP_rd (fun _ => ?_)
      refine KP_wr ?_
      refine KP_wr ?_
      refine KP_wr ?_
      refine KP_wr ?_
      refine KP_wr ?_
      refine KP_wr ?_
      refine KP_rd (fun _ => ?_)
      refine KP_wr ?_
      refine KP_rd (fun _ => ?_)
      refine KP_wr ?_
      refine KP_if ?_ ?_
      · skip
        refine KP_if ?_ ?_
        · skip
          exact sk_B_addVariable_202.tr (ks_sB (by decide) (ks_sB (by decide) (ks_sB (by decide) (ks_sA (by decide) (ks_sA (by decide) (ks_sA (by decide) (ks_sA (by decide) (ks_sA (by decide) kp_rf))))))))
        · skip
          exact sk_B_addVariable_202.tr (ks_sB (by decide) (ks_sB (by decide) (ks_sB (by decide) (ks_sA (by decide) (ks_sA (by decide) (ks_sA (by decide) (ks_sA (by decide) (ks_sA (by decide) kp_rf))))))))
      · skip
        exact sk_B_addVariable_202.tr (ks_sB (by decide) (ks_sB (by decide) (ks_sB (by decide) (ks_sA (by decide) (ks_sA (by decide) (ks_sA (by decide) (ks_sA (by decide) (ks_sA (by decide) kp_rf))))))))
    · skip
      exact KP_some kp_rf
theorem sk_B_addVariable_41 {N : Nat} {l1 : Int32} {l2 : Int32} {l3 : Int32} {l4 : Int32} {l5 : Int32} {l6 : Int32} {l7 : Int64} {s1 : Int32} {u : RSt}  : KP (B_addVariable_41 N l1 l2 l3 l4 l5 l6 l7 s1 u) u := by
  unfold B_addVariable_41
  refine KP_rd (fun _ => ?_)
  refine KP_bn (sk_F_wrong.tr kp_rf) (fun _ _ => ?_)
  exact sk_B_addVariable_51.tr kp_rf
theorem sk_B_addVariable_0 {N : Nat} {l1 : Int32} {l2 : Int32} {l3 : Int32} {l4 : Int32} {l5 : Int32} {l6 : Int32} {l7 : Int64} {u : RSt}  : KP (B_addVariable_0 N l1 l2 l3 l4 l5 l6 l7 u) u := by
  unfold B_addVariable_0
  refine KP_if ?_ ?_
  · skip
    exact sk_B_addVariable_51.tr kp_rf
  · skip
    refine KP_if ?_ ?_
    · skip
      exact sk_B_addVariable_51.tr kp_rf
    · skip
      refine KP_rd (fun _ => ?_)
      refine KP_wr ?_
      refine KP_rd (fun _ => ?_)
      refine KP_if ?_ ?_
      · skip
        exact sk_B_addVariable_41.tr (ks_sA (by decide) kp_rf)
      · skip
        exact sk_B_addVariable_41.tr (ks_sA (by decide) kp_rf)
theorem sk_F_addVariable {N : Nat} {l1 : Int32} {l2 : Int32} {l3 : Int32} {l4 : Int32} {l5 : Int32} {l6 : Int32} {l7 : Int64} {u : RSt}  : KP (F_addVariable N l1 l2 l3 l4 l5 l6 l7 u) u := by
  unfold F_addVariable
  exact sk_B_addVariable_0.tr kp_rf
theorem sk_B_isTooWide_25 {N : Nat} {l1 : Int32} {l2 : Int32} {u : RSt}  : KP (B_isTooWide_25 N l1 l2 u) u := by
  unfold B_isTooWide_25
  refine KP_if ?_ ?_
  · skip
    refine KP_if ?_ ?_
    · skip
      exact KP_some kp_rf
    · skip
      exact KP_some kp_rf
  · skip
    refine KP_if ?_ ?_
    · skip
      refine KP_if ?_ ?_
      · skip
        exact KP_some kp_rf
      · skip
        exact KP_some kp_rf
    · skip
      refine KP_if ?_ ?_
      · skip
        refine KP_if ?_ ?_
        · skip
          exact KP_some kp_rf
        · skip
          exact KP_some kp_rf
      · skip
        refine KP_if ?_ ?_
        · skip
          refine KP_if ?_ ?_
          · skip
            exact KP_some kp_rf
          · skip
            exact KP_some kp_rf
        · skip
          exact KP_some kp_rf
theorem sk_B_isTooWide_0 {N : Nat} {l1 : Int32} {l2 : Int32} {u : RSt}  : KP (B_isTooWide_0 N l1 l2 u) u := by
  unfold B_isTooWide_0
  refine KP_if ?_ ?_
  · skip
    exact KP_some kp_rf
  · skip
    refine KP_if ?_ ?_
    · skip
      exact sk_B_isTooWide_25.tr kp_rf
    · skip
      refine KP_if ?_ ?_
      · skip
        exact sk_B_isTooWide_25.tr kp_rf
      · skip
        exact KP_some kp_rf
theorem sk_F_isTooWide {N : Nat} {l1 : Int32} {l2 : Int32} {u : RSt}  : KP (F_isTooWide N l1 l2 u) u := by
  unfold F_isTooWide
  exact sk_B_isTooWide_0.tr kp_rf
theorem sk_B_strength_193 {N : Nat} {u : RSt}  : KP (B_strength_193 N u) u := by
  unfold B_strength_193
  exact KP_some kp_rf
theorem sk_B_strength_228 {N : Nat} {u : RSt}  : KP (B_strength_228 N u) u := by
  unfold B_strength_228
  exact KP_some kp_rf
theorem sk_B_strength_278 {N : Nat} {u : RSt}  : KP (B_strength_278 N u) u := by
  unfold B_strength_278
  exact KP_some kp_rf
theorem sk_B_strength_0 {N : Nat} {u : RSt}  : KP (B_strength_0 N u) u := by
  unfold B_strength_0
  refine KP_if ?_ ?_
  · skip
    refine KP_rd (fun _ => ?_)
    refine KP_if ?_ ?_
    · skip
      exact KP_some kp_rf
    · skip
      refine KP_if ?_ ?_
      · skip
        exact KP_some kp_rf
      · skip
        refine KP_if ?_ ?_
        · skip
          exact KP_some kp_rf
        · skip
          refine KP_if ?_ ?_
          · skip
            exact KP_some kp_rf
          · skip
            refine KP_if ?_ ?_
            · skip
              exact KP_some kp_rf
            · skip
              refine KP_if ?_ ?_
              · skip
                exact KP_some kp_rf
              · skip
                refine KP_if ?_ ?_
                · skip
                  exact KP_some kp_rf
                · skip
                  refine KP_if ?_ ?_
                  · skip
                    exact KP_some kp_rf
                  · skip
                    refine KP_if ?_ ?_
                    · skip
                      exact KP_some kp_rf
                    · skip
                      refine KP_if ?_ ?_
                      · skip
                        exact KP_some kp_rf
                      · skip
                        refine KP_if ?_ ?_
                        · skip
                          exact KP_some kp_rf
                        · skip
                          refine KP_rd (fun _ => ?_)
                          refine KP_if ?_ ?_
                          · skip
                            exact sk_B_strength_193.tr kp_rf
                          · skip
                            refine KP_rd (fun _ => ?_)
                            refine KP_if ?_ ?_
                            · skip
                              exact sk_B_strength_193.tr kp_rf
                            · skip
                              refine KP_rd (fun _ => ?_)
                              refine KP_if ?_ ?_
                              · skip
                                exact sk_B_strength_193.tr kp_rf
                              · skip
                                refine KP_rd (fun _ => ?_)
                                refine KP_if ?_ ?_
                                · skip
                                  exact sk_B_strength_228.tr kp_rf
                                · skip
                                  refine KP_rd (fun _ => ?_)
                                  refine KP_if ?_ ?_
                                  · skip
                                    exact sk_B_strength_228.tr kp_rf
                                  · skip
                                    refine KP_rd (fun _ => ?_)
                                    refine KP_if ?_ ?_
                                    · skip
                                      exact sk_B_strength_278.tr kp_rf
                                    · skip
                                      refine KP_rd (fun _ => ?_)
                                      refine KP_if ?_ ?_
                                      · skip
                                        exact sk_B_strength_278.tr kp_rf
                                      · skip
                                        refine KP_rd (fun _ => ?_)
                                        refine KP_if ?_ ?_
                                        · skip
                                          exact sk_B_strength_278.tr kp_rf
                                        · skip
                                          exact KP_some kp_rf
  · skip
    exact KP_some kp_rf
theorem sk_F_strength {N : Nat} {u : RSt}  : KP (F_strength N u) u := by
  unfold F_strength
  exact sk_B_strength_0.tr kp_rf
theorem sk_B_joined_139 {N : Nat} {l6 : Int32} {s0 : Int32} {u : RSt}  : KP (B_joined_139 N l6 s0 u) u := by
  unfold B_joined_139
  refine KP_if ?_ ?_
  · skip
    exact KP_some kp_rf
  · skip
    refine KP_if ?_ ?_
    · skip
      exact KP_some kp_rf
    · skip
      exact KP_some kp_rf
theorem sk_B_joined_134 {N : Nat} {l6 : Int32} {u : RSt}  : KP (B_joined_134 N l6 u) u := by
  unfold B_joined_134
  exact sk_B_joined_139.tr kp_rf
theorem sk_B_joined_92 {N : Nat} {l1 : Int32} {l6 : Int32} {u : RSt}  : KP (B_joined_92 N l1 l6 u) u := by
  unfold B_joined_92
  refine KP_if ?_ ?_
  · skip
    exact sk_B_joined_134.tr kp_rf
  · skip
    refine KP_if ?_ ?_
    · skip
      exact sk_B_joined_134.tr kp_rf
    · skip
      refine KP_if ?_ ?_
      · skip
        exact sk_B_joined_134.tr kp_rf
      · skip
        refine KP_if ?_ ?_
        · skip
          exact sk_B_joined_134.tr kp_rf
        · skip
          refine KP_if ?_ ?_
          · skip
            exact sk_B_joined_134.tr kp_rf
          · skip
            refine KP_if ?_ ?_
            · skip
              exact sk_B_joined_134.tr kp_rf
            · skip
              exact sk_B_joined_139.tr kp_rf
theorem sk_B_joined_91 {N : Nat} {l1 : Int32} {l6 : Int32} {s1 : Int32} {s2 : Int64} {u : RSt}  : KP (B_joined_91 N l1 l6 s1 s2 u) u := by
  unfold B_joined_91
  refine KP_wr ?_
  exact sk_B_joined_92.tr (ks_sB (by decide) kp_rf)
theorem sk_B_joined_49 {N : Nat} {l1 : Int32} {l2 : Int32} {s0 : Int32} {u : RSt}  : KP (B_joined_49 N l1 l2 s0 u) u := by
  unfold B_joined_49
  refine KP_bn (sk_F_emit.tr kp_rf) (fun _ _ => ?_)
  refine KP_if ?_ ?_
  · skip
    exact sk_B_joined_92.tr kp_rf
  · skip
    refine KP_if ?_ ?_
    · skip
      refine KP_if ?_ ?_
      · skip
        exact sk_B_joined_91.tr kp_rf
      · skip
        exact sk_B_joined_91.tr kp_rf
    · skip
      exact sk_B_joined_92.tr kp_rf
theorem sk_B_joined_44 {N : Nat} {l1 : Int32} {l2 : Int32} {u : RSt}  : KP (B_joined_44 N l1 l2 u) u := by
  unfold B_joined_44
  exact sk_B_joined_49.tr kp_rf
theorem sk_B_joined_48 {N : Nat} {l1 : Int32} {l2 : Int32} {u : RSt}  : KP (B_joined_48 N l1 l2 u) u := by
  unfold B_joined_48
  exact sk_B_joined_49.tr kp_rf
theorem sk_B_joined_26 {N : Nat} {l1 : Int32} {l2 : Int32} {l3 : Int32} {l4 : Int32} {s0 : Int32} {u : RSt}  : KP (B_joined_26 N l1 l2 l3 l4 s0 u) u := by
  unfold B_joined_26
  refine KP_if ?_ ?_
  · skip
    exact sk_B_joined_44.tr kp_rf
  · skip
    refine KP_if ?_ ?_
    · skip
      refine KP_if ?_ ?_
      · skip
        exact sk_B_joined_44.tr kp_rf
      · skip
        exact sk_B_joined_48.tr kp_rf
    · skip
      exact sk_B_joined_48.tr kp_rf
theorem sk_B_joined_21 {N : Nat} {l1 : Int32} {l2 : Int32} {l3 : Int32} {l4 : Int32} {u : RSt}  : KP (B_joined_21 N l1 l2 l3 l4 u) u := by
  unfold B_joined_21
  exact sk_B_joined_26.tr kp_rf
theorem sk_B_joined_0 {N : Nat} {l1 : Int32} {l2 : Int32} {l3 : Int32} {l4 : Int32} {u : RSt}  : KP (B_joined_0 N l1 l2 l3 l4 u) u := by
  unfold B_joined_0
  refine KP_if ?_ ?_
  · skip
    exact sk_B_joined_21.tr kp_rf
  · skip
    refine KP_if ?_ ?_
    · skip
      exact sk_B_joined_21.tr kp_rf
    · skip
      refine KP_if ?_ ?_
      · skip
        exact sk_B_joined_21.tr kp_rf
      · skip
        exact sk_B_joined_26.tr kp_rf
theorem sk_F_joined {N : Nat} {l1 : Int32} {l2 : Int32} {l3 : Int32} {l4 : Int32} {u : RSt}  : KP (F_joined N l1 l2 l3 l4 u) u := by
  unfold F_joined
  exact sk_B_joined_0.tr kp_rf
theorem sk_B_leadAll_2 {N : Nat} {R_2 : Int32 × RSt → Option (Int32 × RSt)} {l2 : Int32} {u : RSt} (h_R_2 : ∀ a, KP (R_2 a) a.2) : KP (B_leadAll_2 N R_2 l2 u) u := by
  unfold B_leadAll_2
  refine KP_if ?_ ?_
  · skip
    exact KP_some kp_rf
  · skip
    refine KP_if ?_ ?_
    · skip
      refine KP_if ?_ ?_
      · skip
        exact KP_some kp_rf
      · skip
        refine KP_rd (fun _ => ?_)
        refine KP_bn (sk_F_here.tr kp_rf) (fun _ _ => ?_)
        refine KP_wr ?_
        exact (h_R_2 _).tr (ks_sA (by decide) kp_rf)
    · skip
      exact KP_some kp_rf
theorem sk_LP_leadAll_2 {N : Nat}  (n : Nat) : ∀ a : Int32 × RSt, KP (LP_leadAll_2 N n a) a.2 := by
  induction n with
  | zero => exact fun a r z e => by have e : (none : Option _) = some (r, z) := e; cases e
  | succ n ih =>
    intro a
    show KP (B_leadAll_2 N (LP_leadAll_2 N n) a.1 a.2) a.2
    exact sk_B_leadAll_2 ih
theorem sk_B_leadAll_0 {N : Nat} {l1 : Int32} {u : RSt}  : KP (B_leadAll_0 N l1 u) u := by
  unfold B_leadAll_0
  exact (sk_LP_leadAll_2  _ _).tr kp_rf
theorem sk_F_leadAll {N : Nat} {l1 : Int32} {u : RSt}  : KP (F_leadAll N l1 u) u := by
  unfold F_leadAll
  exact sk_B_leadAll_0.tr kp_rf
theorem sk_B_loop_0 {N : Nat} {u : RSt}  : KP (B_loop_0 N u) u := by
  unfold B_loop_0
  refine KP_wr ?_
  refine KP_wr ?_
  refine KP_pu ?_
  exact KP_some (ks_sI (by decide) (ks_sA (by decide) (ks_sA (by decide) kp_rf)))
theorem sk_F_loop {N : Nat} {u : RSt}  : KP (F_loop N u) u := by
  unfold F_loop
  exact sk_B_loop_0.tr kp_rf
theorem sk_B_label_59 {N : Nat} {l1 : Int64} {l3 : Int64} {u : RSt}  : KP (B_label_59 N l1 l3 u) u := by
  unfold B_label_59
  refine KP_bn (sk_F_emit.tr kp_rf) (fun _ _ => ?_)
  refine KP_if ?_ ?_
  · skip
    exact KP_some kp_rf
  · skip
    refine KP_if ?_ ?_
    · skip
      refine KP_wr ?_
      refine KP_wr ?_
      exact KP_some (ks_sB (by decide) (ks_sB (by decide) kp_rf))
    · skip
      exact KP_some kp_rf
theorem sk_B_label_53 {N : Nat} {l1 : Int64} {l3 : Int64} {l5 : Int32} {s1 : Int32} {u : RSt}  : KP (B_label_53 N l1 l3 l5 s1 u) u := by
  unfold B_label_53
  refine KP_bn (sk_F_wrong.tr kp_rf) (fun _ _ => ?_)
  exact sk_B_label_59.tr kp_rf
theorem sk_B_label_0 {N : Nat} {u : RSt}  : KP (B_label_0 N u) u := by
  unfold B_label_0
  refine KP_bn (sk_F_constant.tr kp_rf) (fun _ _ => ?_)
  refine KP_bn (sk_F_has.tr kp_rf) (fun _ _ => ?_)
  refine KP_if ?_ ?_
  · skip
    exact sk_B_label_59.tr kp_rf
  · skip
    refine KP_rd (fun _ => ?_)
    refine KP_bn (sk_F_constant.tr kp_rf) (fun _ _ => ?_)
    refine KP_if ?_ ?_
    · skip
      exact sk_B_label_53.tr kp_rf
    · skip
      exact sk_B_label_53.tr kp_rf
theorem sk_F_label {N : Nat} {u : RSt}  : KP (F_label N u) u := by
  unfold F_label
  exact sk_B_label_0.tr kp_rf
theorem sk_B_leaves_94 {N : Nat} {u : RSt}  : KP (B_leaves_94 N u) u := by
  unfold B_leaves_94
  refine KP_bn (sk_F_take.tr kp_rf) (fun _ _ => ?_)
  exact KP_some kp_rf
theorem sk_B_leaves_63 {N : Nat} {l1 : Int32} {l3 : Int32} {s1 : Int32} {s2 : Int32} {u : RSt}  : KP (B_leaves_63 N l1 l3 s1 s2 u) u := by
  unfold B_leaves_63
  refine KP_bn (sk_F_emit.tr kp_rf) (fun _ _ => ?_)
  refine KP_if ?_ ?_
  · skip
    refine KP_wr ?_
    exact sk_B_leaves_94.tr (ks_sA (by decide) kp_rf)
  · skip
    refine KP_wr ?_
    exact sk_B_leaves_94.tr (ks_sA (by decide) kp_rf)
theorem sk_B_leaves_13 {N : Nat} {l1 : Int32} {l2 : Int32} {s1 : Int32} {u : RSt}  : KP (B_leaves_13 N l1 l2 s1 u) u := by
  unfold B_leaves_13
  refine KP_bn (sk_F_wrong.tr kp_rf) (fun _ _ => ?_)
  refine KP_if ?_ ?_
  · skip
    exact sk_B_leaves_94.tr kp_rf
  · skip
    refine KP_if ?_ ?_
    · skip
      refine KP_if ?_ ?_
      · skip
        refine KP_rd (fun _ => ?_)
        exact sk_B_leaves_63.tr kp_rf
      · skip
        refine KP_rd (fun _ => ?_)
        exact sk_B_leaves_63.tr kp_rf
    · skip
      exact sk_B_leaves_94.tr kp_rf
theorem sk_B_leaves_0 {N : Nat} {l1 : Int32} {l2 : Int32} {u : RSt}  : KP (B_leaves_0 N l1 l2 u) u := by
  unfold B_leaves_0
  refine KP_if ?_ ?_
  · skip
    exact sk_B_leaves_13.tr kp_rf
  · skip
    exact sk_B_leaves_13.tr kp_rf
theorem sk_F_leaves {N : Nat} {l1 : Int32} {l2 : Int32} {u : RSt}  : KP (F_leaves N l1 l2 u) u := by
  unfold F_leaves
  exact sk_B_leaves_0.tr kp_rf
theorem sk_B_expression_119 {N : Nat} {ro : Nat → Int32 → Int32 → RSt → Option (Int32 × RSt)} {u : RSt} (h_ro : ∀ q a b u, KP (ro q a b u) u) : KP (B_expression_119 N ro u) u := by
  unfold B_expression_119
  exact KP_some kp_rf
theorem sk_B_expression_0 {N : Nat} {ro : Nat → Int32 → Int32 → RSt → Option (Int32 × RSt)} {u : RSt} (h_ro : ∀ q a b u, KP (ro q a b u) u) : KP (B_expression_0 N ro u) u := by
  unfold B_expression_0
  refine KP_bn ((h_ro _ _ _ _).tr kp_rf) (fun _ _ => ?_)
  refine KP_bn (sk_F_is.tr kp_rf) (fun _ _ => ?_)
  refine KP_if ?_ ?_
  · skip
    exact KP_some kp_rf
  · skip
    refine KP_bn (sk_F_opens.tr kp_rf) (fun _ _ => ?_)
    refine KP_rd (fun _ => ?_)
    refine KP_bn (sk_F_cost.tr kp_rf) (fun _ _ => ?_)
    refine KP_pu ?_
    refine KP_bn (sk_F_emit.tr (ks_sI (by decide) kp_rf)) (fun _ _ => ?_)
    refine KP_bn ((h_ro _ _ _ _).tr kp_rf) (fun _ _ => ?_)
    refine KP_bn (sk_F_emit.tr kp_rf) (fun _ _ => ?_)
    refine KP_bn (sk_F_lead.tr kp_rf) (fun _ _ => ?_)
    refine KP_bn (sk_F_take.tr kp_rf) (fun _ _ => ?_)
    refine KP_bn ((h_ro _ _ _ _).tr kp_rf) (fun _ _ => ?_)
    refine KP_bn (sk_F_lead.tr kp_rf) (fun _ _ => ?_)
    refine KP_pu ?_
    refine KP_pu ?_
    refine KP_if ?_ ?_
    · skip
      exact (sk_B_expression_119 h_ro).tr (ks_sI (by decide) (ks_sI (by decide) kp_rf))
    · skip
      refine KP_if ?_ ?_
      · skip
        exact (sk_B_expression_119 h_ro).tr (ks_sI (by decide) (ks_sI (by decide) kp_rf))
      · skip
        exact KP_some (ks_sI (by decide) (ks_sI (by decide) kp_rf))
theorem sk_F_expression {N : Nat} {ro : Nat → Int32 → Int32 → RSt → Option (Int32 × RSt)} {u : RSt} (h_ro : ∀ q a b u, KP (ro q a b u) u) : KP (F_expression N ro u) u := by
  unfold F_expression
  exact (sk_B_expression_0 h_ro).tr kp_rf
theorem sk_B_two_159 {N : Nat} {ro : Nat → Int32 → Int32 → RSt → Option (Int32 × RSt)} {R_10 : Int32 × Int32 × Int32 × RSt → Option (Int32 × RSt)} {l1 : Int32} {l2 : Int32} {u : RSt} (h_ro : ∀ q a b u, KP (ro q a b u) u) (h_R_10 : ∀ a, KP (R_10 a) a.2.2.2) : KP (B_two_159 N ro R_10 l1 l2 u) u := by
  unfold B_two_159
  refine KP_pu ?_
  refine KP_bn (sk_F_strength.tr (ks_sI (by decide) kp_rf)) (fun _ _ => ?_)
  exact (h_R_10 _).tr kp_rf
theorem sk_B_two_124 {N : Nat} {ro : Nat → Int32 → Int32 → RSt → Option (Int32 × RSt)} {R_10 : Int32 × Int32 × Int32 × RSt → Option (Int32 × RSt)} {l1 : Int32} {l8 : Int32} {s1 : Int64} {u : RSt} (h_ro : ∀ q a b u, KP (ro q a b u) u) (h_R_10 : ∀ a, KP (R_10 a) a.2.2.2) : KP (B_two_124 N ro R_10 l1 l8 s1 u) u := by
  unfold B_two_124
  refine KP_bn (sk_F_push.tr kp_rf) (fun _ _ => ?_)
  refine KP_bn (sk_F_lead.tr kp_rf) (fun _ _ => ?_)
  exact (sk_B_two_159 h_ro h_R_10).tr kp_rf
theorem sk_B_two_71 {N : Nat} {ro : Nat → Int32 → Int32 → RSt → Option (Int32 × RSt)} {R_10 : Int32 × Int32 × Int32 × RSt → Option (Int32 × RSt)} {l1 : Int32} {l3 : Int32} {s1 : Int32} {u : RSt} (h_ro : ∀ q a b u, KP (ro q a b u) u) (h_R_10 : ∀ a, KP (R_10 a) a.2.2.2) : KP (B_two_71 N ro R_10 l1 l3 s1 u) u := by
  unfold B_two_71
  refine KP_bn (sk_F_emit.tr kp_rf) (fun _ _ => ?_)
  refine KP_bn ((h_ro _ _ _ _).tr kp_rf) (fun _ _ => ?_)
  refine KP_bn (sk_F_emit.tr kp_rf) (fun _ _ => ?_)
  refine KP_bn (sk_F_emit.tr kp_rf) (fun _ _ => ?_)
  refine KP_bn (sk_F_lead.tr kp_rf) (fun _ _ => ?_)
  refine KP_if ?_ ?_
  · skip
    exact (sk_B_two_124 h_ro h_R_10).tr kp_rf
  · skip
    exact (sk_B_two_124 h_ro h_R_10).tr kp_rf
theorem sk_B_two_10 {N : Nat} {ro : Nat → Int32 → Int32 → RSt → Option (Int32 × RSt)} {R_10 : Int32 × Int32 × Int32 × RSt → Option (Int32 × RSt)} {l1 : Int32} {l2 : Int32} {l3 : Int32} {u : RSt} (h_ro : ∀ q a b u, KP (ro q a b u) u) (h_R_10 : ∀ a, KP (R_10 a) a.2.2.2) : KP (B_two_10 N ro R_10 l1 l2 l3 u) u := by
  unfold B_two_10
  refine KP_if ?_ ?_
  · skip
    exact KP_some kp_rf
  · skip
    refine KP_rd (fun _ => ?_)
    refine KP_rd (fun _ => ?_)
    refine KP_pu ?_
    refine KP_bn (sk_F_cost.tr (ks_sI (by decide) kp_rf)) (fun _ _ => ?_)
    refine KP_if ?_ ?_
    · skip
      refine KP_bn ((h_ro _ _ _ _).tr kp_rf) (fun _ _ => ?_)
      refine KP_bn (sk_F_joined.tr kp_rf) (fun _ _ => ?_)
      exact (sk_B_two_159 h_ro h_R_10).tr kp_rf
    · skip
      refine KP_if ?_ ?_
      · skip
        exact (sk_B_two_71 h_ro h_R_10).tr kp_rf
      · skip
        exact (sk_B_two_71 h_ro h_R_10).tr kp_rf
theorem sk_LP_two_10 {N : Nat} {ro : Nat → Int32 → Int32 → RSt → Option (Int32 × RSt)} (h_ro : ∀ q a b u, KP (ro q a b u) u) (n : Nat) : ∀ a : Int32 × Int32 × Int32 × RSt, KP (LP_two_10 N ro n a) a.2.2.2 := by
  induction n with
  | zero => exact fun a r z e => by have e : (none : Option _) = some (r, z) := e; cases e
  | succ n ih =>
    intro a
    show KP (B_two_10 N ro (LP_two_10 N ro n) a.1 a.2.1 a.2.2.1 a.2.2.2) a.2.2.2
    exact sk_B_two_10 h_ro ih
theorem sk_B_two_0 {N : Nat} {ro : Nat → Int32 → Int32 → RSt → Option (Int32 × RSt)} {l1 : Int32} {u : RSt} (h_ro : ∀ q a b u, KP (ro q a b u) u) : KP (B_two_0 N ro l1 u) u := by
  unfold B_two_0
  refine KP_bn ((h_ro _ _ _ _).tr kp_rf) (fun _ _ => ?_)
  refine KP_bn (sk_F_strength.tr kp_rf) (fun _ _ => ?_)
  exact (sk_LP_two_10 h_ro _ _).tr kp_rf
theorem sk_F_two {N : Nat} {ro : Nat → Int32 → Int32 → RSt → Option (Int32 × RSt)} {l1 : Int32} {u : RSt} (h_ro : ∀ q a b u, KP (ro q a b u) u) : KP (F_two N ro l1 u) u := by
  unfold F_two
  exact (sk_B_two_0 h_ro).tr kp_rf
theorem sk_B_operand_40 {N : Nat} {ro : Nat → Int32 → Int32 → RSt → Option (Int32 × RSt)} {l1 : Int32} {u : RSt} (h_ro : ∀ q a b u, KP (ro q a b u) u) : KP (B_operand_40 N ro l1 u) u := by
  unfold B_operand_40
  refine KP_bn ((h_ro _ _ _ _).tr kp_rf) (fun _ _ => ?_)
  exact KP_some kp_rf
theorem sk_B_operand_141 {N : Nat} {ro : Nat → Int32 → Int32 → RSt → Option (Int32 × RSt)} {s1 : Int32} {u : RSt} (h_ro : ∀ q a b u, KP (ro q a b u) u) : KP (B_operand_141 N ro s1 u) u := by
  unfold B_operand_141
  refine KP_rd (fun _ => ?_)
  refine KP_bn (sk_F_wrong.tr kp_rf) (fun _ _ => ?_)
  refine KP_rd (fun _ => ?_)
  refine KP_bn (sk_F_cost.tr kp_rf) (fun _ _ => ?_)
  refine KP_rd (fun _ => ?_)
  refine KP_bn (sk_F_push.tr kp_rf) (fun _ _ => ?_)
  refine KP_pu ?_
  refine KP_rd (fun _ => ?_)
  refine KP_pu ?_
  refine KP_pu ?_
  refine KP_rd (fun _ => ?_)
  refine KP_if ?_ ?_
  · skip
    exact KP_some (ks_sI (by decide) (ks_sL (ks_sI (by decide) kp_rf)))
  · skip
    exact KP_some (ks_sI (by decide) (ks_sL (ks_sI (by decide) kp_rf)))
theorem sk_B_operand_130 {N : Nat} {ro : Nat → Int32 → Int32 → RSt → Option (Int32 × RSt)} {l1 : Int32} {u : RSt} (h_ro : ∀ q a b u, KP (ro q a b u) u) : KP (B_operand_130 N ro l1 u) u := by
  unfold B_operand_130
  refine KP_if ?_ ?_
  · skip
    exact (sk_B_operand_141 h_ro).tr kp_rf
  · skip
    exact (sk_B_operand_141 h_ro).tr kp_rf
theorem sk_B_operand_366 {N : Nat} {ro : Nat → Int32 → Int32 → RSt → Option (Int32 × RSt)} {u : RSt} (h_ro : ∀ q a b u, KP (ro q a b u) u) : KP (B_operand_366 N ro u) u := by
  unfold B_operand_366
  refine KP_pu ?_
  refine KP_if ?_ ?_
  · skip
    exact KP_some (ks_sI (by decide) kp_rf)
  · skip
    exact KP_some (ks_sI (by decide) kp_rf)
theorem sk_B_operand_329 {N : Nat} {ro : Nat → Int32 → Int32 → RSt → Option (Int32 × RSt)} {u : RSt} (h_ro : ∀ q a b u, KP (ro q a b u) u) : KP (B_operand_329 N ro u) u := by
  unfold B_operand_329
  refine KP_bn ((h_ro _ _ _ _).tr kp_rf) (fun _ _ => ?_)
  refine KP_bn (sk_F_emit.tr kp_rf) (fun _ _ => ?_)
  refine KP_if ?_ ?_
  · skip
    exact (sk_B_operand_366 h_ro).tr kp_rf
  · skip
    refine KP_bn (sk_F_emit.tr kp_rf) (fun _ _ => ?_)
    exact (sk_B_operand_366 h_ro).tr kp_rf
theorem sk_B_operand_71 {N : Nat} {ro : Nat → Int32 → Int32 → RSt → Option (Int32 × RSt)} {l1 : Int32} {u : RSt} (h_ro : ∀ q a b u, KP (ro q a b u) u) : KP (B_operand_71 N ro l1 u) u := by
  unfold B_operand_71
  refine KP_if ?_ ?_
  · skip
    refine KP_bn (sk_F_begins.tr kp_rf) (fun _ _ => ?_)
    refine KP_bn ((h_ro _ _ _ _).tr kp_rf) (fun _ _ => ?_)
    refine KP_bn (sk_F_ends.tr kp_rf) (fun _ _ => ?_)
    refine KP_if ?_ ?_
    · skip
      refine KP_pu ?_
      exact KP_some (ks_sI (by decide) kp_rf)
    · skip
      refine KP_pu ?_
      exact KP_some (ks_sI (by decide) kp_rf)
  · skip
    refine KP_if ?_ ?_
    · skip
      exact (sk_B_operand_130 h_ro).tr kp_rf
    · skip
      refine KP_if ?_ ?_
      · skip
        exact (sk_B_operand_130 h_ro).tr kp_rf
      · skip
        refine KP_if ?_ ?_
        · skip
          exact (sk_B_operand_130 h_ro).tr kp_rf
        · skip
          refine KP_pu ?_
          refine KP_if ?_ ?_
          · skip
            refine KP_rd (fun _ => ?_)
            refine KP_bn (sk_F_cost.tr (ks_sI (by decide) kp_rf)) (fun _ _ => ?_)
            refine KP_bn (sk_F_emit.tr kp_rf) (fun _ _ => ?_)
            refine KP_pu ?_
            exact KP_some (ks_sI (by decide) kp_rf)
          · skip
            refine KP_if ?_ ?_
            · skip
              refine KP_bn (sk_F_isNext.tr (ks_sI (by decide) kp_rf)) (fun _ _ => ?_)
              refine KP_if ?_ ?_
              · skip
                refine KP_bn (sk_F_isNext.tr kp_rf) (fun _ _ => ?_)
                refine KP_if ?_ ?_
                · skip
                  exact (sk_B_operand_329 h_ro).tr kp_rf
                · skip
                  refine KP_rd (fun _ => ?_)
                  refine KP_if ?_ ?_
                  · skip
                    refine KP_bn ((h_ro _ _ _ _).tr kp_rf) (fun _ _ => ?_)
                    exact KP_some kp_rf
                  · skip
                    exact (sk_B_operand_329 h_ro).tr kp_rf
              · skip
                refine KP_bn ((h_ro _ _ _ _).tr kp_rf) (fun _ _ => ?_)
                exact KP_some kp_rf
            · skip
              refine KP_bn (sk_F_stuck.tr (ks_sI (by decide) kp_rf)) (fun _ _ => ?_)
              exact KP_some kp_rf
theorem sk_B_operand_0 {N : Nat} {ro : Nat → Int32 → Int32 → RSt → Option (Int32 × RSt)} {u : RSt} (h_ro : ∀ q a b u, KP (ro q a b u) u) : KP (B_operand_0 N ro u) u := by
  unfold B_operand_0
  refine KP_if ?_ ?_
  · skip
    refine KP_rd (fun _ => ?_)
    refine KP_if ?_ ?_
    · skip
      exact (sk_B_operand_40 h_ro).tr kp_rf
    · skip
      refine KP_if ?_ ?_
      · skip
        exact (sk_B_operand_40 h_ro).tr kp_rf
      · skip
        refine KP_if ?_ ?_
        · skip
          exact (sk_B_operand_40 h_ro).tr kp_rf
        · skip
          refine KP_if ?_ ?_
          · skip
            refine KP_bn (sk_F_isKind.tr kp_rf) (fun _ _ => ?_)
            refine KP_if ?_ ?_
            · skip
              exact (sk_B_operand_71 h_ro).tr kp_rf
            · skip
              refine KP_bn ((h_ro _ _ _ _).tr kp_rf) (fun _ _ => ?_)
              exact KP_some kp_rf
          · skip
            exact (sk_B_operand_71 h_ro).tr kp_rf
  · skip
    exact KP_some kp_rf
theorem sk_F_operand {N : Nat} {ro : Nat → Int32 → Int32 → RSt → Option (Int32 × RSt)} {u : RSt} (h_ro : ∀ q a b u, KP (ro q a b u) u) : KP (F_operand N ro u) u := by
  unfold F_operand
  exact (sk_B_operand_0 h_ro).tr kp_rf
theorem sk_B_signed_143 {N : Nat} {ro : Nat → Int32 → Int32 → RSt → Option (Int32 × RSt)} {l1 : Int32} {l4 : Int32} {s1 : Int32} {u : RSt} (h_ro : ∀ q a b u, KP (ro q a b u) u) : KP (B_signed_143 N ro l1 l4 s1 u) u := by
  unfold B_signed_143
  refine KP_pu ?_
  refine KP_pu ?_
  refine KP_if ?_ ?_
  · skip
    exact KP_some (ks_sL (ks_sI (by decide) kp_rf))
  · skip
    refine KP_if ?_ ?_
    · skip
      exact KP_some (ks_sL (ks_sI (by decide) kp_rf))
    · skip
      exact KP_some (ks_sL (ks_sI (by decide) kp_rf))
theorem sk_B_signed_142 {N : Nat} {ro : Nat → Int32 → Int32 → RSt → Option (Int32 × RSt)} {l1 : Int32} {l4 : Int32} {u : RSt} (h_ro : ∀ q a b u, KP (ro q a b u) u) : KP (B_signed_142 N ro l1 l4 u) u := by
  unfold B_signed_142
  exact (sk_B_signed_143 h_ro).tr kp_rf
theorem sk_B_signed_102 {N : Nat} {ro : Nat → Int32 → Int32 → RSt → Option (Int32 × RSt)} {l1 : Int32} {l2 : Int32} {l4 : Int32} {s1 : Int32} {s2 : Int32} {u : RSt} (h_ro : ∀ q a b u, KP (ro q a b u) u) : KP (B_signed_102 N ro l1 l2 l4 s1 s2 u) u := by
  unfold B_signed_102
  refine KP_bn (sk_F_emit.tr kp_rf) (fun _ _ => ?_)
  refine KP_pu ?_
  refine KP_if ?_ ?_
  · skip
    refine KP_if ?_ ?_
    · skip
      exact (sk_B_signed_142 h_ro).tr (ks_sI (by decide) kp_rf)
    · skip
      refine KP_if ?_ ?_
      · skip
        exact (sk_B_signed_143 h_ro).tr (ks_sI (by decide) kp_rf)
      · skip
        exact (sk_B_signed_142 h_ro).tr (ks_sI (by decide) kp_rf)
  · skip
    exact (sk_B_signed_142 h_ro).tr (ks_sI (by decide) kp_rf)
theorem sk_B_signed_92 {N : Nat} {ro : Nat → Int32 → Int32 → RSt → Option (Int32 × RSt)} {l1 : Int32} {l2 : Int32} {l4 : Int32} {s1 : Int32} {u : RSt} (h_ro : ∀ q a b u, KP (ro q a b u) u) : KP (B_signed_92 N ro l1 l2 l4 s1 u) u := by
  unfold B_signed_92
  refine KP_if ?_ ?_
  · skip
    exact (sk_B_signed_102 h_ro).tr kp_rf
  · skip
    exact (sk_B_signed_102 h_ro).tr kp_rf
theorem sk_B_signed_63 {N : Nat} {ro : Nat → Int32 → Int32 → RSt → Option (Int32 × RSt)} {l1 : Int32} {l2 : Int32} {s0 : Int32} {u : RSt} (h_ro : ∀ q a b u, KP (ro q a b u) u) : KP (B_signed_63 N ro l1 l2 s0 u) u := by
  unfold B_signed_63
  refine KP_if ?_ ?_
  · skip
    exact (sk_B_signed_92 h_ro).tr kp_rf
  · skip
    refine KP_if ?_ ?_
    · skip
      exact (sk_B_signed_92 h_ro).tr kp_rf
    · skip
      exact (sk_B_signed_92 h_ro).tr kp_rf
theorem sk_B_signed_47 {N : Nat} {ro : Nat → Int32 → Int32 → RSt → Option (Int32 × RSt)} {l1 : Int32} {s0 : Int32} {u : RSt} (h_ro : ∀ q a b u, KP (ro q a b u) u) : KP (B_signed_47 N ro l1 s0 u) u := by
  unfold B_signed_47
  refine KP_bn ((h_ro _ _ _ _).tr kp_rf) (fun _ _ => ?_)
  refine KP_if ?_ ?_
  · skip
    exact (sk_B_signed_63 h_ro).tr kp_rf
  · skip
    exact (sk_B_signed_63 h_ro).tr kp_rf
theorem sk_B_signed_42 {N : Nat} {ro : Nat → Int32 → Int32 → RSt → Option (Int32 × RSt)} {l1 : Int32} {u : RSt} (h_ro : ∀ q a b u, KP (ro q a b u) u) : KP (B_signed_42 N ro l1 u) u := by
  unfold B_signed_42
  exact (sk_B_signed_47 h_ro).tr kp_rf
theorem sk_B_signed_0 {N : Nat} {ro : Nat → Int32 → Int32 → RSt → Option (Int32 × RSt)} {l1 : Int32} {u : RSt} (h_ro : ∀ q a b u, KP (ro q a b u) u) : KP (B_signed_0 N ro l1 u) u := by
  unfold B_signed_0
  refine KP_bn (sk_F_opens.tr kp_rf) (fun _ _ => ?_)
  refine KP_rd (fun _ => ?_)
  refine KP_bn (sk_F_cost.tr kp_rf) (fun _ _ => ?_)
  refine KP_pu ?_
  refine KP_bn (sk_F_isNumber.tr (ks_sI (by decide) kp_rf)) (fun _ _ => ?_)
  refine KP_if ?_ ?_
  · skip
    refine KP_bn (sk_F_is.tr kp_rf) (fun _ _ => ?_)
    refine KP_if ?_ ?_
    · skip
      exact (sk_B_signed_47 h_ro).tr kp_rf
    · skip
      exact (sk_B_signed_42 h_ro).tr kp_rf
  · skip
    exact (sk_B_signed_42 h_ro).tr kp_rf
theorem sk_F_signed {N : Nat} {ro : Nat → Int32 → Int32 → RSt → Option (Int32 × RSt)} {l1 : Int32} {u : RSt} (h_ro : ∀ q a b u, KP (ro q a b u) u) : KP (F_signed N ro l1 u) u := by
  unfold F_signed
  exact (sk_B_signed_0 h_ro).tr kp_rf
theorem sk_B_cast_0 {N : Nat} {ro : Nat → Int32 → Int32 → RSt → Option (Int32 × RSt)} {u : RSt} (h_ro : ∀ q a b u, KP (ro q a b u) u) : KP (B_cast_0 N ro u) u := by
  unfold B_cast_0
  refine KP_bn (sk_F_opens.tr kp_rf) (fun _ _ => ?_)
  refine KP_rd (fun _ => ?_)
  refine KP_bn (sk_F_cost.tr kp_rf) (fun _ _ => ?_)
  refine KP_pu ?_
  refine KP_bn (sk_F_kind.tr (ks_sI (by decide) kp_rf)) (fun _ _ => ?_)
  refine KP_bn (sk_F_take.tr kp_rf) (fun _ _ => ?_)
  refine KP_bn ((h_ro _ _ _ _).tr kp_rf) (fun _ _ => ?_)
  refine KP_bn (sk_F_emit.tr kp_rf) (fun _ _ => ?_)
  refine KP_pu ?_
  refine KP_pu ?_
  exact KP_some (ks_sI (by decide) (ks_sI (by decide) kp_rf))
theorem sk_F_cast {N : Nat} {ro : Nat → Int32 → Int32 → RSt → Option (Int32 × RSt)} {u : RSt} (h_ro : ∀ q a b u, KP (ro q a b u) u) : KP (F_cast N ro u) u := by
  unfold F_cast
  exact (sk_B_cast_0 h_ro).tr kp_rf
theorem sk_B_call_222 {N : Nat} {ro : Nat → Int32 → Int32 → RSt → Option (Int32 × RSt)} {R_123 : Int32 × Int32 × Int32 × Int32 × Int32 × Int32 × Int32 × Int32 × RSt → Option (Int32 × RSt)} {l1 : Int32} {l2 : Int32} {l3 : Int32} {l4 : Int32} {l5 : Int32} {l6 : Int32} {l7 : Int32} {u : RSt} (h_ro : ∀ q a b u, KP (ro q a b u) u) (h_R_123 : ∀ a, KP (R_123 a) a.2.2.2.2.2.2.2.2) : KP (B_call_222 N ro R_123 l1 l2 l3 l4 l5 l6 l7 u) u := by
  unfold B_call_222
  refine KP_bn (sk_F_has.tr kp_rf) (fun _ _ => ?_)
  exact (h_R_123 _).tr kp_rf
theorem sk_B_call_206 {N : Nat} {ro : Nat → Int32 → Int32 → RSt → Option (Int32 × RSt)} {R_123 : Int32 × Int32 × Int32 × Int32 × Int32 × Int32 × Int32 × Int32 × RSt → Option (Int32 × RSt)} {l1 : Int32} {l2 : Int32} {l3 : Int32} {l4 : Int32} {l5 : Int32} {l6 : Int32} {l7 : Int32} {l10 : Int32} {u : RSt} (h_ro : ∀ q a b u, KP (ro q a b u) u) (h_R_123 : ∀ a, KP (R_123 a) a.2.2.2.2.2.2.2.2) : KP (B_call_206 N ro R_123 l1 l2 l3 l4 l5 l6 l7 l10 u) u := by
  unfold B_call_206
  refine KP_if ?_ ?_
  · skip
    exact (sk_B_call_222 h_ro h_R_123).tr kp_rf
  · skip
    exact (sk_B_call_222 h_ro h_R_123).tr kp_rf
theorem sk_B_call_288 {N : Nat} {ro : Nat → Int32 → Int32 → RSt → Option (Int32 × RSt)} {l1 : Int32} {l4 : Int32} {s1 : Int32} {u : RSt} (h_ro : ∀ q a b u, KP (ro q a b u) u) : KP (B_call_288 N ro l1 l4 s1 u) u := by
  unfold B_call_288
  refine KP_rd (fun _ => ?_)
  refine KP_bn (sk_F_wrong.tr kp_rf) (fun _ _ => ?_)
  refine KP_rd (fun _ => ?_)
  refine KP_bn (sk_F_emit.tr kp_rf) (fun _ _ => ?_)
  refine KP_rd (fun _ => ?_)
  exact KP_some kp_rf
theorem sk_B_call_400 {N : Nat} {ro : Nat → Int32 → Int32 → RSt → Option (Int32 × RSt)} {l3 : Int32} {l9 : Int32} {s1 : Int32} {s2 : Int32} {s3 : Int32} {u : RSt} (h_ro : ∀ q a b u, KP (ro q a b u) u) : KP (B_call_400 N ro l3 l9 s1 s2 s3 u) u := by
  unfold B_call_400
  refine KP_bn (sk_F_emit.tr kp_rf) (fun _ _ => ?_)
  refine KP_if ?_ ?_
  · skip
    exact KP_some kp_rf
  · skip
    refine KP_if ?_ ?_
    · skip
      exact KP_some kp_rf
    · skip
      exact KP_some kp_rf
theorem sk_B_call_384 {N : Nat} {ro : Nat → Int32 → Int32 → RSt → Option (Int32 × RSt)} {l3 : Int32} {s0 : Int32} {u : RSt} (h_ro : ∀ q a b u, KP (ro q a b u) u) : KP (B_call_384 N ro l3 s0 u) u := by
  unfold B_call_384
  refine KP_if ?_ ?_
  · skip
    exact (sk_B_call_400 h_ro).tr kp_rf
  · skip
    exact (sk_B_call_400 h_ro).tr kp_rf
theorem sk_B_call_379 {N : Nat} {ro : Nat → Int32 → Int32 → RSt → Option (Int32 × RSt)} {l3 : Int32} {u : RSt} (h_ro : ∀ q a b u, KP (ro q a b u) u) : KP (B_call_379 N ro l3 u) u := by
  unfold B_call_379
  exact (sk_B_call_384 h_ro).tr kp_rf
theorem sk_B_call_383 {N : Nat} {ro : Nat → Int32 → Int32 → RSt → Option (Int32 × RSt)} {l3 : Int32} {u : RSt} (h_ro : ∀ q a b u, KP (ro q a b u) u) : KP (B_call_383 N ro l3 u) u := by
  unfold B_call_383
  exact (sk_B_call_384 h_ro).tr kp_rf
theorem sk_B_call_373 {N : Nat} {ro : Nat → Int32 → Int32 → RSt → Option (Int32 × RSt)} {l3 : Int32} {l7 : Int32} {u : RSt} (h_ro : ∀ q a b u, KP (ro q a b u) u) : KP (B_call_373 N ro l3 l7 u) u := by
  unfold B_call_373
  refine KP_if ?_ ?_
  · skip
    exact (sk_B_call_379 h_ro).tr kp_rf
  · skip
    exact (sk_B_call_383 h_ro).tr kp_rf
theorem sk_B_call_347 {N : Nat} {ro : Nat → Int32 → Int32 → RSt → Option (Int32 × RSt)} {l1 : Int32} {l3 : Int32} {l6 : Int32} {l7 : Int32} {s1 : Int32} {u : RSt} (h_ro : ∀ q a b u, KP (ro q a b u) u) : KP (B_call_347 N ro l1 l3 l6 l7 s1 u) u := by
  unfold B_call_347
  refine KP_rd (fun _ => ?_)
  refine KP_bn (sk_F_wrong.tr kp_rf) (fun _ _ => ?_)
  refine KP_if ?_ ?_
  · skip
    exact (sk_B_call_379 h_ro).tr kp_rf
  · skip
    refine KP_if ?_ ?_
    · skip
      exact (sk_B_call_373 h_ro).tr kp_rf
    · skip
      refine KP_if ?_ ?_
      · skip
        exact (sk_B_call_373 h_ro).tr kp_rf
      · skip
        exact (sk_B_call_383 h_ro).tr kp_rf
theorem sk_B_call_339 {N : Nat} {ro : Nat → Int32 → Int32 → RSt → Option (Int32 × RSt)} {l1 : Int32} {l3 : Int32} {l6 : Int32} {l7 : Int32} {s1 : Int32} {s2 : Int32} {u : RSt} (h_ro : ∀ q a b u, KP (ro q a b u) u) : KP (B_call_339 N ro l1 l3 l6 l7 s1 s2 u) u := by
  unfold B_call_339
  refine KP_if ?_ ?_
  · skip
    exact (sk_B_call_347 h_ro).tr kp_rf
  · skip
    exact (sk_B_call_347 h_ro).tr kp_rf
theorem sk_B_call_334 {N : Nat} {ro : Nat → Int32 → Int32 → RSt → Option (Int32 × RSt)} {l1 : Int32} {l3 : Int32} {l6 : Int32} {l7 : Int32} {s1 : Int32} {u : RSt} (h_ro : ∀ q a b u, KP (ro q a b u) u) : KP (B_call_334 N ro l1 l3 l6 l7 s1 u) u := by
  unfold B_call_334
  exact (sk_B_call_339 h_ro).tr kp_rf
theorem sk_B_call_123 {N : Nat} {ro : Nat → Int32 → Int32 → RSt → Option (Int32 × RSt)} {R_123 : Int32 × Int32 × Int32 × Int32 × Int32 × Int32 × Int32 × Int32 × RSt → Option (Int32 × RSt)} {l1 : Int32} {l2 : Int32} {l3 : Int32} {l4 : Int32} {l5 : Int32} {l6 : Int32} {l7 : Int32} {l8 : Int32} {u : RSt} (h_ro : ∀ q a b u, KP (ro q a b u) u) (h_R_123 : ∀ a, KP (R_123 a) a.2.2.2.2.2.2.2.2) : KP (B_call_123 N ro R_123 l1 l2 l3 l4 l5 l6 l7 l8 u) u := by
  unfold B_call_123
  refine KP_if ?_ ?_
  · skip
    refine KP_bn (sk_F_ends.tr kp_rf) (fun _ _ => ?_)
    refine KP_pu ?_
    refine KP_if ?_ ?_
    · skip
      exact KP_some (ks_sI (by decide) kp_rf)
    · skip
      refine KP_if ?_ ?_
      · skip
        refine KP_if ?_ ?_
        · skip
          refine KP_if ?_ ?_
          · skip
            exact (sk_B_call_334 h_ro).tr (ks_sI (by decide) kp_rf)
          · skip
            refine KP_if ?_ ?_
            · skip
              exact (sk_B_call_339 h_ro).tr (ks_sI (by decide) kp_rf)
            · skip
              exact (sk_B_call_334 h_ro).tr (ks_sI (by decide) kp_rf)
        · skip
          refine KP_rd (fun _ => ?_)
          refine KP_if ?_ ?_
          · skip
            exact (sk_B_call_288 h_ro).tr (ks_sI (by decide) kp_rf)
          · skip
            exact (sk_B_call_288 h_ro).tr (ks_sI (by decide) kp_rf)
      · skip
        exact KP_some (ks_sI (by decide) kp_rf)
  · skip
    refine KP_rd (fun _ => ?_)
    refine KP_bn ((h_ro _ _ _ _).tr kp_rf) (fun _ _ => ?_)
    refine KP_if ?_ ?_
    · skip
      exact (sk_B_call_206 h_ro h_R_123).tr kp_rf
    · skip
      refine KP_if ?_ ?_
      · skip
        exact (sk_B_call_206 h_ro h_R_123).tr kp_rf
      · skip
        refine KP_rd (fun _ => ?_)
        refine KP_if ?_ ?_
        · skip
          exact (sk_B_call_206 h_ro h_R_123).tr kp_rf
        · skip
          refine KP_rd (fun _ => ?_)
          refine KP_rd (fun _ => ?_)
          refine KP_bn (sk_F_isTooWide.tr kp_rf) (fun _ _ => ?_)
          refine KP_bn (sk_F_wrong.tr kp_rf) (fun _ _ => ?_)
          exact (sk_B_call_206 h_ro h_R_123).tr kp_rf
theorem sk_LP_call_123 {N : Nat} {ro : Nat → Int32 → Int32 → RSt → Option (Int32 × RSt)} (h_ro : ∀ q a b u, KP (ro q a b u) u) (n : Nat) : ∀ a : Int32 × Int32 × Int32 × Int32 × Int32 × Int32 × Int32 × Int32 × RSt, KP (LP_call_123 N ro n a) a.2.2.2.2.2.2.2.2 := by
  induction n with
  | zero => exact fun a r z e => by have e : (none : Option _) = some (r, z) := e; cases e
  | succ n ih =>
    intro a
    show KP (B_call_123 N ro (LP_call_123 N ro n) a.1 a.2.1 a.2.2.1 a.2.2.2.1 a.2.2.2.2.1 a.2.2.2.2.2.1 a.2.2.2.2.2.2.1 a.2.2.2.2.2.2.2.1 a.2.2.2.2.2.2.2.2) a.2.2.2.2.2.2.2.2
    exact sk_B_call_123 h_ro ih
theorem sk_B_call_121 {N : Nat} {ro : Nat → Int32 → Int32 → RSt → Option (Int32 × RSt)} {l1 : Int32} {l2 : Int32} {l3 : Int32} {l4 : Int32} {l5 : Int32} {l6 : Int32} {l7 : Int32} {s0 : Int32} {u : RSt} (h_ro : ∀ q a b u, KP (ro q a b u) u) : KP (B_call_121 N ro l1 l2 l3 l4 l5 l6 l7 s0 u) u := by
  unfold B_call_121
  exact (sk_LP_call_123 h_ro _ _).tr kp_rf
theorem sk_B_call_120 {N : Nat} {ro : Nat → Int32 → Int32 → RSt → Option (Int32 × RSt)} {l1 : Int32} {l2 : Int32} {l3 : Int32} {l4 : Int32} {l5 : Int32} {l6 : Int32} {l7 : Int32} {u : RSt} (h_ro : ∀ q a b u, KP (ro q a b u) u) : KP (B_call_120 N ro l1 l2 l3 l4 l5 l6 l7 u) u := by
  unfold B_call_120
  exact (sk_B_call_121 h_ro).tr kp_rf
theorem sk_B_call_33 {N : Nat} {ro : Nat → Int32 → Int32 → RSt → Option (Int32 × RSt)} {l1 : Int32} {l2 : Int32} {l3 : Int32} {s1 : Int32} {u : RSt} (h_ro : ∀ q a b u, KP (ro q a b u) u) : KP (B_call_33 N ro l1 l2 l3 s1 u) u := by
  unfold B_call_33
  refine KP_rd (fun _ => ?_)
  refine KP_bn (sk_F_wrong.tr kp_rf) (fun _ _ => ?_)
  refine KP_rd (fun _ => ?_)
  refine KP_bn (sk_F_cost.tr kp_rf) (fun _ _ => ?_)
  refine KP_pu ?_
  refine KP_bn (sk_F_begins.tr (ks_sI (by decide) kp_rf)) (fun _ _ => ?_)
  refine KP_if ?_ ?_
  · skip
    refine KP_bn (sk_F_is.tr kp_rf) (fun _ _ => ?_)
    refine KP_if ?_ ?_
    · skip
      exact (sk_B_call_121 h_ro).tr kp_rf
    · skip
      exact (sk_B_call_120 h_ro).tr kp_rf
  · skip
    exact (sk_B_call_120 h_ro).tr kp_rf
theorem sk_B_call_32 {N : Nat} {ro : Nat → Int32 → Int32 → RSt → Option (Int32 × RSt)} {l1 : Int32} {l2 : Int32} {l3 : Int32} {u : RSt} (h_ro : ∀ q a b u, KP (ro q a b u) u) : KP (B_call_32 N ro l1 l2 l3 u) u := by
  unfold B_call_32
  exact (sk_B_call_33 h_ro).tr kp_rf
theorem sk_B_call_0 {N : Nat} {ro : Nat → Int32 → Int32 → RSt → Option (Int32 × RSt)} {u : RSt} (h_ro : ∀ q a b u, KP (ro q a b u) u) : KP (B_call_0 N ro u) u := by
  unfold B_call_0
  refine KP_bn (sk_F_own.tr kp_rf) (fun _ _ => ?_)
  refine KP_bn (sk_F_own.tr kp_rf) (fun _ _ => ?_)
  refine KP_if ?_ ?_
  · skip
    refine KP_if ?_ ?_
    · skip
      exact (sk_B_call_33 h_ro).tr kp_rf
    · skip
      exact (sk_B_call_32 h_ro).tr kp_rf
  · skip
    exact (sk_B_call_32 h_ro).tr kp_rf
theorem sk_F_call {N : Nat} {ro : Nat → Int32 → Int32 → RSt → Option (Int32 × RSt)} {u : RSt} (h_ro : ∀ q a b u, KP (ro q a b u) u) : KP (F_call N ro u) u := by
  unfold F_call
  exact (sk_B_call_0 h_ro).tr kp_rf
theorem sk_B_inner_192 {N : Nat} {ro : Nat → Int32 → Int32 → RSt → Option (Int32 × RSt)} {R_102 : Int32 × Int32 × Int32 × Int32 × Int32 × RSt → Option (Int32 × RSt)} {l1 : Int32} {l2 : Int32} {l3 : Int32} {l4 : Int32} {l5 : Int32} {u : RSt} (h_ro : ∀ q a b u, KP (ro q a b u) u) (h_R_102 : ∀ a, KP (R_102 a) a.2.2.2.2.2) : KP (B_inner_192 N ro R_102 l1 l2 l3 l4 l5 u) u := by
  unfold B_inner_192
  exact (h_R_102 _).tr kp_rf
theorem sk_B_inner_387 {N : Nat} {ro : Nat → Int32 → Int32 → RSt → Option (Int32 × RSt)} {l3 : Int32} {l6 : Int32} {s1 : Int32} {s2 : Int32} {u : RSt} (h_ro : ∀ q a b u, KP (ro q a b u) u) : KP (B_inner_387 N ro l3 l6 s1 s2 u) u := by
  unfold B_inner_387
  refine KP_bn (sk_F_emit.tr kp_rf) (fun _ _ => ?_)
  refine KP_pu ?_
  refine KP_if ?_ ?_
  · skip
    exact KP_some (ks_sI (by decide) kp_rf)
  · skip
    refine KP_rd (fun _ => ?_)
    exact KP_some (ks_sI (by decide) kp_rf)
theorem sk_B_inner_369 {N : Nat} {ro : Nat → Int32 → Int32 → RSt → Option (Int32 × RSt)} {l3 : Int32} {l6 : Int32} {u : RSt} (h_ro : ∀ q a b u, KP (ro q a b u) u) : KP (B_inner_369 N ro l3 l6 u) u := by
  unfold B_inner_369
  refine KP_if ?_ ?_
  · skip
    exact (sk_B_inner_387 h_ro).tr kp_rf
  · skip
    refine KP_rd (fun _ => ?_)
    exact (sk_B_inner_387 h_ro).tr kp_rf
theorem sk_B_inner_348 {N : Nat} {ro : Nat → Int32 → Int32 → RSt → Option (Int32 × RSt)} {l3 : Int32} {l5 : Int32} {l6 : Int32} {s1 : Int32} {s2 : Int32} {u : RSt} (h_ro : ∀ q a b u, KP (ro q a b u) u) : KP (B_inner_348 N ro l3 l5 l6 s1 s2 u) u := by
  unfold B_inner_348
  refine KP_bn (sk_F_emit.tr kp_rf) (fun _ _ => ?_)
  refine KP_if ?_ ?_
  · skip
    exact (sk_B_inner_369 h_ro).tr kp_rf
  · skip
    refine KP_bn (sk_F_emit.tr kp_rf) (fun _ _ => ?_)
    exact (sk_B_inner_369 h_ro).tr kp_rf
theorem sk_B_inner_315 {N : Nat} {ro : Nat → Int32 → Int32 → RSt → Option (Int32 × RSt)} {l1 : Int32} {l3 : Int32} {l5 : Int32} {l6 : Int32} {u : RSt} (h_ro : ∀ q a b u, KP (ro q a b u) u) : KP (B_inner_315 N ro l1 l3 l5 l6 u) u := by
  unfold B_inner_315
  refine KP_if ?_ ?_
  · skip
    exact (sk_B_inner_348 h_ro).tr kp_rf
  · skip
    refine KP_rd (fun _ => ?_)
    refine KP_rd (fun _ => ?_)
    exact (sk_B_inner_348 h_ro).tr kp_rf
theorem sk_B_inner_311 {N : Nat} {ro : Nat → Int32 → Int32 → RSt → Option (Int32 × RSt)} {l1 : Int32} {l2 : Int32} {l3 : Int32} {l5 : Int32} {l6 : Int32} {s1 : Int32} {u : RSt} (h_ro : ∀ q a b u, KP (ro q a b u) u) : KP (B_inner_311 N ro l1 l2 l3 l5 l6 s1 u) u := by
  unfold B_inner_311
  refine KP_bn ((h_ro _ _ _ _).tr kp_rf) (fun _ _ => ?_)
  exact (sk_B_inner_315 h_ro).tr kp_rf
theorem sk_B_inner_275 {N : Nat} {ro : Nat → Int32 → Int32 → RSt → Option (Int32 × RSt)} {l1 : Int32} {l2 : Int32} {l3 : Int32} {l5 : Int32} {l6 : Int32} {s1 : Int32} {u : RSt} (h_ro : ∀ q a b u, KP (ro q a b u) u) : KP (B_inner_275 N ro l1 l2 l3 l5 l6 s1 u) u := by
  unfold B_inner_275
  refine KP_bn (sk_F_wrong.tr kp_rf) (fun _ _ => ?_)
  refine KP_pu ?_
  refine KP_if ?_ ?_
  · skip
    exact (sk_B_inner_315 h_ro).tr (ks_sI (by decide) kp_rf)
  · skip
    refine KP_if ?_ ?_
    · skip
      exact (sk_B_inner_311 h_ro).tr (ks_sI (by decide) kp_rf)
    · skip
      refine KP_rd (fun _ => ?_)
      exact (sk_B_inner_311 h_ro).tr (ks_sI (by decide) kp_rf)
theorem sk_B_inner_274 {N : Nat} {ro : Nat → Int32 → Int32 → RSt → Option (Int32 × RSt)} {l1 : Int32} {l2 : Int32} {l3 : Int32} {l5 : Int32} {l6 : Int32} {u : RSt} (h_ro : ∀ q a b u, KP (ro q a b u) u) : KP (B_inner_274 N ro l1 l2 l3 l5 l6 u) u := by
  unfold B_inner_274
  exact (sk_B_inner_275 h_ro).tr kp_rf
theorem sk_B_inner_264 {N : Nat} {ro : Nat → Int32 → Int32 → RSt → Option (Int32 × RSt)} {l1 : Int32} {l2 : Int32} {l3 : Int32} {l5 : Int32} {l6 : Int32} {s2 : Int32} {u : RSt} (h_ro : ∀ q a b u, KP (ro q a b u) u) : KP (B_inner_264 N ro l1 l2 l3 l5 l6 s2 u) u := by
  unfold B_inner_264
  refine KP_rd (fun _ => ?_)
  refine KP_if ?_ ?_
  · skip
    exact (sk_B_inner_274 h_ro).tr kp_rf
  · skip
    exact (sk_B_inner_275 h_ro).tr kp_rf
theorem sk_B_inner_242 {N : Nat} {ro : Nat → Int32 → Int32 → RSt → Option (Int32 × RSt)} {l1 : Int32} {l2 : Int32} {l3 : Int32} {l5 : Int32} {s0 : Int32} {u : RSt} (h_ro : ∀ q a b u, KP (ro q a b u) u) : KP (B_inner_242 N ro l1 l2 l3 l5 s0 u) u := by
  unfold B_inner_242
  refine KP_if ?_ ?_
  · skip
    exact (sk_B_inner_274 h_ro).tr kp_rf
  · skip
    refine KP_if ?_ ?_
    · skip
      exact (sk_B_inner_264 h_ro).tr kp_rf
    · skip
      exact (sk_B_inner_264 h_ro).tr kp_rf
theorem sk_B_inner_241 {N : Nat} {ro : Nat → Int32 → Int32 → RSt → Option (Int32 × RSt)} {l1 : Int32} {l2 : Int32} {l3 : Int32} {l5 : Int32} {u : RSt} (h_ro : ∀ q a b u, KP (ro q a b u) u) : KP (B_inner_241 N ro l1 l2 l3 l5 u) u := by
  unfold B_inner_241
  exact (sk_B_inner_242 h_ro).tr kp_rf
theorem sk_B_inner_209 {N : Nat} {ro : Nat → Int32 → Int32 → RSt → Option (Int32 × RSt)} {l1 : Int32} {l2 : Int32} {l3 : Int32} {s1 : Int32} {u : RSt} (h_ro : ∀ q a b u, KP (ro q a b u) u) : KP (B_inner_209 N ro l1 l2 l3 s1 u) u := by
  unfold B_inner_209
  refine KP_bn (sk_F_wrong.tr kp_rf) (fun _ _ => ?_)
  refine KP_bn (sk_F_isNext.tr kp_rf) (fun _ _ => ?_)
  refine KP_if ?_ ?_
  · skip
    exact (sk_B_inner_241 h_ro).tr kp_rf
  · skip
    refine KP_if ?_ ?_
    · skip
      exact (sk_B_inner_242 h_ro).tr kp_rf
    · skip
      exact (sk_B_inner_241 h_ro).tr kp_rf
theorem sk_B_inner_198 {N : Nat} {ro : Nat → Int32 → Int32 → RSt → Option (Int32 × RSt)} {l1 : Int32} {l2 : Int32} {l3 : Int32} {u : RSt} (h_ro : ∀ q a b u, KP (ro q a b u) u) : KP (B_inner_198 N ro l1 l2 l3 u) u := by
  unfold B_inner_198
  refine KP_if ?_ ?_
  · skip
    exact (sk_B_inner_209 h_ro).tr kp_rf
  · skip
    exact (sk_B_inner_209 h_ro).tr kp_rf
theorem sk_B_inner_102 {N : Nat} {ro : Nat → Int32 → Int32 → RSt → Option (Int32 × RSt)} {R_102 : Int32 × Int32 × Int32 × Int32 × Int32 × RSt → Option (Int32 × RSt)} {l1 : Int32} {l2 : Int32} {l3 : Int32} {l4 : Int32} {l5 : Int32} {u : RSt} (h_ro : ∀ q a b u, KP (ro q a b u) u) (h_R_102 : ∀ a, KP (R_102 a) a.2.2.2.2.2) : KP (B_inner_102 N ro R_102 l1 l2 l3 l4 l5 u) u := by
  unfold B_inner_102
  refine KP_if ?_ ?_
  · skip
    exact (sk_B_inner_198 h_ro).tr kp_rf
  · skip
    refine KP_if ?_ ?_
    · skip
      refine KP_rd (fun _ => ?_)
      refine KP_if ?_ ?_
      · skip
        exact (sk_B_inner_198 h_ro).tr kp_rf
      · skip
        refine KP_rd (fun _ => ?_)
        refine KP_rd (fun _ => ?_)
        refine KP_rd (fun _ => ?_)
        refine KP_if ?_ ?_
        · skip
          refine KP_rd (fun _ => ?_)
          refine KP_rd (fun _ => ?_)
          refine KP_if ?_ ?_
          · skip
            exact (sk_B_inner_192 h_ro h_R_102).tr kp_rf
          · skip
            exact (sk_B_inner_192 h_ro h_R_102).tr kp_rf
        · skip
          exact (sk_B_inner_192 h_ro h_R_102).tr kp_rf
    · skip
      exact (sk_B_inner_198 h_ro).tr kp_rf
theorem sk_LP_inner_102 {N : Nat} {ro : Nat → Int32 → Int32 → RSt → Option (Int32 × RSt)} (h_ro : ∀ q a b u, KP (ro q a b u) u) (n : Nat) : ∀ a : Int32 × Int32 × Int32 × Int32 × Int32 × RSt, KP (LP_inner_102 N ro n a) a.2.2.2.2.2 := by
  induction n with
  | zero => exact fun a r z e => by have e : (none : Option _) = some (r, z) := e; cases e
  | succ n ih =>
    intro a
    show KP (B_inner_102 N ro (LP_inner_102 N ro n) a.1 a.2.1 a.2.2.1 a.2.2.2.1 a.2.2.2.2.1 a.2.2.2.2.2) a.2.2.2.2.2
    exact sk_B_inner_102 h_ro ih
theorem sk_B_inner_97 {N : Nat} {ro : Nat → Int32 → Int32 → RSt → Option (Int32 × RSt)} {l1 : Int32} {l2 : Int32} {l3 : Int32} {s0 : Int32} {u : RSt} (h_ro : ∀ q a b u, KP (ro q a b u) u) : KP (B_inner_97 N ro l1 l2 l3 s0 u) u := by
  unfold B_inner_97
  exact (sk_LP_inner_102 h_ro _ _).tr kp_rf
theorem sk_B_inner_96 {N : Nat} {ro : Nat → Int32 → Int32 → RSt → Option (Int32 × RSt)} {l1 : Int32} {l2 : Int32} {l3 : Int32} {u : RSt} (h_ro : ∀ q a b u, KP (ro q a b u) u) : KP (B_inner_96 N ro l1 l2 l3 u) u := by
  unfold B_inner_96
  exact (sk_B_inner_97 h_ro).tr kp_rf
theorem sk_B_inner_17 {N : Nat} {ro : Nat → Int32 → Int32 → RSt → Option (Int32 × RSt)} {l1 : Int32} {s1 : Int32} {u : RSt} (h_ro : ∀ q a b u, KP (ro q a b u) u) : KP (B_inner_17 N ro l1 s1 u) u := by
  unfold B_inner_17
  refine KP_rd (fun _ => ?_)
  refine KP_bn (sk_F_wrong.tr kp_rf) (fun _ _ => ?_)
  refine KP_rd (fun _ => ?_)
  refine KP_bn (sk_F_cost.tr kp_rf) (fun _ _ => ?_)
  refine KP_pu ?_
  refine KP_rd (fun _ => ?_)
  refine KP_if ?_ ?_
  · skip
    exact (sk_B_inner_96 h_ro).tr (ks_sI (by decide) kp_rf)
  · skip
    refine KP_if ?_ ?_
    · skip
      refine KP_rd (fun _ => ?_)
      exact (sk_B_inner_97 h_ro).tr (ks_sI (by decide) kp_rf)
    · skip
      exact (sk_B_inner_96 h_ro).tr (ks_sI (by decide) kp_rf)
theorem sk_B_inner_0 {N : Nat} {ro : Nat → Int32 → Int32 → RSt → Option (Int32 × RSt)} {u : RSt} (h_ro : ∀ q a b u, KP (ro q a b u) u) : KP (B_inner_0 N ro u) u := by
  unfold B_inner_0
  refine KP_bn (sk_F_own.tr kp_rf) (fun _ _ => ?_)
  refine KP_if ?_ ?_
  · skip
    exact (sk_B_inner_17 h_ro).tr kp_rf
  · skip
    exact (sk_B_inner_17 h_ro).tr kp_rf
theorem sk_F_inner {N : Nat} {ro : Nat → Int32 → Int32 → RSt → Option (Int32 × RSt)} {u : RSt} (h_ro : ∀ q a b u, KP (ro q a b u) u) : KP (F_inner N ro u) u := by
  unfold F_inner
  exact (sk_B_inner_0 h_ro).tr kp_rf
theorem sk_B_index_35 {N : Nat} {ro : Nat → Int32 → Int32 → RSt → Option (Int32 × RSt)} {l1 : Int32} {l2 : Int32} {l3 : Int32} {s1 : Int32} {u : RSt} (h_ro : ∀ q a b u, KP (ro q a b u) u) : KP (B_index_35 N ro l1 l2 l3 s1 u) u := by
  unfold B_index_35
  refine KP_bn (sk_F_wrong.tr kp_rf) (fun _ _ => ?_)
  refine KP_bn (sk_F_emit.tr kp_rf) (fun _ _ => ?_)
  refine KP_bn (sk_F_ends.tr kp_rf) (fun _ _ => ?_)
  exact KP_some kp_rf
theorem sk_B_index_0 {N : Nat} {ro : Nat → Int32 → Int32 → RSt → Option (Int32 × RSt)} {l1 : Int32} {l2 : Int32} {u : RSt} (h_ro : ∀ q a b u, KP (ro q a b u) u) : KP (B_index_0 N ro l1 l2 u) u := by
  unfold B_index_0
  refine KP_bn (sk_F_begins.tr kp_rf) (fun _ _ => ?_)
  refine KP_rd (fun _ => ?_)
  refine KP_bn ((h_ro _ _ _ _).tr kp_rf) (fun _ _ => ?_)
  refine KP_if ?_ ?_
  · skip
    exact (sk_B_index_35 h_ro).tr kp_rf
  · skip
    exact (sk_B_index_35 h_ro).tr kp_rf
theorem sk_F_index {N : Nat} {ro : Nat → Int32 → Int32 → RSt → Option (Int32 × RSt)} {l1 : Int32} {l2 : Int32} {u : RSt} (h_ro : ∀ q a b u, KP (ro q a b u) u) : KP (F_index N ro l1 l2 u) u := by
  unfold F_index
  exact (sk_B_index_0 h_ro).tr kp_rf
theorem sk_B_spot_409 {N : Nat} {ro : Nat → Int32 → Int32 → RSt → Option (Int32 × RSt)} {l7 : Int32} {l11 : Int32} {u : RSt} (h_ro : ∀ q a b u, KP (ro q a b u) u) : KP (B_spot_409 N ro l7 l11 u) u := by
  unfold B_spot_409
  refine KP_pu ?_
  refine KP_pu ?_
  exact KP_some (ks_sI (by decide) (ks_sI (by decide) kp_rf))
theorem sk_B_spot_382 {N : Nat} {ro : Nat → Int32 → Int32 → RSt → Option (Int32 × RSt)} {l7 : Int32} {u : RSt} (h_ro : ∀ q a b u, KP (ro q a b u) u) : KP (B_spot_382 N ro l7 u) u := by
  unfold B_spot_382
  refine KP_bn (sk_F_has.tr kp_rf) (fun _ _ => ?_)
  refine KP_if ?_ ?_
  · skip
    exact (sk_B_spot_409 h_ro).tr kp_rf
  · skip
    refine KP_bn (sk_F_bounded.tr kp_rf) (fun _ _ => ?_)
    exact (sk_B_spot_409 h_ro).tr kp_rf
theorem sk_B_spot_361 {N : Nat} {ro : Nat → Int32 → Int32 → RSt → Option (Int32 × RSt)} {l7 : Int32} {l9 : Int32} {s1 : Int32} {s2 : Int32} {u : RSt} (h_ro : ∀ q a b u, KP (ro q a b u) u) : KP (B_spot_361 N ro l7 l9 s1 s2 u) u := by
  unfold B_spot_361
  refine KP_bn (sk_F_emit.tr kp_rf) (fun _ _ => ?_)
  refine KP_if ?_ ?_
  · skip
    exact (sk_B_spot_382 h_ro).tr kp_rf
  · skip
    refine KP_bn (sk_F_emit.tr kp_rf) (fun _ _ => ?_)
    exact (sk_B_spot_382 h_ro).tr kp_rf
theorem sk_B_spot_331 {N : Nat} {ro : Nat → Int32 → Int32 → RSt → Option (Int32 × RSt)} {l3 : Int32} {l5 : Int32} {l6 : Int32} {l7 : Int32} {l9 : Int32} {s1 : Int32} {u : RSt} (h_ro : ∀ q a b u, KP (ro q a b u) u) : KP (B_spot_331 N ro l3 l5 l6 l7 l9 s1 u) u := by
  unfold B_spot_331
  refine KP_if ?_ ?_
  · skip
    exact (sk_B_spot_361 h_ro).tr kp_rf
  · skip
    refine KP_if ?_ ?_
    · skip
      refine KP_rd (fun _ => ?_)
      exact (sk_B_spot_361 h_ro).tr kp_rf
    · skip
      refine KP_rd (fun _ => ?_)
      exact (sk_B_spot_361 h_ro).tr kp_rf
theorem sk_B_spot_305 {N : Nat} {ro : Nat → Int32 → Int32 → RSt → Option (Int32 × RSt)} {l3 : Int32} {l5 : Int32} {l6 : Int32} {l7 : Int32} {l9 : Int32} {u : RSt} (h_ro : ∀ q a b u, KP (ro q a b u) u) : KP (B_spot_305 N ro l3 l5 l6 l7 l9 u) u := by
  unfold B_spot_305
  refine KP_if ?_ ?_
  · skip
    exact (sk_B_spot_331 h_ro).tr kp_rf
  · skip
    refine KP_if ?_ ?_
    · skip
      exact (sk_B_spot_331 h_ro).tr kp_rf
    · skip
      exact (sk_B_spot_331 h_ro).tr kp_rf
theorem sk_B_spot_283 {N : Nat} {ro : Nat → Int32 → Int32 → RSt → Option (Int32 × RSt)} {l2 : Int32} {l3 : Int32} {l5 : Int32} {l6 : Int32} {l7 : Int32} {l8 : Int32} {l9 : Int32} {u : RSt} (h_ro : ∀ q a b u, KP (ro q a b u) u) : KP (B_spot_283 N ro l2 l3 l5 l6 l7 l8 l9 u) u := by
  unfold B_spot_283
  refine KP_pu ?_
  refine KP_if ?_ ?_
  · skip
    exact (sk_B_spot_305 h_ro).tr (ks_sI (by decide) kp_rf)
  · skip
    refine KP_bn ((h_ro _ _ _ _).tr (ks_sI (by decide) kp_rf)) (fun _ _ => ?_)
    exact (sk_B_spot_305 h_ro).tr kp_rf
theorem sk_B_spot_269 {N : Nat} {ro : Nat → Int32 → Int32 → RSt → Option (Int32 × RSt)} {l1 : Int32} {l2 : Int32} {l3 : Int32} {l5 : Int32} {l6 : Int32} {l7 : Int32} {l8 : Int32} {l9 : Int32} {s1 : Int32} {u : RSt} (h_ro : ∀ q a b u, KP (ro q a b u) u) : KP (B_spot_269 N ro l1 l2 l3 l5 l6 l7 l8 l9 s1 u) u := by
  unfold B_spot_269
  refine KP_bn (sk_F_wrong.tr kp_rf) (fun _ _ => ?_)
  refine KP_if ?_ ?_
  · skip
    refine KP_bn (sk_F_cost.tr kp_rf) (fun _ _ => ?_)
    exact (sk_B_spot_283 h_ro).tr kp_rf
  · skip
    exact (sk_B_spot_283 h_ro).tr kp_rf
theorem sk_B_spot_268 {N : Nat} {ro : Nat → Int32 → Int32 → RSt → Option (Int32 × RSt)} {l1 : Int32} {l2 : Int32} {l3 : Int32} {l5 : Int32} {l6 : Int32} {l7 : Int32} {l8 : Int32} {l9 : Int32} {u : RSt} (h_ro : ∀ q a b u, KP (ro q a b u) u) : KP (B_spot_268 N ro l1 l2 l3 l5 l6 l7 l8 l9 u) u := by
  unfold B_spot_268
  exact (sk_B_spot_269 h_ro).tr kp_rf
theorem sk_B_spot_233 {N : Nat} {ro : Nat → Int32 → Int32 → RSt → Option (Int32 × RSt)} {l1 : Int32} {l2 : Int32} {l3 : Int32} {l5 : Int32} {l6 : Int32} {l7 : Int32} {l8 : Int32} {l9 : Int32} {s1 : Int32} {u : RSt} (h_ro : ∀ q a b u, KP (ro q a b u) u) : KP (B_spot_233 N ro l1 l2 l3 l5 l6 l7 l8 l9 s1 u) u := by
  unfold B_spot_233
  refine KP_bn (sk_F_wrong.tr kp_rf) (fun _ _ => ?_)
  refine KP_if ?_ ?_
  · skip
    exact (sk_B_spot_268 h_ro).tr kp_rf
  · skip
    refine KP_if ?_ ?_
    · skip
      exact (sk_B_spot_268 h_ro).tr kp_rf
    · skip
      refine KP_if ?_ ?_
      · skip
        refine KP_rd (fun _ => ?_)
        refine KP_if ?_ ?_
        · skip
          exact (sk_B_spot_269 h_ro).tr kp_rf
        · skip
          exact (sk_B_spot_268 h_ro).tr kp_rf
      · skip
        exact (sk_B_spot_268 h_ro).tr kp_rf
theorem sk_B_spot_232 {N : Nat} {ro : Nat → Int32 → Int32 → RSt → Option (Int32 × RSt)} {l1 : Int32} {l2 : Int32} {l3 : Int32} {l5 : Int32} {l6 : Int32} {l7 : Int32} {l8 : Int32} {l9 : Int32} {u : RSt} (h_ro : ∀ q a b u, KP (ro q a b u) u) : KP (B_spot_232 N ro l1 l2 l3 l5 l6 l7 l8 l9 u) u := by
  unfold B_spot_232
  exact (sk_B_spot_233 h_ro).tr kp_rf
theorem sk_B_spot_223 {N : Nat} {ro : Nat → Int32 → Int32 → RSt → Option (Int32 × RSt)} {l1 : Int32} {l2 : Int32} {l3 : Int32} {l5 : Int32} {l6 : Int32} {l7 : Int32} {l8 : Int32} {l9 : Int32} {s1 : Int32} {u : RSt} (h_ro : ∀ q a b u, KP (ro q a b u) u) : KP (B_spot_223 N ro l1 l2 l3 l5 l6 l7 l8 l9 s1 u) u := by
  unfold B_spot_223
  refine KP_if ?_ ?_
  · skip
    exact (sk_B_spot_232 h_ro).tr kp_rf
  · skip
    exact (sk_B_spot_233 h_ro).tr kp_rf
theorem sk_B_spot_185 {N : Nat} {ro : Nat → Int32 → Int32 → RSt → Option (Int32 × RSt)} {l1 : Int32} {l2 : Int32} {l3 : Int32} {l5 : Int32} {l6 : Int32} {l7 : Int32} {s0 : Int32} {u : RSt} (h_ro : ∀ q a b u, KP (ro q a b u) u) : KP (B_spot_185 N ro l1 l2 l3 l5 l6 l7 s0 u) u := by
  unfold B_spot_185
  refine KP_bn (sk_F_isNext.tr kp_rf) (fun _ _ => ?_)
  refine KP_if ?_ ?_
  · skip
    exact (sk_B_spot_232 h_ro).tr kp_rf
  · skip
    refine KP_if ?_ ?_
    · skip
      refine KP_rd (fun _ => ?_)
      exact (sk_B_spot_223 h_ro).tr kp_rf
    · skip
      refine KP_rd (fun _ => ?_)
      exact (sk_B_spot_223 h_ro).tr kp_rf
theorem sk_B_spot_153 {N : Nat} {ro : Nat → Int32 → Int32 → RSt → Option (Int32 × RSt)} {l1 : Int32} {l2 : Int32} {l3 : Int32} {l5 : Int32} {l6 : Int32} {s0 : Int32} {u : RSt} (h_ro : ∀ q a b u, KP (ro q a b u) u) : KP (B_spot_153 N ro l1 l2 l3 l5 l6 s0 u) u := by
  unfold B_spot_153
  refine KP_if ?_ ?_
  · skip
    exact (sk_B_spot_185 h_ro).tr kp_rf
  · skip
    refine KP_if ?_ ?_
    · skip
      refine KP_rd (fun _ => ?_)
      exact (sk_B_spot_185 h_ro).tr kp_rf
    · skip
      refine KP_rd (fun _ => ?_)
      exact (sk_B_spot_185 h_ro).tr kp_rf
theorem sk_B_spot_108 {N : Nat} {ro : Nat → Int32 → Int32 → RSt → Option (Int32 × RSt)} {l1 : Int32} {l2 : Int32} {l3 : Int32} {l4 : Int32} {s0 : Int32} {u : RSt} (h_ro : ∀ q a b u, KP (ro q a b u) u) : KP (B_spot_108 N ro l1 l2 l3 l4 s0 u) u := by
  unfold B_spot_108
  refine KP_if ?_ ?_
  · skip
    exact (sk_B_spot_153 h_ro).tr kp_rf
  · skip
    refine KP_if ?_ ?_
    · skip
      refine KP_rd (fun _ => ?_)
      exact (sk_B_spot_153 h_ro).tr kp_rf
    · skip
      refine KP_rd (fun _ => ?_)
      exact (sk_B_spot_153 h_ro).tr kp_rf
theorem sk_B_spot_107 {N : Nat} {ro : Nat → Int32 → Int32 → RSt → Option (Int32 × RSt)} {l1 : Int32} {l2 : Int32} {l3 : Int32} {l4 : Int32} {u : RSt} (h_ro : ∀ q a b u, KP (ro q a b u) u) : KP (B_spot_107 N ro l1 l2 l3 l4 u) u := by
  unfold B_spot_107
  exact (sk_B_spot_108 h_ro).tr kp_rf
theorem sk_B_spot_84 {N : Nat} {ro : Nat → Int32 → Int32 → RSt → Option (Int32 × RSt)} {l1 : Int32} {l2 : Int32} {l3 : Int32} {l4 : Int32} {s1 : Int32} {u : RSt} (h_ro : ∀ q a b u, KP (ro q a b u) u) : KP (B_spot_84 N ro l1 l2 l3 l4 s1 u) u := by
  unfold B_spot_84
  refine KP_bn (sk_F_wrong.tr kp_rf) (fun _ _ => ?_)
  refine KP_if ?_ ?_
  · skip
    exact (sk_B_spot_107 h_ro).tr kp_rf
  · skip
    refine KP_if ?_ ?_
    · skip
      exact (sk_B_spot_108 h_ro).tr kp_rf
    · skip
      exact (sk_B_spot_107 h_ro).tr kp_rf
theorem sk_B_spot_83 {N : Nat} {ro : Nat → Int32 → Int32 → RSt → Option (Int32 × RSt)} {l1 : Int32} {l2 : Int32} {l3 : Int32} {l4 : Int32} {u : RSt} (h_ro : ∀ q a b u, KP (ro q a b u) u) : KP (B_spot_83 N ro l1 l2 l3 l4 u) u := by
  unfold B_spot_83
  exact (sk_B_spot_84 h_ro).tr kp_rf
theorem sk_B_spot_65 {N : Nat} {ro : Nat → Int32 → Int32 → RSt → Option (Int32 × RSt)} {l1 : Int32} {l2 : Int32} {l3 : Int32} {s0 : Int32} {u : RSt} (h_ro : ∀ q a b u, KP (ro q a b u) u) : KP (B_spot_65 N ro l1 l2 l3 s0 u) u := by
  unfold B_spot_65
  refine KP_if ?_ ?_
  · skip
    refine KP_if ?_ ?_
    · skip
      exact (sk_B_spot_84 h_ro).tr kp_rf
    · skip
      exact (sk_B_spot_83 h_ro).tr kp_rf
  · skip
    exact (sk_B_spot_83 h_ro).tr kp_rf
theorem sk_B_spot_64 {N : Nat} {ro : Nat → Int32 → Int32 → RSt → Option (Int32 × RSt)} {l1 : Int32} {l2 : Int32} {l3 : Int32} {u : RSt} (h_ro : ∀ q a b u, KP (ro q a b u) u) : KP (B_spot_64 N ro l1 l2 l3 u) u := by
  unfold B_spot_64
  exact (sk_B_spot_65 h_ro).tr kp_rf
theorem sk_B_spot_43 {N : Nat} {ro : Nat → Int32 → Int32 → RSt → Option (Int32 × RSt)} {l1 : Int32} {l2 : Int32} {s0 : Int32} {u : RSt} (h_ro : ∀ q a b u, KP (ro q a b u) u) : KP (B_spot_43 N ro l1 l2 s0 u) u := by
  unfold B_spot_43
  refine KP_if ?_ ?_
  · skip
    refine KP_if ?_ ?_
    · skip
      exact (sk_B_spot_64 h_ro).tr kp_rf
    · skip
      refine KP_bn (sk_F_own.tr kp_rf) (fun _ _ => ?_)
      exact (sk_B_spot_65 h_ro).tr kp_rf
  · skip
    exact (sk_B_spot_64 h_ro).tr kp_rf
theorem sk_B_spot_0 {N : Nat} {ro : Nat → Int32 → Int32 → RSt → Option (Int32 × RSt)} {l1 : Int32} {u : RSt} (h_ro : ∀ q a b u, KP (ro q a b u) u) : KP (B_spot_0 N ro l1 u) u := by
  unfold B_spot_0
  refine KP_rd (fun _ => ?_)
  refine KP_if ?_ ?_
  · skip
    exact (sk_B_spot_43 h_ro).tr kp_rf
  · skip
    refine KP_rd (fun _ => ?_)
    refine KP_rd (fun _ => ?_)
    refine KP_bn (sk_F_slotOf.tr kp_rf) (fun _ _ => ?_)
    exact (sk_B_spot_43 h_ro).tr kp_rf
theorem sk_F_spot {N : Nat} {ro : Nat → Int32 → Int32 → RSt → Option (Int32 × RSt)} {l1 : Int32} {u : RSt} (h_ro : ∀ q a b u, KP (ro q a b u) u) : KP (F_spot N ro l1 u) u := by
  unfold F_spot
  exact (sk_B_spot_0 h_ro).tr kp_rf
theorem sk_FE_ {N : Nat} : ∀ (d q : Nat) (a b : Int32) (u : RSt), KP (FE_ N d q a b u) u := by
  intro d
  induction d with
  | zero => exact fun q a b u => KP_none
  | succ d ih =>
    intro q a b u
    show KP (if q = 0 then F_expression N (FE_ N d) u else if q = 1 then F_two N (FE_ N d) a u else if q = 2 then F_operand N (FE_ N d) u else if q = 3 then F_signed N (FE_ N d) a u else if q = 4 then F_cast N (FE_ N d) u else if q = 5 then F_call N (FE_ N d) u else if q = 6 then F_inner N (FE_ N d) u else if q = 7 then F_index N (FE_ N d) a b u else if q = 8 then F_spot N (FE_ N d) a u else none) u
    refine KP_if (sk_F_expression ih) ?_
    refine KP_if (sk_F_two ih) ?_
    refine KP_if (sk_F_operand ih) ?_
    refine KP_if (sk_F_signed ih) ?_
    refine KP_if (sk_F_cast ih) ?_
    refine KP_if (sk_F_call ih) ?_
    refine KP_if (sk_F_inner ih) ?_
    refine KP_if (sk_F_index ih) ?_
    refine KP_if (sk_F_spot ih) ?_
    exact KP_none
theorem sk_G_expression {N : Nat} {u : RSt} : KP (G_expression N u) u := sk_FE_ _ _ _ _ _
theorem sk_G_spot {N : Nat} {l1 : Int32} {u : RSt} : KP (G_spot N l1 u) u := sk_FE_ _ _ _ _ _
theorem sk_B_returns_136 {N : Nat} {u : RSt}  : KP (B_returns_136 N u) u := by
  unfold B_returns_136
  refine KP_bn (sk_F_take.tr kp_rf) (fun _ _ => ?_)
  exact KP_some kp_rf
theorem sk_B_returns_124 {N : Nat} {u : RSt}  : KP (B_returns_124 N u) u := by
  unfold B_returns_124
  exact sk_B_returns_136.tr kp_rf
theorem sk_B_returns_46 {N : Nat} {l1 : Int32} {l2 : Int32} {s1 : Int32} {u : RSt}  : KP (B_returns_46 N l1 l2 s1 u) u := by
  unfold B_returns_46
  refine KP_bn (sk_F_wrong.tr kp_rf) (fun _ _ => ?_)
  refine KP_if ?_ ?_
  · skip
    refine KP_bn (sk_F_emit.tr kp_rf) (fun _ _ => ?_)
    exact sk_B_returns_136.tr kp_rf
  · skip
    refine KP_rd (fun _ => ?_)
    refine KP_bn (sk_G_expression.tr kp_rf) (fun _ _ => ?_)
    refine KP_if ?_ ?_
    · skip
      exact sk_B_returns_124.tr kp_rf
    · skip
      refine KP_if ?_ ?_
      · skip
        refine KP_rd (fun _ => ?_)
        refine KP_bn (sk_F_isTooWide.tr kp_rf) (fun _ _ => ?_)
        refine KP_bn (sk_F_wrong.tr kp_rf) (fun _ _ => ?_)
        refine KP_rd (fun _ => ?_)
        refine KP_bn (sk_F_emit.tr kp_rf) (fun _ _ => ?_)
        exact sk_B_returns_124.tr kp_rf
      · skip
        exact sk_B_returns_124.tr kp_rf
theorem sk_B_returns_38 {N : Nat} {l1 : Int32} {l2 : Int32} {s1 : Int32} {s2 : Int32} {u : RSt}  : KP (B_returns_38 N l1 l2 s1 s2 u) u := by
  unfold B_returns_38
  refine KP_if ?_ ?_
  · skip
    exact sk_B_returns_46.tr kp_rf
  · skip
    exact sk_B_returns_46.tr kp_rf
theorem sk_B_returns_22 {N : Nat} {l1 : Int32} {s0 : Int32} {u : RSt}  : KP (B_returns_22 N l1 s0 u) u := by
  unfold B_returns_22
  refine KP_if ?_ ?_
  · skip
    exact sk_B_returns_38.tr kp_rf
  · skip
    exact sk_B_returns_38.tr kp_rf
theorem sk_B_returns_21 {N : Nat} {l1 : Int32} {u : RSt}  : KP (B_returns_21 N l1 u) u := by
  unfold B_returns_21
  exact sk_B_returns_22.tr kp_rf
theorem sk_B_returns_0 {N : Nat} {l1 : Int32} {u : RSt}  : KP (B_returns_0 N l1 u) u := by
  unfold B_returns_0
  refine KP_if ?_ ?_
  · skip
    refine KP_bn (sk_F_is.tr kp_rf) (fun _ _ => ?_)
    refine KP_if ?_ ?_
    · skip
      exact sk_B_returns_22.tr kp_rf
    · skip
      exact sk_B_returns_21.tr kp_rf
  · skip
    exact sk_B_returns_21.tr kp_rf
theorem sk_F_returns {N : Nat} {l1 : Int32} {u : RSt}  : KP (F_returns N l1 u) u := by
  unfold F_returns
  exact sk_B_returns_0.tr kp_rf
theorem sk_B_runs_275 {N : Nat} {R_117 : Int32 × Int32 × Int32 × Int32 × Int32 × RSt → Option (Int32 × RSt)} {l1 : Int32} {l3 : Int32} {l4 : Int32} {l5 : Int32} {u : RSt} (h_R_117 : ∀ a, KP (R_117 a) a.2.2.2.2.2) : KP (B_runs_275 N R_117 l1 l3 l4 l5 u) u := by
  unfold B_runs_275
  refine KP_bn (sk_F_has.tr kp_rf) (fun _ _ => ?_)
  exact (h_R_117 _).tr kp_rf
theorem sk_B_runs_215 {N : Nat} {R_117 : Int32 × Int32 × Int32 × Int32 × Int32 × RSt → Option (Int32 × RSt)} {l1 : Int32} {l3 : Int32} {l4 : Int32} {l5 : Int32} {l7 : Int32} {l8 : Int32} {s0 : Int32} {u : RSt} (h_R_117 : ∀ a, KP (R_117 a) a.2.2.2.2.2) : KP (B_runs_215 N R_117 l1 l3 l4 l5 l7 l8 s0 u) u := by
  unfold B_runs_215
  refine KP_rd (fun _ => ?_)
  refine KP_bn (sk_G_expression.tr kp_rf) (fun _ _ => ?_)
  refine KP_if ?_ ?_
  · skip
    exact (sk_B_runs_275 h_R_117).tr kp_rf
  · skip
    refine KP_rd (fun _ => ?_)
    refine KP_bn (sk_F_isTooWide.tr kp_rf) (fun _ _ => ?_)
    refine KP_bn (sk_F_wrong.tr kp_rf) (fun _ _ => ?_)
    refine KP_rd (fun _ => ?_)
    refine KP_bn (sk_F_emit.tr kp_rf) (fun _ _ => ?_)
    exact (sk_B_runs_275 h_R_117).tr kp_rf
theorem sk_B_runs_183 {N : Nat} {R_117 : Int32 × Int32 × Int32 × Int32 × Int32 × RSt → Option (Int32 × RSt)} {l1 : Int32} {l3 : Int32} {l4 : Int32} {l5 : Int32} {l7 : Int32} {s0 : Int32} {u : RSt} (h_R_117 : ∀ a, KP (R_117 a) a.2.2.2.2.2) : KP (B_runs_183 N R_117 l1 l3 l4 l5 l7 s0 u) u := by
  unfold B_runs_183
  refine KP_if ?_ ?_
  · skip
    exact (sk_B_runs_215 h_R_117).tr kp_rf
  · skip
    refine KP_rd (fun _ => ?_)
    refine KP_rd (fun _ => ?_)
    refine KP_bn (sk_F_emit.tr kp_rf) (fun _ _ => ?_)
    exact (sk_B_runs_215 h_R_117).tr kp_rf
theorem sk_B_runs_153 {N : Nat} {R_117 : Int32 × Int32 × Int32 × Int32 × Int32 × RSt → Option (Int32 × RSt)} {l1 : Int32} {l3 : Int32} {l4 : Int32} {l5 : Int32} {s0 : Int32} {u : RSt} (h_R_117 : ∀ a, KP (R_117 a) a.2.2.2.2.2) : KP (B_runs_153 N R_117 l1 l3 l4 l5 s0 u) u := by
  unfold B_runs_153
  refine KP_if ?_ ?_
  · skip
    exact (sk_B_runs_183 h_R_117).tr kp_rf
  · skip
    refine KP_rd (fun _ => ?_)
    exact (sk_B_runs_183 h_R_117).tr kp_rf
theorem sk_B_runs_152 {N : Nat} {R_117 : Int32 × Int32 × Int32 × Int32 × Int32 × RSt → Option (Int32 × RSt)} {l1 : Int32} {l3 : Int32} {l4 : Int32} {l5 : Int32} {u : RSt} (h_R_117 : ∀ a, KP (R_117 a) a.2.2.2.2.2) : KP (B_runs_152 N R_117 l1 l3 l4 l5 u) u := by
  unfold B_runs_152
  exact (sk_B_runs_153 h_R_117).tr kp_rf
theorem sk_B_runs_344 {N : Nat} {u : RSt}  : KP (B_runs_344 N u) u := by
  unfold B_runs_344
  refine KP_bn (sk_F_take.tr kp_rf) (fun _ _ => ?_)
  exact KP_some kp_rf
theorem sk_B_runs_329 {N : Nat} {l1 : Int32} {l3 : Int32} {s1 : Int32} {u : RSt}  : KP (B_runs_329 N l1 l3 s1 u) u := by
  unfold B_runs_329
  refine KP_bn (sk_F_wrong.tr kp_rf) (fun _ _ => ?_)
  refine KP_bn (sk_F_emit.tr kp_rf) (fun _ _ => ?_)
  exact sk_B_runs_344.tr kp_rf
theorem sk_B_runs_117 {N : Nat} {R_117 : Int32 × Int32 × Int32 × Int32 × Int32 × RSt → Option (Int32 × RSt)} {l1 : Int32} {l3 : Int32} {l4 : Int32} {l5 : Int32} {l6 : Int32} {u : RSt} (h_R_117 : ∀ a, KP (R_117 a) a.2.2.2.2.2) : KP (B_runs_117 N R_117 l1 l3 l4 l5 l6 u) u := by
  unfold B_runs_117
  refine KP_if ?_ ?_
  · skip
    refine KP_bn (sk_F_ends.tr kp_rf) (fun _ _ => ?_)
    refine KP_if ?_ ?_
    · skip
      exact sk_B_runs_344.tr kp_rf
    · skip
      refine KP_if ?_ ?_
      · skip
        refine KP_rd (fun _ => ?_)
        refine KP_if ?_ ?_
        · skip
          exact sk_B_runs_329.tr kp_rf
        · skip
          exact sk_B_runs_329.tr kp_rf
      · skip
        exact sk_B_runs_344.tr kp_rf
  · skip
    refine KP_if ?_ ?_
    · skip
      exact (sk_B_runs_152 h_R_117).tr kp_rf
    · skip
      refine KP_if ?_ ?_
      · skip
        refine KP_rd (fun _ => ?_)
        refine KP_if ?_ ?_
        · skip
          exact (sk_B_runs_152 h_R_117).tr kp_rf
        · skip
          exact (sk_B_runs_153 h_R_117).tr kp_rf
      · skip
        exact (sk_B_runs_152 h_R_117).tr kp_rf
theorem sk_LP_runs_117 {N : Nat}  (n : Nat) : ∀ a : Int32 × Int32 × Int32 × Int32 × Int32 × RSt, KP (LP_runs_117 N n a) a.2.2.2.2.2 := by
  induction n with
  | zero => exact fun a r z e => by have e : (none : Option _) = some (r, z) := e; cases e
  | succ n ih =>
    intro a
    show KP (B_runs_117 N (LP_runs_117 N n) a.1 a.2.1 a.2.2.1 a.2.2.2.1 a.2.2.2.2.1 a.2.2.2.2.2) a.2.2.2.2.2
    exact sk_B_runs_117 ih
theorem sk_B_runs_115 {N : Nat} {l1 : Int32} {l3 : Int32} {l4 : Int32} {l5 : Int32} {s0 : Int32} {u : RSt}  : KP (B_runs_115 N l1 l3 l4 l5 s0 u) u := by
  unfold B_runs_115
  exact (sk_LP_runs_117  _ _).tr kp_rf
theorem sk_B_runs_114 {N : Nat} {l1 : Int32} {l3 : Int32} {l4 : Int32} {l5 : Int32} {u : RSt}  : KP (B_runs_114 N l1 l3 l4 l5 u) u := by
  unfold B_runs_114
  exact sk_B_runs_115.tr kp_rf
theorem sk_B_runs_81 {N : Nat} {l1 : Int32} {l3 : Int32} {s0 : Int32} {u : RSt}  : KP (B_runs_81 N l1 l3 s0 u) u := by
  unfold B_runs_81
  refine KP_bn (sk_F_begins.tr kp_rf) (fun _ _ => ?_)
  refine KP_if ?_ ?_
  · skip
    refine KP_bn (sk_F_is.tr kp_rf) (fun _ _ => ?_)
    refine KP_if ?_ ?_
    · skip
      exact sk_B_runs_115.tr kp_rf
    · skip
      exact sk_B_runs_114.tr kp_rf
  · skip
    exact sk_B_runs_114.tr kp_rf
theorem sk_B_runs_80 {N : Nat} {l1 : Int32} {l3 : Int32} {u : RSt}  : KP (B_runs_80 N l1 l3 u) u := by
  unfold B_runs_80
  exact sk_B_runs_81.tr kp_rf
theorem sk_B_runs_27 {N : Nat} {l1 : Int32} {l2 : Int32} {s1 : Int32} {u : RSt}  : KP (B_runs_27 N l1 l2 s1 u) u := by
  unfold B_runs_27
  refine KP_bn (sk_F_wrong.tr kp_rf) (fun _ _ => ?_)
  refine KP_bn (sk_F_cost.tr kp_rf) (fun _ _ => ?_)
  refine KP_pu ?_
  refine KP_if ?_ ?_
  · skip
    exact sk_B_runs_80.tr (ks_sI (by decide) kp_rf)
  · skip
    refine KP_if ?_ ?_
    · skip
      refine KP_rd (fun _ => ?_)
      exact sk_B_runs_81.tr (ks_sI (by decide) kp_rf)
    · skip
      exact sk_B_runs_80.tr (ks_sI (by decide) kp_rf)
theorem sk_B_runs_0 {N : Nat} {u : RSt}  : KP (B_runs_0 N u) u := by
  unfold B_runs_0
  refine KP_rd (fun _ => ?_)
  refine KP_bn (sk_F_own.tr kp_rf) (fun _ _ => ?_)
  refine KP_if ?_ ?_
  · skip
    exact sk_B_runs_27.tr kp_rf
  · skip
    exact sk_B_runs_27.tr kp_rf
theorem sk_F_runs {N : Nat} {u : RSt}  : KP (F_runs N u) u := by
  unfold F_runs
  exact sk_B_runs_0.tr kp_rf
theorem sk_B_sets_442 {N : Nat} {u : RSt}  : KP (B_sets_442 N u) u := by
  unfold B_sets_442
  refine KP_bn (sk_F_take.tr kp_rf) (fun _ _ => ?_)
  exact KP_some kp_rf
theorem sk_B_sets_233 {N : Nat} {s0 : Int32} {u : RSt}  : KP (B_sets_233 N s0 u) u := by
  unfold B_sets_233
  exact sk_B_sets_442.tr kp_rf
theorem sk_B_sets_203 {N : Nat} {l1 : Int32} {l2 : Int32} {l4 : Int32} {s1 : Int32} {u : RSt}  : KP (B_sets_203 N l1 l2 l4 s1 u) u := by
  unfold B_sets_203
  refine KP_bn (sk_F_wrong.tr kp_rf) (fun _ _ => ?_)
  refine KP_if ?_ ?_
  · skip
    refine KP_bn (sk_F_emit.tr kp_rf) (fun _ _ => ?_)
    exact sk_B_sets_233.tr kp_rf
  · skip
    refine KP_bn (sk_F_emit.tr kp_rf) (fun _ _ => ?_)
    exact sk_B_sets_233.tr kp_rf
theorem sk_B_sets_202 {N : Nat} {l1 : Int32} {l2 : Int32} {l4 : Int32} {u : RSt}  : KP (B_sets_202 N l1 l2 l4 u) u := by
  unfold B_sets_202
  exact sk_B_sets_203.tr kp_rf
theorem sk_B_sets_417 {N : Nat} {l1 : Int32} {l4 : Int32} {l8 : Int32} {s0 : Int32} {u : RSt}  : KP (B_sets_417 N l1 l4 l8 s0 u) u := by
  unfold B_sets_417
  refine KP_bn (sk_F_joined.tr kp_rf) (fun _ _ => ?_)
  refine KP_bn (sk_F_emit.tr kp_rf) (fun _ _ => ?_)
  exact sk_B_sets_442.tr kp_rf
theorem sk_B_sets_323 {N : Nat} {l1 : Int32} {l4 : Int32} {l8 : Int32} {u : RSt}  : KP (B_sets_323 N l1 l4 l8 u) u := by
  unfold B_sets_323
  exact sk_B_sets_417.tr kp_rf
theorem sk_B_sets_343 {N : Nat} {l1 : Int32} {l4 : Int32} {l8 : Int32} {u : RSt}  : KP (B_sets_343 N l1 l4 l8 u) u := by
  unfold B_sets_343
  exact sk_B_sets_417.tr kp_rf
theorem sk_B_sets_270 {N : Nat} {l1 : Int32} {l3 : Int32} {l4 : Int32} {l8 : Int32} {u : RSt}  : KP (B_sets_270 N l1 l3 l4 l8 u) u := by
  unfold B_sets_270
  refine KP_if ?_ ?_
  · skip
    exact sk_B_sets_417.tr kp_rf
  · skip
    refine KP_if ?_ ?_
    · skip
      exact sk_B_sets_417.tr kp_rf
    · skip
      refine KP_if ?_ ?_
      · skip
        exact sk_B_sets_417.tr kp_rf
      · skip
        refine KP_if ?_ ?_
        · skip
          exact sk_B_sets_323.tr kp_rf
        · skip
          refine KP_if ?_ ?_
          · skip
            exact sk_B_sets_323.tr kp_rf
          · skip
            refine KP_if ?_ ?_
            · skip
              exact sk_B_sets_343.tr kp_rf
            · skip
              refine KP_if ?_ ?_
              · skip
                exact sk_B_sets_343.tr kp_rf
              · skip
                refine KP_if ?_ ?_
                · skip
                  exact sk_B_sets_417.tr kp_rf
                · skip
                  refine KP_if ?_ ?_
                  · skip
                    exact sk_B_sets_417.tr kp_rf
                  · skip
                    refine KP_if ?_ ?_
                    · skip
                      exact sk_B_sets_417.tr kp_rf
                    · skip
                      refine KP_if ?_ ?_
                      · skip
                        exact sk_B_sets_417.tr kp_rf
                      · skip
                        refine KP_if ?_ ?_
                        · skip
                          exact sk_B_sets_417.tr kp_rf
                        · skip
                          exact sk_B_sets_417.tr kp_rf
theorem sk_B_sets_145 {N : Nat} {l1 : Int32} {l2 : Int32} {l3 : Int32} {l4 : Int32} {l5 : Int32} {s1 : Int32} {u : RSt}  : KP (B_sets_145 N l1 l2 l3 l4 l5 s1 u) u := by
  unfold B_sets_145
  refine KP_bn (sk_F_wrong.tr kp_rf) (fun _ _ => ?_)
  refine KP_if ?_ ?_
  · skip
    refine KP_pu ?_
    refine KP_if ?_ ?_
    · skip
      refine KP_bn (sk_G_expression.tr (ks_sI (by decide) kp_rf)) (fun _ _ => ?_)
      refine KP_if ?_ ?_
      · skip
        refine KP_bn (sk_F_isTooWide.tr kp_rf) (fun _ _ => ?_)
        refine KP_if ?_ ?_
        · skip
          exact sk_B_sets_202.tr kp_rf
        · skip
          exact sk_B_sets_203.tr kp_rf
      · skip
        exact sk_B_sets_202.tr kp_rf
    · skip
      refine KP_bn (sk_F_emit.tr (ks_sI (by decide) kp_rf)) (fun _ _ => ?_)
      refine KP_if ?_ ?_
      · skip
        refine KP_bn (sk_F_push.tr kp_rf) (fun _ _ => ?_)
        exact sk_B_sets_270.tr kp_rf
      · skip
        refine KP_bn (sk_G_expression.tr kp_rf) (fun _ _ => ?_)
        exact sk_B_sets_270.tr kp_rf
  · skip
    exact KP_some kp_rf
theorem sk_B_sets_144 {N : Nat} {l1 : Int32} {l2 : Int32} {l3 : Int32} {l4 : Int32} {l5 : Int32} {u : RSt}  : KP (B_sets_144 N l1 l2 l3 l4 l5 u) u := by
  unfold B_sets_144
  exact sk_B_sets_145.tr kp_rf
theorem sk_B_sets_127 {N : Nat} {l1 : Int32} {l2 : Int32} {l3 : Int32} {l4 : Int32} {l5 : Int32} {u : RSt}  : KP (B_sets_127 N l1 l2 l3 l4 l5 u) u := by
  unfold B_sets_127
  refine KP_if ?_ ?_
  · skip
    exact sk_B_sets_144.tr kp_rf
  · skip
    refine KP_if ?_ ?_
    · skip
      exact sk_B_sets_144.tr kp_rf
    · skip
      exact sk_B_sets_145.tr kp_rf
theorem sk_B_sets_97 {N : Nat} {l1 : Int32} {l2 : Int32} {l3 : Int32} {l4 : Int32} {l5 : Int32} {s0 : Int32} {u : RSt}  : KP (B_sets_97 N l1 l2 l3 l4 l5 s0 u) u := by
  unfold B_sets_97
  refine KP_if ?_ ?_
  · skip
    refine KP_if ?_ ?_
    · skip
      exact sk_B_sets_127.tr kp_rf
    · skip
      refine KP_if ?_ ?_
      · skip
        refine KP_if ?_ ?_
        · skip
          refine KP_bn (sk_F_stuck.tr kp_rf) (fun _ _ => ?_)
          exact sk_B_sets_127.tr kp_rf
        · skip
          exact sk_B_sets_127.tr kp_rf
      · skip
        exact sk_B_sets_127.tr kp_rf
  · skip
    exact sk_B_sets_127.tr kp_rf
theorem sk_B_sets_92 {N : Nat} {l1 : Int32} {l2 : Int32} {l3 : Int32} {l4 : Int32} {l5 : Int32} {u : RSt}  : KP (B_sets_92 N l1 l2 l3 l4 l5 u) u := by
  unfold B_sets_92
  exact sk_B_sets_97.tr kp_rf
theorem sk_B_sets_76 {N : Nat} {l1 : Int32} {l2 : Int32} {l3 : Int32} {l4 : Int32} {s0 : Int32} {u : RSt}  : KP (B_sets_76 N l1 l2 l3 l4 s0 u) u := by
  unfold B_sets_76
  refine KP_if ?_ ?_
  · skip
    exact sk_B_sets_92.tr kp_rf
  · skip
    refine KP_if ?_ ?_
    · skip
      exact sk_B_sets_92.tr kp_rf
    · skip
      exact sk_B_sets_97.tr kp_rf
theorem sk_B_sets_71 {N : Nat} {l1 : Int32} {l2 : Int32} {l3 : Int32} {l4 : Int32} {u : RSt}  : KP (B_sets_71 N l1 l2 l3 l4 u) u := by
  unfold B_sets_71
  exact sk_B_sets_76.tr kp_rf
theorem sk_B_sets_50 {N : Nat} {l1 : Int32} {l2 : Int32} {l3 : Int32} {l4 : Int32} {u : RSt}  : KP (B_sets_50 N l1 l2 l3 l4 u) u := by
  unfold B_sets_50
  refine KP_if ?_ ?_
  · skip
    exact sk_B_sets_71.tr kp_rf
  · skip
    refine KP_if ?_ ?_
    · skip
      exact sk_B_sets_71.tr kp_rf
    · skip
      refine KP_if ?_ ?_
      · skip
        exact sk_B_sets_71.tr kp_rf
      · skip
        exact sk_B_sets_76.tr kp_rf
theorem sk_B_sets_0 {N : Nat} {u : RSt}  : KP (B_sets_0 N u) u := by
  unfold B_sets_0
  refine KP_bn (sk_G_spot.tr kp_rf) (fun _ _ => ?_)
  refine KP_rd (fun _ => ?_)
  refine KP_rd (fun _ => ?_)
  refine KP_if ?_ ?_
  · skip
    exact sk_B_sets_50.tr kp_rf
  · skip
    refine KP_if ?_ ?_
    · skip
      exact sk_B_sets_71.tr kp_rf
    · skip
      exact sk_B_sets_50.tr kp_rf
theorem sk_F_sets {N : Nat} {u : RSt}  : KP (F_sets N u) u := by
  unfold F_sets
  exact sk_B_sets_0.tr kp_rf
theorem sk_B_body_31 {N : Nat} {ro : Nat → Int32 → Int32 → RSt → Option (Int32 × RSt)} {u : RSt} (h_ro : ∀ q a b u, KP (ro q a b u) u) : KP (B_body_31 N ro u) u := by
  unfold B_body_31
  refine KP_bn (sk_F_ends.tr kp_rf) (fun _ _ => ?_)
  exact KP_some kp_rf
theorem sk_B_body_7 {N : Nat} {ro : Nat → Int32 → Int32 → RSt → Option (Int32 × RSt)} {R_7 : RSt → Option (Int32 × RSt)} {u : RSt} (h_ro : ∀ q a b u, KP (ro q a b u) u) (h_R_7 : ∀ a, KP (R_7 a) a) : KP (B_body_7 N ro R_7 u) u := by
  unfold B_body_7
  refine KP_if ?_ ?_
  · skip
    refine KP_bn (sk_F_is.tr kp_rf) (fun _ _ => ?_)
    refine KP_if ?_ ?_
    · skip
      refine KP_bn ((h_ro _ _ _ _).tr kp_rf) (fun _ _ => ?_)
      exact (h_R_7 _).tr kp_rf
    · skip
      exact (sk_B_body_31 h_ro).tr kp_rf
  · skip
    exact (sk_B_body_31 h_ro).tr kp_rf
theorem sk_LP_body_7 {N : Nat} {ro : Nat → Int32 → Int32 → RSt → Option (Int32 × RSt)} (h_ro : ∀ q a b u, KP (ro q a b u) u) (n : Nat) : ∀ a : RSt, KP (LP_body_7 N ro n a) a := by
  induction n with
  | zero => exact fun a r z e => by have e : (none : Option _) = some (r, z) := e; cases e
  | succ n ih =>
    intro a
    show KP (B_body_7 N ro (LP_body_7 N ro n) a) a
    exact sk_B_body_7 h_ro ih
theorem sk_B_body_0 {N : Nat} {ro : Nat → Int32 → Int32 → RSt → Option (Int32 × RSt)} {u : RSt} (h_ro : ∀ q a b u, KP (ro q a b u) u) : KP (B_body_0 N ro u) u := by
  unfold B_body_0
  refine KP_bn (sk_F_begins.tr kp_rf) (fun _ _ => ?_)
  exact (sk_LP_body_7 h_ro _ _).tr kp_rf
theorem sk_F_body {N : Nat} {ro : Nat → Int32 → Int32 → RSt → Option (Int32 × RSt)} {u : RSt} (h_ro : ∀ q a b u, KP (ro q a b u) u) : KP (F_body N ro u) u := by
  unfold F_body
  exact (sk_B_body_0 h_ro).tr kp_rf
theorem sk_B_stat_66 {N : Nat} {ro : Nat → Int32 → Int32 → RSt → Option (Int32 × RSt)} {l1 : Int32} {l2 : Int32} {s0 : Int32} {u : RSt} (h_ro : ∀ q a b u, KP (ro q a b u) u) : KP (B_stat_66 N ro l1 l2 s0 u) u := by
  unfold B_stat_66
  refine KP_if ?_ ?_
  · skip
    refine KP_bn (sk_F_stuck.tr kp_rf) (fun _ _ => ?_)
    exact KP_some kp_rf
  · skip
    refine KP_bn (sk_F_cost.tr kp_rf) (fun _ _ => ?_)
    refine KP_if ?_ ?_
    · skip
      refine KP_bn (sk_F_isNext.tr kp_rf) (fun _ _ => ?_)
      refine KP_if ?_ ?_
      · skip
        refine KP_bn (sk_F_sets.tr kp_rf) (fun _ _ => ?_)
        exact KP_some kp_rf
      · skip
        refine KP_bn (sk_F_runs.tr kp_rf) (fun _ _ => ?_)
        exact KP_some kp_rf
    · skip
      refine KP_pu ?_
      refine KP_if ?_ ?_
      · skip
        refine KP_bn ((h_ro _ _ _ _).tr (ks_sI (by decide) kp_rf)) (fun _ _ => ?_)
        exact KP_some kp_rf
      · skip
        refine KP_if ?_ ?_
        · skip
          refine KP_bn ((h_ro _ _ _ _).tr (ks_sI (by decide) kp_rf)) (fun _ _ => ?_)
          exact KP_some kp_rf
        · skip
          refine KP_if ?_ ?_
          · skip
            refine KP_bn ((h_ro _ _ _ _).tr (ks_sI (by decide) kp_rf)) (fun _ _ => ?_)
            exact KP_some kp_rf
          · skip
            refine KP_if ?_ ?_
            · skip
              refine KP_bn ((h_ro _ _ _ _).tr (ks_sI (by decide) kp_rf)) (fun _ _ => ?_)
              exact KP_some kp_rf
            · skip
              refine KP_if ?_ ?_
              · skip
                refine KP_bn (sk_F_leaves.tr (ks_sI (by decide) kp_rf)) (fun _ _ => ?_)
                exact KP_some kp_rf
              · skip
                refine KP_if ?_ ?_
                · skip
                  refine KP_bn (sk_F_leaves.tr (ks_sI (by decide) kp_rf)) (fun _ _ => ?_)
                  exact KP_some kp_rf
                · skip
                  refine KP_if ?_ ?_
                  · skip
                    refine KP_bn (sk_F_returns.tr (ks_sI (by decide) kp_rf)) (fun _ _ => ?_)
                    exact KP_some kp_rf
                  · skip
                    refine KP_bn (sk_G_expression.tr (ks_sI (by decide) kp_rf)) (fun _ _ => ?_)
                    refine KP_bn (sk_F_emit.tr kp_rf) (fun _ _ => ?_)
                    refine KP_bn (sk_F_take.tr kp_rf) (fun _ _ => ?_)
                    exact KP_some kp_rf
theorem sk_B_stat_61 {N : Nat} {ro : Nat → Int32 → Int32 → RSt → Option (Int32 × RSt)} {l1 : Int32} {l2 : Int32} {u : RSt} (h_ro : ∀ q a b u, KP (ro q a b u) u) : KP (B_stat_61 N ro l1 l2 u) u := by
  unfold B_stat_61
  exact (sk_B_stat_66 h_ro).tr kp_rf
theorem sk_B_stat_65 {N : Nat} {ro : Nat → Int32 → Int32 → RSt → Option (Int32 × RSt)} {l1 : Int32} {l2 : Int32} {u : RSt} (h_ro : ∀ q a b u, KP (ro q a b u) u) : KP (B_stat_65 N ro l1 l2 u) u := by
  unfold B_stat_65
  exact (sk_B_stat_66 h_ro).tr kp_rf
theorem sk_B_stat_0 {N : Nat} {ro : Nat → Int32 → Int32 → RSt → Option (Int32 × RSt)} {u : RSt} (h_ro : ∀ q a b u, KP (ro q a b u) u) : KP (B_stat_0 N ro u) u := by
  unfold B_stat_0
  refine KP_rd (fun _ => ?_)
  refine KP_rd (fun _ => ?_)
  refine KP_if ?_ ?_
  · skip
    exact (sk_B_stat_61 h_ro).tr kp_rf
  · skip
    refine KP_if ?_ ?_
    · skip
      exact (sk_B_stat_65 h_ro).tr kp_rf
    · skip
      refine KP_if ?_ ?_
      · skip
        exact (sk_B_stat_65 h_ro).tr kp_rf
      · skip
        refine KP_if ?_ ?_
        · skip
          exact (sk_B_stat_65 h_ro).tr kp_rf
        · skip
          refine KP_if ?_ ?_
          · skip
            exact (sk_B_stat_65 h_ro).tr kp_rf
          · skip
            refine KP_if ?_ ?_
            · skip
              exact (sk_B_stat_65 h_ro).tr kp_rf
            · skip
              refine KP_if ?_ ?_
              · skip
                exact (sk_B_stat_65 h_ro).tr kp_rf
              · skip
                exact (sk_B_stat_61 h_ro).tr kp_rf
theorem sk_F_stat {N : Nat} {ro : Nat → Int32 → Int32 → RSt → Option (Int32 × RSt)} {u : RSt} (h_ro : ∀ q a b u, KP (ro q a b u) u) : KP (F_stat N ro u) u := by
  unfold F_stat
  exact (sk_B_stat_0 h_ro).tr kp_rf
theorem sk_B_choice_120 {N : Nat} {ro : Nat → Int32 → Int32 → RSt → Option (Int32 × RSt)} {l3 : Int32} {u : RSt} (h_ro : ∀ q a b u, KP (ro q a b u) u) : KP (B_choice_120 N ro l3 u) u := by
  unfold B_choice_120
  refine KP_bn (sk_F_leadAll.tr kp_rf) (fun _ _ => ?_)
  exact KP_some kp_rf
theorem sk_B_choice_110 {N : Nat} {ro : Nat → Int32 → Int32 → RSt → Option (Int32 × RSt)} {l2 : Int32} {l3 : Int32} {u : RSt} (h_ro : ∀ q a b u, KP (ro q a b u) u) : KP (B_choice_110 N ro l2 l3 u) u := by
  unfold B_choice_110
  refine KP_if ?_ ?_
  · skip
    exact (sk_B_choice_120 h_ro).tr kp_rf
  · skip
    refine KP_bn (sk_F_lead.tr kp_rf) (fun _ _ => ?_)
    exact (sk_B_choice_120 h_ro).tr kp_rf
theorem sk_B_choice_95 {N : Nat} {ro : Nat → Int32 → Int32 → RSt → Option (Int32 × RSt)} {R_20 : Int32 × Int32 × RSt → Option (Int32 × RSt)} {l2 : Int32} {l3 : Int32} {l4 : Int32} {u : RSt} (h_ro : ∀ q a b u, KP (ro q a b u) u) (h_R_20 : ∀ a, KP (R_20 a) a.2.2) : KP (B_choice_95 N ro R_20 l2 l3 l4 u) u := by
  unfold B_choice_95
  refine KP_bn ((h_ro _ _ _ _).tr kp_rf) (fun _ _ => ?_)
  refine KP_if ?_ ?_
  · skip
    exact (h_R_20 _).tr kp_rf
  · skip
    exact (sk_B_choice_110 h_ro).tr kp_rf
theorem sk_B_choice_38 {N : Nat} {ro : Nat → Int32 → Int32 → RSt → Option (Int32 × RSt)} {R_20 : Int32 × Int32 × RSt → Option (Int32 × RSt)} {l2 : Int32} {l3 : Int32} {u : RSt} (h_ro : ∀ q a b u, KP (ro q a b u) u) (h_R_20 : ∀ a, KP (R_20 a) a.2.2) : KP (B_choice_38 N ro R_20 l2 l3 u) u := by
  unfold B_choice_38
  refine KP_bn (sk_F_is.tr kp_rf) (fun _ _ => ?_)
  refine KP_bn (sk_F_emit.tr kp_rf) (fun _ _ => ?_)
  refine KP_bn (sk_F_lead.tr kp_rf) (fun _ _ => ?_)
  refine KP_pu ?_
  refine KP_if ?_ ?_
  · skip
    refine KP_bn (sk_G_expression.tr (ks_sI (by decide) kp_rf)) (fun _ _ => ?_)
    refine KP_bn (sk_F_emit.tr kp_rf) (fun _ _ => ?_)
    exact (sk_B_choice_95 h_ro h_R_20).tr kp_rf
  · skip
    exact (sk_B_choice_95 h_ro h_R_20).tr (ks_sI (by decide) kp_rf)
theorem sk_B_choice_20 {N : Nat} {ro : Nat → Int32 → Int32 → RSt → Option (Int32 × RSt)} {R_20 : Int32 × Int32 × RSt → Option (Int32 × RSt)} {l2 : Int32} {l3 : Int32} {u : RSt} (h_ro : ∀ q a b u, KP (ro q a b u) u) (h_R_20 : ∀ a, KP (R_20 a) a.2.2) : KP (B_choice_20 N ro R_20 l2 l3 u) u := by
  unfold B_choice_20
  refine KP_bn (sk_F_is.tr kp_rf) (fun _ _ => ?_)
  refine KP_if ?_ ?_
  · skip
    refine KP_bn (sk_F_is.tr kp_rf) (fun _ _ => ?_)
    refine KP_if ?_ ?_
    · skip
      exact (sk_B_choice_110 h_ro).tr kp_rf
    · skip
      exact (sk_B_choice_38 h_ro h_R_20).tr kp_rf
  · skip
    exact (sk_B_choice_38 h_ro h_R_20).tr kp_rf
theorem sk_LP_choice_20 {N : Nat} {ro : Nat → Int32 → Int32 → RSt → Option (Int32 × RSt)} (h_ro : ∀ q a b u, KP (ro q a b u) u) (n : Nat) : ∀ a : Int32 × Int32 × RSt, KP (LP_choice_20 N ro n a) a.2.2 := by
  induction n with
  | zero => exact fun a r z e => by have e : (none : Option _) = some (r, z) := e; cases e
  | succ n ih =>
    intro a
    show KP (B_choice_20 N ro (LP_choice_20 N ro n) a.1 a.2.1 a.2.2) a.2.2
    exact sk_B_choice_20 h_ro ih
theorem sk_B_choice_0 {N : Nat} {ro : Nat → Int32 → Int32 → RSt → Option (Int32 × RSt)} {u : RSt} (h_ro : ∀ q a b u, KP (ro q a b u) u) : KP (B_choice_0 N ro u) u := by
  unfold B_choice_0
  refine KP_bn (sk_G_expression.tr kp_rf) (fun _ _ => ?_)
  refine KP_bn (sk_F_emit.tr kp_rf) (fun _ _ => ?_)
  refine KP_bn ((h_ro _ _ _ _).tr kp_rf) (fun _ _ => ?_)
  exact (sk_LP_choice_20 h_ro _ _).tr kp_rf
theorem sk_F_choice {N : Nat} {ro : Nat → Int32 → Int32 → RSt → Option (Int32 × RSt)} {u : RSt} (h_ro : ∀ q a b u, KP (ro q a b u) u) : KP (F_choice N ro u) u := by
  unfold F_choice
  exact (sk_B_choice_0 h_ro).tr kp_rf
theorem sk_B_again_0 {N : Nat} {ro : Nat → Int32 → Int32 → RSt → Option (Int32 × RSt)} {l1 : Int32} {u : RSt} (h_ro : ∀ q a b u, KP (ro q a b u) u) : KP (B_again_0 N ro l1 u) u := by
  unfold B_again_0
  refine KP_bn (sk_F_here.tr kp_rf) (fun _ _ => ?_)
  refine KP_bn (sk_G_expression.tr kp_rf) (fun _ _ => ?_)
  refine KP_bn (sk_F_emit.tr kp_rf) (fun _ _ => ?_)
  refine KP_bn (sk_F_cost.tr kp_rf) (fun _ _ => ?_)
  refine KP_bn (sk_F_loop.tr kp_rf) (fun _ _ => ?_)
  refine KP_bn ((h_ro _ _ _ _).tr kp_rf) (fun _ _ => ?_)
  refine KP_pu ?_
  refine KP_rd (fun _ => ?_)
  refine KP_bn (sk_F_leadAll.tr (ks_sI (by decide) kp_rf)) (fun _ _ => ?_)
  refine KP_bn (sk_F_emit.tr kp_rf) (fun _ _ => ?_)
  refine KP_bn (sk_F_lead.tr kp_rf) (fun _ _ => ?_)
  refine KP_rd (fun _ => ?_)
  refine KP_bn (sk_F_leadAll.tr kp_rf) (fun _ _ => ?_)
  exact KP_some kp_rf
theorem sk_F_again {N : Nat} {ro : Nat → Int32 → Int32 → RSt → Option (Int32 × RSt)} {l1 : Int32} {u : RSt} (h_ro : ∀ q a b u, KP (ro q a b u) u) : KP (F_again N ro l1 u) u := by
  unfold F_again
  exact (sk_B_again_0 h_ro).tr kp_rf
theorem sk_B_counts_279 {N : Nat} {ro : Nat → Int32 → Int32 → RSt → Option (Int32 × RSt)} {l1 : Int32} {l7 : Int32} {l8 : Int32} {s0 : Int32} {u : RSt} (h_ro : ∀ q a b u, KP (ro q a b u) u) : KP (B_counts_279 N ro l1 l7 l8 s0 u) u := by
  unfold B_counts_279
  refine KP_pu ?_
  refine KP_rd (fun _ => ?_)
  refine KP_bn (sk_F_take.tr (ks_sI (by decide) kp_rf)) (fun _ _ => ?_)
  refine KP_bn (sk_F_emit.tr kp_rf) (fun _ _ => ?_)
  refine KP_bn (sk_G_expression.tr kp_rf) (fun _ _ => ?_)
  refine KP_bn (sk_F_isTooWide.tr kp_rf) (fun _ _ => ?_)
  refine KP_bn (sk_F_wrong.tr kp_rf) (fun _ _ => ?_)
  refine KP_bn (sk_F_emit.tr kp_rf) (fun _ _ => ?_)
  refine KP_bn (sk_F_take.tr kp_rf) (fun _ _ => ?_)
  refine KP_bn (sk_G_expression.tr kp_rf) (fun _ _ => ?_)
  refine KP_bn (sk_F_here.tr kp_rf) (fun _ _ => ?_)
  refine KP_bn (sk_F_emit.tr kp_rf) (fun _ _ => ?_)
  refine KP_bn (sk_F_emit.tr kp_rf) (fun _ _ => ?_)
  refine KP_bn (sk_F_emit.tr kp_rf) (fun _ _ => ?_)
  refine KP_bn (sk_F_cost.tr kp_rf) (fun _ _ => ?_)
  refine KP_bn (sk_F_loop.tr kp_rf) (fun _ _ => ?_)
  refine KP_bn ((h_ro _ _ _ _).tr kp_rf) (fun _ _ => ?_)
  refine KP_pu ?_
  refine KP_rd (fun _ => ?_)
  refine KP_bn (sk_F_leadAll.tr (ks_sI (by decide) kp_rf)) (fun _ _ => ?_)
  refine KP_bn (sk_F_emit.tr kp_rf) (fun _ _ => ?_)
  refine KP_bn (sk_F_emit.tr kp_rf) (fun _ _ => ?_)
  refine KP_bn (sk_F_emit.tr kp_rf) (fun _ _ => ?_)
  refine KP_bn (sk_F_emit.tr kp_rf) (fun _ _ => ?_)
  refine KP_bn (sk_F_emit.tr kp_rf) (fun _ _ => ?_)
  refine KP_bn (sk_F_push.tr kp_rf) (fun _ _ => ?_)
  refine KP_bn (sk_F_joined.tr kp_rf) (fun _ _ => ?_)
  refine KP_bn (sk_F_emit.tr kp_rf) (fun _ _ => ?_)
  refine KP_bn (sk_F_emit.tr kp_rf) (fun _ _ => ?_)
  refine KP_bn (sk_F_lead.tr kp_rf) (fun _ _ => ?_)
  refine KP_bn (sk_F_lead.tr kp_rf) (fun _ _ => ?_)
  refine KP_rd (fun _ => ?_)
  refine KP_bn (sk_F_leadAll.tr kp_rf) (fun _ _ => ?_)
  refine KP_bn (sk_F_emit.tr kp_rf) (fun _ _ => ?_)
  exact KP_some kp_rf
theorem sk_B_counts_247 {N : Nat} {ro : Nat → Int32 → Int32 → RSt → Option (Int32 × RSt)} {l1 : Int32} {l3 : Int32} {l5 : Int32} {l6 : Int32} {l7 : Int32} {s0 : Int32} {u : RSt} (h_ro : ∀ q a b u, KP (ro q a b u) u) : KP (B_counts_247 N ro l1 l3 l5 l6 l7 s0 u) u := by
  unfold B_counts_247
  refine KP_if ?_ ?_
  · skip
    exact (sk_B_counts_279 h_ro).tr kp_rf
  · skip
    refine KP_if ?_ ?_
    · skip
      refine KP_rd (fun _ => ?_)
      exact (sk_B_counts_279 h_ro).tr kp_rf
    · skip
      refine KP_rd (fun _ => ?_)
      exact (sk_B_counts_279 h_ro).tr kp_rf
theorem sk_B_counts_220 {N : Nat} {ro : Nat → Int32 → Int32 → RSt → Option (Int32 × RSt)} {l1 : Int32} {l3 : Int32} {l5 : Int32} {l6 : Int32} {s0 : Int32} {u : RSt} (h_ro : ∀ q a b u, KP (ro q a b u) u) : KP (B_counts_220 N ro l1 l3 l5 l6 s0 u) u := by
  unfold B_counts_220
  refine KP_if ?_ ?_
  · skip
    exact (sk_B_counts_247 h_ro).tr kp_rf
  · skip
    refine KP_if ?_ ?_
    · skip
      exact (sk_B_counts_247 h_ro).tr kp_rf
    · skip
      exact (sk_B_counts_247 h_ro).tr kp_rf
theorem sk_B_counts_185 {N : Nat} {ro : Nat → Int32 → Int32 → RSt → Option (Int32 × RSt)} {l1 : Int32} {l2 : Int32} {l3 : Int32} {l5 : Int32} {l6 : Int32} {s1 : Int32} {u : RSt} (h_ro : ∀ q a b u, KP (ro q a b u) u) : KP (B_counts_185 N ro l1 l2 l3 l5 l6 s1 u) u := by
  unfold B_counts_185
  refine KP_bn (sk_F_wrong.tr kp_rf) (fun _ _ => ?_)
  refine KP_if ?_ ?_
  · skip
    exact (sk_B_counts_220 h_ro).tr kp_rf
  · skip
    refine KP_if ?_ ?_
    · skip
      refine KP_rd (fun _ => ?_)
      exact (sk_B_counts_220 h_ro).tr kp_rf
    · skip
      refine KP_rd (fun _ => ?_)
      exact (sk_B_counts_220 h_ro).tr kp_rf
theorem sk_B_counts_180 {N : Nat} {ro : Nat → Int32 → Int32 → RSt → Option (Int32 × RSt)} {l1 : Int32} {l2 : Int32} {l3 : Int32} {l5 : Int32} {l6 : Int32} {u : RSt} (h_ro : ∀ q a b u, KP (ro q a b u) u) : KP (B_counts_180 N ro l1 l2 l3 l5 l6 u) u := by
  unfold B_counts_180
  exact (sk_B_counts_185 h_ro).tr kp_rf
theorem sk_B_counts_184 {N : Nat} {ro : Nat → Int32 → Int32 → RSt → Option (Int32 × RSt)} {l1 : Int32} {l2 : Int32} {l3 : Int32} {l5 : Int32} {l6 : Int32} {u : RSt} (h_ro : ∀ q a b u, KP (ro q a b u) u) : KP (B_counts_184 N ro l1 l2 l3 l5 l6 u) u := by
  unfold B_counts_184
  exact (sk_B_counts_185 h_ro).tr kp_rf
theorem sk_B_counts_121 {N : Nat} {ro : Nat → Int32 → Int32 → RSt → Option (Int32 × RSt)} {l1 : Int32} {l2 : Int32} {l3 : Int32} {l4 : Int32} {s0 : Int32} {u : RSt} (h_ro : ∀ q a b u, KP (ro q a b u) u) : KP (B_counts_121 N ro l1 l2 l3 l4 s0 u) u := by
  unfold B_counts_121
  refine KP_if ?_ ?_
  · skip
    exact (sk_B_counts_184 h_ro).tr kp_rf
  · skip
    refine KP_if ?_ ?_
    · skip
      refine KP_rd (fun _ => ?_)
      refine KP_if ?_ ?_
      · skip
        refine KP_rd (fun _ => ?_)
        refine KP_if ?_ ?_
        · skip
          exact (sk_B_counts_180 h_ro).tr kp_rf
        · skip
          exact (sk_B_counts_184 h_ro).tr kp_rf
      · skip
        exact (sk_B_counts_180 h_ro).tr kp_rf
    · skip
      refine KP_rd (fun _ => ?_)
      refine KP_if ?_ ?_
      · skip
        exact (sk_B_counts_184 h_ro).tr kp_rf
      · skip
        exact (sk_B_counts_180 h_ro).tr kp_rf
theorem sk_B_counts_120 {N : Nat} {ro : Nat → Int32 → Int32 → RSt → Option (Int32 × RSt)} {l1 : Int32} {l2 : Int32} {l3 : Int32} {l4 : Int32} {u : RSt} (h_ro : ∀ q a b u, KP (ro q a b u) u) : KP (B_counts_120 N ro l1 l2 l3 l4 u) u := by
  unfold B_counts_120
  exact (sk_B_counts_121 h_ro).tr kp_rf
theorem sk_B_counts_97 {N : Nat} {ro : Nat → Int32 → Int32 → RSt → Option (Int32 × RSt)} {l1 : Int32} {l2 : Int32} {l3 : Int32} {l4 : Int32} {s1 : Int32} {u : RSt} (h_ro : ∀ q a b u, KP (ro q a b u) u) : KP (B_counts_97 N ro l1 l2 l3 l4 s1 u) u := by
  unfold B_counts_97
  refine KP_bn (sk_F_wrong.tr kp_rf) (fun _ _ => ?_)
  refine KP_if ?_ ?_
  · skip
    exact (sk_B_counts_120 h_ro).tr kp_rf
  · skip
    refine KP_if ?_ ?_
    · skip
      exact (sk_B_counts_121 h_ro).tr kp_rf
    · skip
      exact (sk_B_counts_120 h_ro).tr kp_rf
theorem sk_B_counts_96 {N : Nat} {ro : Nat → Int32 → Int32 → RSt → Option (Int32 × RSt)} {l1 : Int32} {l2 : Int32} {l3 : Int32} {l4 : Int32} {u : RSt} (h_ro : ∀ q a b u, KP (ro q a b u) u) : KP (B_counts_96 N ro l1 l2 l3 l4 u) u := by
  unfold B_counts_96
  exact (sk_B_counts_97 h_ro).tr kp_rf
theorem sk_B_counts_78 {N : Nat} {ro : Nat → Int32 → Int32 → RSt → Option (Int32 × RSt)} {l1 : Int32} {l2 : Int32} {l3 : Int32} {s0 : Int32} {u : RSt} (h_ro : ∀ q a b u, KP (ro q a b u) u) : KP (B_counts_78 N ro l1 l2 l3 s0 u) u := by
  unfold B_counts_78
  refine KP_if ?_ ?_
  · skip
    refine KP_if ?_ ?_
    · skip
      exact (sk_B_counts_97 h_ro).tr kp_rf
    · skip
      exact (sk_B_counts_96 h_ro).tr kp_rf
  · skip
    exact (sk_B_counts_96 h_ro).tr kp_rf
theorem sk_B_counts_77 {N : Nat} {ro : Nat → Int32 → Int32 → RSt → Option (Int32 × RSt)} {l1 : Int32} {l2 : Int32} {l3 : Int32} {u : RSt} (h_ro : ∀ q a b u, KP (ro q a b u) u) : KP (B_counts_77 N ro l1 l2 l3 u) u := by
  unfold B_counts_77
  exact (sk_B_counts_78 h_ro).tr kp_rf
theorem sk_B_counts_56 {N : Nat} {ro : Nat → Int32 → Int32 → RSt → Option (Int32 × RSt)} {l1 : Int32} {l2 : Int32} {s0 : Int32} {u : RSt} (h_ro : ∀ q a b u, KP (ro q a b u) u) : KP (B_counts_56 N ro l1 l2 s0 u) u := by
  unfold B_counts_56
  refine KP_if ?_ ?_
  · skip
    refine KP_if ?_ ?_
    · skip
      exact (sk_B_counts_77 h_ro).tr kp_rf
    · skip
      refine KP_bn (sk_F_own.tr kp_rf) (fun _ _ => ?_)
      exact (sk_B_counts_78 h_ro).tr kp_rf
  · skip
    exact (sk_B_counts_77 h_ro).tr kp_rf
theorem sk_B_counts_0 {N : Nat} {ro : Nat → Int32 → Int32 → RSt → Option (Int32 × RSt)} {l1 : Int32} {u : RSt} (h_ro : ∀ q a b u, KP (ro q a b u) u) : KP (B_counts_0 N ro l1 u) u := by
  unfold B_counts_0
  refine KP_bn (sk_F_is.tr kp_rf) (fun _ _ => ?_)
  refine KP_if ?_ ?_
  · skip
    refine KP_bn (sk_F_stuck.tr kp_rf) (fun _ _ => ?_)
    exact KP_some kp_rf
  · skip
    refine KP_rd (fun _ => ?_)
    refine KP_if ?_ ?_
    · skip
      exact (sk_B_counts_56 h_ro).tr kp_rf
    · skip
      refine KP_rd (fun _ => ?_)
      refine KP_rd (fun _ => ?_)
      refine KP_bn (sk_F_slotOf.tr kp_rf) (fun _ _ => ?_)
      exact (sk_B_counts_56 h_ro).tr kp_rf
theorem sk_F_counts {N : Nat} {ro : Nat → Int32 → Int32 → RSt → Option (Int32 × RSt)} {l1 : Int32} {u : RSt} (h_ro : ∀ q a b u, KP (ro q a b u) u) : KP (F_counts N ro l1 u) u := by
  unfold F_counts
  exact (sk_B_counts_0 h_ro).tr kp_rf
theorem sk_B_cases_103 {N : Nat} {ro : Nat → Int32 → Int32 → RSt → Option (Int32 × RSt)} {R_14 : Int32 × RSt → Option (Int32 × RSt)} {l2 : Int32} {l4 : Int32} {u : RSt} (h_ro : ∀ q a b u, KP (ro q a b u) u) (h_R_14 : ∀ a, KP (R_14 a) a.2) : KP (B_cases_103 N ro R_14 l2 l4 u) u := by
  unfold B_cases_103
  refine KP_bn ((h_ro _ _ _ _).tr kp_rf) (fun _ _ => ?_)
  refine KP_bn (sk_F_emit.tr kp_rf) (fun _ _ => ?_)
  refine KP_bn (sk_F_lead.tr kp_rf) (fun _ _ => ?_)
  exact (h_R_14 _).tr kp_rf
theorem sk_B_cases_65 {N : Nat} {ro : Nat → Int32 → Int32 → RSt → Option (Int32 × RSt)} {R_14 : Int32 × RSt → Option (Int32 × RSt)} {R_65 : Int32 × Int32 × Int32 × RSt → Option (Int32 × RSt)} {l2 : Int32} {l4 : Int32} {l5 : Int32} {u : RSt} (h_ro : ∀ q a b u, KP (ro q a b u) u) (h_R_14 : ∀ a, KP (R_14 a) a.2) (h_R_65 : ∀ a, KP (R_65 a) a.2.2.2) : KP (B_cases_65 N ro R_14 R_65 l2 l4 l5 u) u := by
  unfold B_cases_65
  refine KP_if ?_ ?_
  · skip
    exact (sk_B_cases_103 h_ro h_R_14).tr kp_rf
  · skip
    refine KP_if ?_ ?_
    · skip
      refine KP_if ?_ ?_
      · skip
        exact (sk_B_cases_103 h_ro h_R_14).tr kp_rf
      · skip
        refine KP_bn (sk_F_here.tr kp_rf) (fun _ _ => ?_)
        refine KP_wr ?_
        exact (h_R_65 _).tr (ks_sA (by decide) kp_rf)
    · skip
      exact (sk_B_cases_103 h_ro h_R_14).tr kp_rf
theorem sk_LP_cases_65 {N : Nat} {ro : Nat → Int32 → Int32 → RSt → Option (Int32 × RSt)} {R_14 : Int32 × RSt → Option (Int32 × RSt)} (h_ro : ∀ q a b u, KP (ro q a b u) u) (h_R_14 : ∀ a, KP (R_14 a) a.2) (n : Nat) : ∀ a : Int32 × Int32 × Int32 × RSt, KP (LP_cases_65 N ro R_14 n a) a.2.2.2 := by
  induction n with
  | zero => exact fun a r z e => by have e : (none : Option _) = some (r, z) := e; cases e
  | succ n ih =>
    intro a
    show KP (B_cases_65 N ro R_14 (LP_cases_65 N ro R_14 n) a.1 a.2.1 a.2.2.1 a.2.2.2) a.2.2.2
    exact sk_B_cases_65 h_ro h_R_14 ih
theorem sk_B_cases_28 {N : Nat} {ro : Nat → Int32 → Int32 → RSt → Option (Int32 × RSt)} {R_14 : Int32 × RSt → Option (Int32 × RSt)} {R_28 : Int32 × Int32 × RSt → Option (Int32 × RSt)} {l2 : Int32} {l3 : Int32} {u : RSt} (h_ro : ∀ q a b u, KP (ro q a b u) u) (h_R_14 : ∀ a, KP (R_14 a) a.2) (h_R_28 : ∀ a, KP (R_28 a) a.2.2) : KP (B_cases_28 N ro R_14 R_28 l2 l3 u) u := by
  unfold B_cases_28
  refine KP_pu ?_
  refine KP_bn (sk_F_label.tr (ks_sI (by decide) kp_rf)) (fun _ _ => ?_)
  refine KP_bn (sk_F_is.tr kp_rf) (fun _ _ => ?_)
  refine KP_if ?_ ?_
  · skip
    refine KP_bn (sk_F_emit.tr kp_rf) (fun _ _ => ?_)
    exact (sk_LP_cases_65 h_ro h_R_14 _ _).tr kp_rf
  · skip
    exact (h_R_28 _).tr kp_rf
theorem sk_LP_cases_28 {N : Nat} {ro : Nat → Int32 → Int32 → RSt → Option (Int32 × RSt)} {R_14 : Int32 × RSt → Option (Int32 × RSt)} (h_ro : ∀ q a b u, KP (ro q a b u) u) (h_R_14 : ∀ a, KP (R_14 a) a.2) (n : Nat) : ∀ a : Int32 × Int32 × RSt, KP (LP_cases_28 N ro R_14 n a) a.2.2 := by
  induction n with
  | zero => exact fun a r z e => by have e : (none : Option _) = some (r, z) := e; cases e
  | succ n ih =>
    intro a
    show KP (B_cases_28 N ro R_14 (LP_cases_28 N ro R_14 n) a.1 a.2.1 a.2.2) a.2.2
    exact sk_B_cases_28 h_ro h_R_14 ih
theorem sk_B_cases_151 {N : Nat} {ro : Nat → Int32 → Int32 → RSt → Option (Int32 × RSt)} {l2 : Int32} {u : RSt} (h_ro : ∀ q a b u, KP (ro q a b u) u) : KP (B_cases_151 N ro l2 u) u := by
  unfold B_cases_151
  refine KP_bn (sk_F_ends.tr kp_rf) (fun _ _ => ?_)
  refine KP_bn (sk_F_leadAll.tr kp_rf) (fun _ _ => ?_)
  exact KP_some kp_rf
theorem sk_B_cases_14 {N : Nat} {ro : Nat → Int32 → Int32 → RSt → Option (Int32 × RSt)} {R_14 : Int32 × RSt → Option (Int32 × RSt)} {l2 : Int32} {u : RSt} (h_ro : ∀ q a b u, KP (ro q a b u) u) (h_R_14 : ∀ a, KP (R_14 a) a.2) : KP (B_cases_14 N ro R_14 l2 u) u := by
  unfold B_cases_14
  refine KP_bn (sk_F_is.tr kp_rf) (fun _ _ => ?_)
  refine KP_if ?_ ?_
  · skip
    refine KP_bn (sk_F_emit.tr kp_rf) (fun _ _ => ?_)
    refine KP_bn (sk_F_has.tr kp_rf) (fun _ _ => ?_)
    refine KP_if ?_ ?_
    · skip
      exact (sk_B_cases_151 h_ro).tr kp_rf
    · skip
      refine KP_bn ((h_ro _ _ _ _).tr kp_rf) (fun _ _ => ?_)
      exact (sk_B_cases_151 h_ro).tr kp_rf
  · skip
    refine KP_bn (sk_F_here.tr kp_rf) (fun _ _ => ?_)
    exact (sk_LP_cases_28 h_ro h_R_14 _ _).tr kp_rf
theorem sk_LP_cases_14 {N : Nat} {ro : Nat → Int32 → Int32 → RSt → Option (Int32 × RSt)} (h_ro : ∀ q a b u, KP (ro q a b u) u) (n : Nat) : ∀ a : Int32 × RSt, KP (LP_cases_14 N ro n a) a.2 := by
  induction n with
  | zero => exact fun a r z e => by have e : (none : Option _) = some (r, z) := e; cases e
  | succ n ih =>
    intro a
    show KP (B_cases_14 N ro (LP_cases_14 N ro n) a.1 a.2) a.2
    exact sk_B_cases_14 h_ro ih
theorem sk_B_cases_0 {N : Nat} {ro : Nat → Int32 → Int32 → RSt → Option (Int32 × RSt)} {u : RSt} (h_ro : ∀ q a b u, KP (ro q a b u) u) : KP (B_cases_0 N ro u) u := by
  unfold B_cases_0
  refine KP_bn (sk_G_expression.tr kp_rf) (fun _ _ => ?_)
  refine KP_bn (sk_F_begins.tr kp_rf) (fun _ _ => ?_)
  exact (sk_LP_cases_14 h_ro _ _).tr kp_rf
theorem sk_F_cases {N : Nat} {ro : Nat → Int32 → Int32 → RSt → Option (Int32 × RSt)} {u : RSt} (h_ro : ∀ q a b u, KP (ro q a b u) u) : KP (F_cases N ro u) u := by
  unfold F_cases
  exact (sk_B_cases_0 h_ro).tr kp_rf
theorem sk_FS_ {N : Nat} : ∀ (d q : Nat) (a b : Int32) (u : RSt), KP (FS_ N d q a b u) u := by
  intro d
  induction d with
  | zero => exact fun q a b u => KP_none
  | succ d ih =>
    intro q a b u
    show KP (if q = 0 then F_body N (FS_ N d) u else if q = 1 then F_stat N (FS_ N d) u else if q = 2 then F_choice N (FS_ N d) u else if q = 3 then F_again N (FS_ N d) a u else if q = 4 then F_counts N (FS_ N d) a u else if q = 5 then F_cases N (FS_ N d) u else none) u
    refine KP_if (sk_F_body ih) ?_
    refine KP_if (sk_F_stat ih) ?_
    refine KP_if (sk_F_choice ih) ?_
    refine KP_if (sk_F_again ih) ?_
    refine KP_if (sk_F_counts ih) ?_
    refine KP_if (sk_F_cases ih) ?_
    exact KP_none
theorem sk_G_body {N : Nat} {u : RSt} : KP (G_body N u) u := sk_FS_ _ _ _ _ _
theorem sk_G_stat {N : Nat} {u : RSt} : KP (G_stat N u) u := sk_FS_ _ _ _ _ _
theorem sk_B_one_150 {N : Nat} {l1 : Int32} {l2 : Int32} {l3 : Int32} {l4 : Int32} {l5 : Int32} {l6 : Int32} {l7 : Int64} {u : RSt}  : KP (B_one_150 N l1 l2 l3 l4 l5 l6 l7 u) u := by
  unfold B_one_150
  refine KP_if ?_ ?_
  · skip
    refine KP_bn (sk_F_addVariable.tr kp_rf) (fun _ _ => ?_)
    exact KP_some kp_rf
  · skip
    refine KP_bn (sk_F_addSlot.tr kp_rf) (fun _ _ => ?_)
    exact KP_some kp_rf
theorem sk_B_one_135 {N : Nat} {l1 : Int32} {l2 : Int32} {l3 : Int32} {l4 : Int32} {l5 : Int32} {l6 : Int32} {l7 : Int64} {s1 : Int32} {u : RSt}  : KP (B_one_135 N l1 l2 l3 l4 l5 l6 l7 s1 u) u := by
  unfold B_one_135
  refine KP_rd (fun _ => ?_)
  refine KP_bn (sk_F_wrong.tr kp_rf) (fun _ _ => ?_)
  exact sk_B_one_150.tr kp_rf
theorem sk_B_one_97 {N : Nat} {l1 : Int32} {l2 : Int32} {l3 : Int32} {l4 : Int32} {l5 : Int32} {l6 : Int32} {u : RSt}  : KP (B_one_97 N l1 l2 l3 l4 l5 l6 u) u := by
  unfold B_one_97
  refine KP_bn (sk_F_has.tr kp_rf) (fun _ _ => ?_)
  refine KP_if ?_ ?_
  · skip
    exact sk_B_one_150.tr kp_rf
  · skip
    refine KP_bn (sk_F_constant.tr kp_rf) (fun _ _ => ?_)
    refine KP_if ?_ ?_
    · skip
      exact sk_B_one_135.tr kp_rf
    · skip
      exact sk_B_one_135.tr kp_rf
theorem sk_B_one_46 {N : Nat} {l1 : Int32} {l2 : Int32} {l3 : Int32} {l4 : Int32} {u : RSt}  : KP (B_one_46 N l1 l2 l3 l4 u) u := by
  unfold B_one_46
  refine KP_pu ?_
  refine KP_bn (sk_F_is.tr (ks_sI (by decide) kp_rf)) (fun _ _ => ?_)
  refine KP_if ?_ ?_
  · skip
    exact sk_B_one_97.tr kp_rf
  · skip
    refine KP_bn (sk_F_begins.tr kp_rf) (fun _ _ => ?_)
    refine KP_bn (sk_F_bounded.tr kp_rf) (fun _ _ => ?_)
    refine KP_bn (sk_F_ends.tr kp_rf) (fun _ _ => ?_)
    exact sk_B_one_97.tr kp_rf
theorem sk_B_one_0 {N : Nat} {l1 : Int32} {l2 : Int32} {l3 : Int32} {u : RSt}  : KP (B_one_0 N l1 l2 l3 u) u := by
  unfold B_one_0
  refine KP_bn (sk_F_is.tr kp_rf) (fun _ _ => ?_)
  refine KP_if ?_ ?_
  · skip
    refine KP_bn (sk_F_stuck.tr kp_rf) (fun _ _ => ?_)
    exact KP_some kp_rf
  · skip
    refine KP_if ?_ ?_
    · skip
      refine KP_rd (fun _ => ?_)
      refine KP_bn (sk_F_telling.tr kp_rf) (fun _ _ => ?_)
      exact sk_B_one_46.tr kp_rf
    · skip
      refine KP_bn (sk_F_local.tr kp_rf) (fun _ _ => ?_)
      exact sk_B_one_46.tr kp_rf
theorem sk_F_one {N : Nat} {l1 : Int32} {l2 : Int32} {l3 : Int32} {u : RSt}  : KP (F_one N l1 l2 l3 u) u := by
  unfold F_one
  exact sk_B_one_0.tr kp_rf
theorem sk_B_variables_22 {N : Nat} {R_22 : Int32 × Int32 × Int32 × RSt → Option (Int32 × RSt)} {l1 : Int32} {l2 : Int32} {l3 : Int32} {u : RSt} (h_R_22 : ∀ a, KP (R_22 a) a.2.2.2) : KP (B_variables_22 N R_22 l1 l2 l3 u) u := by
  unfold B_variables_22
  refine KP_bn (sk_F_has.tr kp_rf) (fun _ _ => ?_)
  refine KP_if ?_ ?_
  · skip
    refine KP_bn (sk_F_take.tr kp_rf) (fun _ _ => ?_)
    exact KP_some kp_rf
  · skip
    refine KP_bn (sk_F_one.tr kp_rf) (fun _ _ => ?_)
    exact (h_R_22 _).tr kp_rf
theorem sk_LP_variables_22 {N : Nat}  (n : Nat) : ∀ a : Int32 × Int32 × Int32 × RSt, KP (LP_variables_22 N n a) a.2.2.2 := by
  induction n with
  | zero => exact fun a r z e => by have e : (none : Option _) = some (r, z) := e; cases e
  | succ n ih =>
    intro a
    show KP (B_variables_22 N (LP_variables_22 N n) a.1 a.2.1 a.2.2.1 a.2.2.2) a.2.2.2
    exact sk_B_variables_22 ih
theorem sk_B_variables_0 {N : Nat} {l1 : Int32} {l2 : Int32} {u : RSt}  : KP (B_variables_0 N l1 l2 u) u := by
  unfold B_variables_0
  refine KP_pu ?_
  refine KP_bn (sk_F_kind.tr (ks_sI (by decide) kp_rf)) (fun _ _ => ?_)
  refine KP_bn (sk_F_one.tr kp_rf) (fun _ _ => ?_)
  exact (sk_LP_variables_22  _ _).tr kp_rf
theorem sk_F_variables {N : Nat} {l1 : Int32} {l2 : Int32} {u : RSt}  : KP (F_variables N l1 l2 u) u := by
  unfold F_variables
  exact sk_B_variables_0.tr kp_rf
theorem sk_B_image_0 {N : Nat} {l1 : Int32} {u : RSt}  : KP (B_image_0 N l1 u) u := by
  unfold B_image_0
  refine KP_pu ?_
  refine KP_bn (sk_F_kind.tr (ks_sI (by decide) kp_rf)) (fun _ _ => ?_)
  refine KP_bn (sk_F_is.tr kp_rf) (fun _ _ => ?_)
  refine KP_if ?_ ?_
  · skip
    refine KP_bn (sk_F_stuck.tr kp_rf) (fun _ _ => ?_)
    exact KP_some kp_rf
  · skip
    refine KP_rd (fun _ => ?_)
    refine KP_bn (sk_F_telling.tr kp_rf) (fun _ _ => ?_)
    refine KP_pu ?_
    refine KP_bn (sk_F_take.tr (ks_sI (by decide) kp_rf)) (fun _ _ => ?_)
    refine KP_bn (sk_F_bounded.tr kp_rf) (fun _ _ => ?_)
    refine KP_bn (sk_F_take.tr kp_rf) (fun _ _ => ?_)
    refine KP_bn (sk_F_addVariable.tr kp_rf) (fun _ _ => ?_)
    exact KP_some kp_rf
theorem sk_F_image {N : Nat} {l1 : Int32} {u : RSt}  : KP (F_image N l1 u) u := by
  unfold F_image
  exact sk_B_image_0.tr kp_rf
theorem sk_B_parameter_62 {N : Nat} {u : RSt}  : KP (B_parameter_62 N u) u := by
  unfold B_parameter_62
  refine KP_pu ?_
  exact KP_some (ks_sI (by decide) kp_rf)
theorem sk_B_parameter_0 {N : Nat} {u : RSt}  : KP (B_parameter_0 N u) u := by
  unfold B_parameter_0
  refine KP_bn (sk_F_kind.tr kp_rf) (fun _ _ => ?_)
  refine KP_bn (sk_F_is.tr kp_rf) (fun _ _ => ?_)
  refine KP_if ?_ ?_
  · skip
    refine KP_bn (sk_F_stuck.tr kp_rf) (fun _ _ => ?_)
    exact KP_some kp_rf
  · skip
    refine KP_bn (sk_F_local.tr kp_rf) (fun _ _ => ?_)
    refine KP_bn (sk_F_addSlot.tr kp_rf) (fun _ _ => ?_)
    refine KP_if ?_ ?_
    · skip
      exact sk_B_parameter_62.tr kp_rf
    · skip
      refine KP_if ?_ ?_
      · skip
        refine KP_rd (fun _ => ?_)
        refine KP_wr ?_
        exact sk_B_parameter_62.tr (ks_sA (by decide) kp_rf)
      · skip
        exact sk_B_parameter_62.tr kp_rf
theorem sk_F_parameter {N : Nat} {u : RSt}  : KP (F_parameter N u) u := by
  unfold F_parameter
  exact sk_B_parameter_0.tr kp_rf
theorem sk_B_part_438 {N : Nat} {l1 : Int32} {l2 : Int32} {u : RSt}  : KP (B_part_438 N l1 l2 u) u := by
  unfold B_part_438
  refine KP_bn (sk_F_ends.tr kp_rf) (fun _ _ => ?_)
  refine KP_if ?_ ?_
  · skip
    refine KP_bn (sk_F_emit.tr kp_rf) (fun _ _ => ?_)
    refine KP_pu ?_
    exact KP_some (ks_sI (by decide) kp_rf)
  · skip
    refine KP_bn (sk_F_push.tr kp_rf) (fun _ _ => ?_)
    refine KP_bn (sk_F_emit.tr kp_rf) (fun _ _ => ?_)
    refine KP_pu ?_
    exact KP_some (ks_sI (by decide) kp_rf)
theorem sk_B_part_414 {N : Nat} {R_414 : Int32 × Int32 × RSt → Option (Int32 × RSt)} {l1 : Int32} {l2 : Int32} {u : RSt} (h_R_414 : ∀ a, KP (R_414 a) a.2.2) : KP (B_part_414 N R_414 l1 l2 u) u := by
  unfold B_part_414
  refine KP_if ?_ ?_
  · skip
    refine KP_bn (sk_F_is.tr kp_rf) (fun _ _ => ?_)
    refine KP_if ?_ ?_
    · skip
      refine KP_bn (sk_G_stat.tr kp_rf) (fun _ _ => ?_)
      exact (h_R_414 _).tr kp_rf
    · skip
      exact sk_B_part_438.tr kp_rf
  · skip
    exact sk_B_part_438.tr kp_rf
theorem sk_LP_part_414 {N : Nat}  (n : Nat) : ∀ a : Int32 × Int32 × RSt, KP (LP_part_414 N n a) a.2.2 := by
  induction n with
  | zero => exact fun a r z e => by have e : (none : Option _) = some (r, z) := e; cases e
  | succ n ih =>
    intro a
    show KP (B_part_414 N (LP_part_414 N n) a.1 a.2.1 a.2.2) a.2.2
    exact sk_B_part_414 ih
theorem sk_B_part_396 {N : Nat} {R_396 : Int32 × Int32 × RSt → Option (Int32 × RSt)} {l1 : Int32} {l2 : Int32} {u : RSt} (h_R_396 : ∀ a, KP (R_396 a) a.2.2) : KP (B_part_396 N R_396 l1 l2 u) u := by
  unfold B_part_396
  refine KP_bn (sk_F_is.tr kp_rf) (fun _ _ => ?_)
  refine KP_if ?_ ?_
  · skip
    exact (sk_LP_part_414  _ _).tr kp_rf
  · skip
    refine KP_bn (sk_F_variables.tr kp_rf) (fun _ _ => ?_)
    exact (h_R_396 _).tr kp_rf
theorem sk_LP_part_396 {N : Nat}  (n : Nat) : ∀ a : Int32 × Int32 × RSt, KP (LP_part_396 N n a) a.2.2 := by
  induction n with
  | zero => exact fun a r z e => by have e : (none : Option _) = some (r, z) := e; cases e
  | succ n ih =>
    intro a
    show KP (B_part_396 N (LP_part_396 N n) a.1 a.2.1 a.2.2) a.2.2
    exact sk_B_part_396 ih
theorem sk_B_part_355 {N : Nat} {l1 : Int32} {l2 : Int32} {u : RSt}  : KP (B_part_355 N l1 l2 u) u := by
  unfold B_part_355
  refine KP_bn (sk_F_ends.tr kp_rf) (fun _ _ => ?_)
  refine KP_bn (sk_F_begins.tr kp_rf) (fun _ _ => ?_)
  refine KP_if ?_ ?_
  · skip
    exact (sk_LP_part_396  _ _).tr kp_rf
  · skip
    refine KP_if ?_ ?_
    · skip
      refine KP_bn (sk_F_here.tr kp_rf) (fun _ _ => ?_)
      refine KP_wr ?_
      exact (sk_LP_part_396  _ _).tr (ks_sA (by decide) kp_rf)
    · skip
      exact (sk_LP_part_396  _ _).tr kp_rf
theorem sk_B_part_338 {N : Nat} {R_338 : Int32 × Int32 × RSt → Option (Int32 × RSt)} {l1 : Int32} {l2 : Int32} {u : RSt} (h_R_338 : ∀ a, KP (R_338 a) a.2.2) : KP (B_part_338 N R_338 l1 l2 u) u := by
  unfold B_part_338
  refine KP_bn (sk_F_has.tr kp_rf) (fun _ _ => ?_)
  refine KP_if ?_ ?_
  · skip
    exact sk_B_part_355.tr kp_rf
  · skip
    refine KP_bn (sk_F_parameter.tr kp_rf) (fun _ _ => ?_)
    exact (h_R_338 _).tr kp_rf
theorem sk_LP_part_338 {N : Nat}  (n : Nat) : ∀ a : Int32 × Int32 × RSt, KP (LP_part_338 N n a) a.2.2 := by
  induction n with
  | zero => exact fun a r z e => by have e : (none : Option _) = some (r, z) := e; cases e
  | succ n ih =>
    intro a
    show KP (B_part_338 N (LP_part_338 N n) a.1 a.2.1 a.2.2) a.2.2
    exact sk_B_part_338 ih
theorem sk_B_part_300 {N : Nat} {l1 : Int32} {l2 : Int32} {u : RSt}  : KP (B_part_300 N l1 l2 u) u := by
  unfold B_part_300
  refine KP_pu ?_
  refine KP_bn (sk_F_begins.tr (ks_sI (by decide) kp_rf)) (fun _ _ => ?_)
  refine KP_if ?_ ?_
  · skip
    refine KP_bn (sk_F_is.tr kp_rf) (fun _ _ => ?_)
    refine KP_if ?_ ?_
    · skip
      refine KP_bn (sk_F_parameter.tr kp_rf) (fun _ _ => ?_)
      exact (sk_LP_part_338  _ _).tr kp_rf
    · skip
      exact sk_B_part_355.tr kp_rf
  · skip
    exact sk_B_part_355.tr kp_rf
theorem sk_B_part_138 {N : Nat} {l1 : Int32} {l2 : Int32} {s1 : Int32} {u : RSt}  : KP (B_part_138 N l1 l2 s1 u) u := by
  unfold B_part_138
  refine KP_pu ?_
  refine KP_rd (fun _ => ?_)
  refine KP_pu ?_
  refine KP_pu ?_
  refine KP_pu ?_
  refine KP_if ?_ ?_
  · skip
    exact sk_B_part_300.tr (ks_sI (by decide) (ks_sI (by decide) (ks_sI (by decide) (ks_sI (by decide) kp_rf))))
  · skip
    refine KP_if ?_ ?_
    · skip
      refine KP_rd (fun _ => ?_)
      refine KP_wr ?_
      refine KP_rd (fun _ => ?_)
      refine KP_wr ?_
      refine KP_wr ?_
      refine KP_wr ?_
      refine KP_wr ?_
      refine KP_wr ?_
      refine KP_wr ?_
      refine KP_if ?_ ?_
      · skip
        refine KP_rd (fun _ => ?_)
        refine KP_wr ?_
        exact sk_B_part_300.tr (ks_sA (by decide) (ks_sA (by decide) (ks_sA (by decide) (ks_sA (by decide) (ks_sA (by decide) (ks_sA (by decide) (ks_sB (by decide) (ks_sB (by decide) (ks_sI (by decide) (ks_sI (by decide) (ks_sI (by decide) (ks_sI (by decide) kp_rf))))))))))))
      · skip
        refine KP_rd (fun _ => ?_)
        refine KP_wr ?_
        exact sk_B_part_300.tr (ks_sA (by decide) (ks_sA (by decide) (ks_sA (by decide) (ks_sA (by decide) (ks_sA (by decide) (ks_sA (by decide) (ks_sB (by decide) (ks_sB (by decide) (ks_sI (by decide) (ks_sI (by decide) (ks_sI (by decide) (ks_sI (by decide) kp_rf))))))))))))
    · skip
      exact sk_B_part_300.tr (ks_sI (by decide) (ks_sI (by decide) (ks_sI (by decide) (ks_sI (by decide) kp_rf))))
theorem sk_B_part_125 {N : Nat} {l1 : Int32} {l2 : Int32} {s1 : Int32} {u : RSt}  : KP (B_part_125 N l1 l2 s1 u) u := by
  unfold B_part_125
  refine KP_pu ?_
  refine KP_if ?_ ?_
  · skip
    exact sk_B_part_138.tr (ks_sI (by decide) kp_rf)
  · skip
    exact sk_B_part_138.tr (ks_sI (by decide) kp_rf)
theorem sk_B_part_93 {N : Nat} {l1 : Int32} {l2 : Int32} {l3 : Int32} {s1 : Int32} {s2 : Int32} {s3 : Int32} {u : RSt}  : KP (B_part_93 N l1 l2 l3 s1 s2 s3 u) u := by
  unfold B_part_93
  refine KP_bn (sk_F_telling.tr kp_rf) (fun _ _ => ?_)
  refine KP_if ?_ ?_
  · skip
    exact sk_B_part_125.tr kp_rf
  · skip
    exact sk_B_part_125.tr kp_rf
theorem sk_B_part_85 {N : Nat} {l1 : Int32} {l2 : Int32} {l3 : Int32} {s1 : Int32} {s2 : Int32} {s3 : Int32} {s4 : Int32} {u : RSt}  : KP (B_part_85 N l1 l2 l3 s1 s2 s3 s4 u) u := by
  unfold B_part_85
  refine KP_if ?_ ?_
  · skip
    exact sk_B_part_93.tr kp_rf
  · skip
    exact sk_B_part_93.tr kp_rf
theorem sk_B_part_72 {N : Nat} {l1 : Int32} {l2 : Int32} {l3 : Int32} {s1 : Int32} {u : RSt}  : KP (B_part_72 N l1 l2 l3 s1 u) u := by
  unfold B_part_72
  refine KP_if ?_ ?_
  · skip
    exact sk_B_part_85.tr kp_rf
  · skip
    exact sk_B_part_85.tr kp_rf
theorem sk_B_part_61 {N : Nat} {l1 : Int32} {l2 : Int32} {s0 : Int32} {u : RSt}  : KP (B_part_61 N l1 l2 s0 u) u := by
  unfold B_part_61
  refine KP_if ?_ ?_
  · skip
    exact sk_B_part_72.tr kp_rf
  · skip
    exact sk_B_part_72.tr kp_rf
theorem sk_B_part_22 {N : Nat} {l1 : Int32} {s0 : Int32} {u : RSt}  : KP (B_part_22 N l1 s0 u) u := by
  unfold B_part_22
  refine KP_bn (sk_F_is.tr kp_rf) (fun _ _ => ?_)
  refine KP_if ?_ ?_
  · skip
    refine KP_bn (sk_F_stuck.tr kp_rf) (fun _ _ => ?_)
    exact KP_some kp_rf
  · skip
    refine KP_if ?_ ?_
    · skip
      refine KP_rd (fun _ => ?_)
      exact sk_B_part_61.tr kp_rf
    · skip
      refine KP_rd (fun _ => ?_)
      exact sk_B_part_61.tr kp_rf
theorem sk_B_part_0 {N : Nat} {l1 : Int32} {u : RSt}  : KP (B_part_0 N l1 u) u := by
  unfold B_part_0
  refine KP_pu ?_
  refine KP_if ?_ ?_
  · skip
    exact sk_B_part_22.tr (ks_sI (by decide) kp_rf)
  · skip
    refine KP_bn (sk_F_kind.tr (ks_sI (by decide) kp_rf)) (fun _ _ => ?_)
    exact sk_B_part_22.tr kp_rf
theorem sk_F_part {N : Nat} {l1 : Int32} {u : RSt}  : KP (F_part N l1 u) u := by
  unfold F_part
  exact sk_B_part_0.tr kp_rf
theorem sk_B_instance_158 {N : Nat} {R_50 : Int32 × Int32 × Int32 × RSt → Option (Int32 × RSt)} {l1 : Int32} {l3 : Int32} {s0 : Int32} {u : RSt} (h_R_50 : ∀ a, KP (R_50 a) a.2.2.2) : KP (B_instance_158 N R_50 l1 l3 s0 u) u := by
  unfold B_instance_158
  exact (h_R_50 _).tr kp_rf
theorem sk_B_instance_153 {N : Nat} {R_50 : Int32 × Int32 × Int32 × RSt → Option (Int32 × RSt)} {l1 : Int32} {l3 : Int32} {u : RSt} (h_R_50 : ∀ a, KP (R_50 a) a.2.2.2) : KP (B_instance_153 N R_50 l1 l3 u) u := by
  unfold B_instance_153
  exact (sk_B_instance_158 h_R_50).tr kp_rf
theorem sk_B_instance_303 {N : Nat} {u : RSt}  : KP (B_instance_303 N u) u := by
  unfold B_instance_303
  refine KP_pu ?_
  exact KP_some (ks_sI (by decide) kp_rf)
theorem sk_B_instance_165 {N : Nat} {l1 : Int32} {l2 : Int32} {u : RSt}  : KP (B_instance_165 N l1 l2 u) u := by
  unfold B_instance_165
  refine KP_rd (fun _ => ?_)
  refine KP_bn (sk_F_wrong.tr kp_rf) (fun _ _ => ?_)
  refine KP_if ?_ ?_
  · skip
    exact sk_B_instance_303.tr kp_rf
  · skip
    refine KP_if ?_ ?_
    · skip
      refine KP_rd (fun _ => ?_)
      refine KP_wr ?_
      refine KP_wr ?_
      refine KP_rd (fun _ => ?_)
      refine KP_wr ?_
      refine KP_rd (fun _ => ?_)
      refine KP_wr ?_
      refine KP_rd (fun _ => ?_)
      refine KP_pu ?_
      refine KP_rd (fun _ => ?_)
      refine KP_wr ?_
      exact sk_B_instance_303.tr (ks_sA (by decide) (ks_sI (by decide) (ks_sB (by decide) (ks_sB (by decide) (ks_sA (by decide) (ks_sA (by decide) kp_rf))))))
    · skip
      exact sk_B_instance_303.tr kp_rf
theorem sk_B_instance_50 {N : Nat} {R_50 : Int32 × Int32 × Int32 × RSt → Option (Int32 × RSt)} {l1 : Int32} {l2 : Int32} {l3 : Int32} {u : RSt} (h_R_50 : ∀ a, KP (R_50 a) a.2.2.2) : KP (B_instance_50 N R_50 l1 l2 l3 u) u := by
  unfold B_instance_50
  refine KP_if ?_ ?_
  · skip
    exact sk_B_instance_165.tr kp_rf
  · skip
    refine KP_if ?_ ?_
    · skip
      refine KP_rd (fun _ => ?_)
      refine KP_if ?_ ?_
      · skip
        exact sk_B_instance_165.tr kp_rf
      · skip
        refine KP_rd (fun _ => ?_)
        refine KP_rd (fun _ => ?_)
        refine KP_rd (fun _ => ?_)
        refine KP_rd (fun _ => ?_)
        refine KP_wr ?_
        refine KP_if ?_ ?_
        · skip
          refine KP_rd (fun _ => ?_)
          refine KP_rd (fun _ => ?_)
          refine KP_if ?_ ?_
          · skip
            exact (sk_B_instance_158 h_R_50).tr (ks_sA (by decide) kp_rf)
          · skip
            exact (sk_B_instance_153 h_R_50).tr (ks_sA (by decide) kp_rf)
        · skip
          exact (sk_B_instance_153 h_R_50).tr (ks_sA (by decide) kp_rf)
    · skip
      exact sk_B_instance_165.tr kp_rf
theorem sk_LP_instance_50 {N : Nat}  (n : Nat) : ∀ a : Int32 × Int32 × Int32 × RSt, KP (LP_instance_50 N n a) a.2.2.2 := by
  induction n with
  | zero => exact fun a r z e => by have e : (none : Option _) = some (r, z) := e; cases e
  | succ n ih =>
    intro a
    show KP (B_instance_50 N (LP_instance_50 N n) a.1 a.2.1 a.2.2.1 a.2.2.2) a.2.2.2
    exact sk_B_instance_50 ih
theorem sk_B_instance_43 {N : Nat} {l1 : Int32} {s1 : Int32} {s2 : Int32} {s3 : Int32} {u : RSt}  : KP (B_instance_43 N l1 s1 s2 s3 u) u := by
  unfold B_instance_43
  refine KP_bn (sk_F_telling.tr kp_rf) (fun _ _ => ?_)
  exact (sk_LP_instance_50  _ _).tr kp_rf
theorem sk_B_instance_0 {N : Nat} {l1 : Int32} {u : RSt}  : KP (B_instance_0 N l1 u) u := by
  unfold B_instance_0
  refine KP_bn (sk_F_is.tr kp_rf) (fun _ _ => ?_)
  refine KP_if ?_ ?_
  · skip
    refine KP_bn (sk_F_stuck.tr kp_rf) (fun _ _ => ?_)
    exact KP_some kp_rf
  · skip
    refine KP_rd (fun _ => ?_)
    refine KP_rd (fun _ => ?_)
    refine KP_if ?_ ?_
    · skip
      exact sk_B_instance_43.tr kp_rf
    · skip
      exact sk_B_instance_43.tr kp_rf
theorem sk_F_instance {N : Nat} {l1 : Int32} {u : RSt}  : KP (F_instance N l1 u) u := by
  unfold F_instance
  exact sk_B_instance_0.tr kp_rf
theorem sk_B_use_68 {N : Nat} {R_68 : Int32 × RSt → Option (Int32 × RSt)} {l1 : Int32} {u : RSt} (h_R_68 : ∀ a, KP (R_68 a) a.2) : KP (B_use_68 N R_68 l1 u) u := by
  unfold B_use_68
  refine KP_bn (sk_F_has.tr kp_rf) (fun _ _ => ?_)
  refine KP_if ?_ ?_
  · skip
    refine KP_bn (sk_F_take.tr kp_rf) (fun _ _ => ?_)
    exact KP_some kp_rf
  · skip
    refine KP_bn (sk_F_instance.tr kp_rf) (fun _ _ => ?_)
    exact (h_R_68 _).tr kp_rf
theorem sk_LP_use_68 {N : Nat}  (n : Nat) : ∀ a : Int32 × RSt, KP (LP_use_68 N n a) a.2 := by
  induction n with
  | zero => exact fun a r z e => by have e : (none : Option _) = some (r, z) := e; cases e
  | succ n ih =>
    intro a
    show KP (B_use_68 N (LP_use_68 N n) a.1 a.2) a.2
    exact sk_B_use_68 ih
theorem sk_B_use_40 {N : Nat} {l1 : Int32} {s1 : Int32} {u : RSt}  : KP (B_use_40 N l1 s1 u) u := by
  unfold B_use_40
  refine KP_rd (fun _ => ?_)
  refine KP_bn (sk_F_wrong.tr kp_rf) (fun _ _ => ?_)
  refine KP_pu ?_
  refine KP_bn (sk_F_instance.tr (ks_sI (by decide) kp_rf)) (fun _ _ => ?_)
  exact (sk_LP_use_68  _ _).tr kp_rf
theorem sk_B_use_0 {N : Nat} {u : RSt}  : KP (B_use_0 N u) u := by
  unfold B_use_0
  refine KP_pu ?_
  refine KP_bn (sk_F_is.tr (ks_sI (by decide) kp_rf)) (fun _ _ => ?_)
  refine KP_if ?_ ?_
  · skip
    refine KP_bn (sk_F_stuck.tr kp_rf) (fun _ _ => ?_)
    exact KP_some kp_rf
  · skip
    refine KP_bn (sk_F_own.tr kp_rf) (fun _ _ => ?_)
    refine KP_if ?_ ?_
    · skip
      exact sk_B_use_40.tr kp_rf
    · skip
      exact sk_B_use_40.tr kp_rf
theorem sk_F_use {N : Nat} {u : RSt}  : KP (F_use N u) u := by
  unfold F_use
  exact sk_B_use_0.tr kp_rf
theorem sk_B_tasked_213 {N : Nat} {u : RSt}  : KP (B_tasked_213 N u) u := by
  unfold B_tasked_213
  refine KP_bn (sk_G_body.tr kp_rf) (fun _ _ => ?_)
  refine KP_bn (sk_F_emit.tr kp_rf) (fun _ _ => ?_)
  refine KP_pu ?_
  exact KP_some (ks_sI (by decide) kp_rf)
theorem sk_B_tasked_125 {N : Nat} {l1 : Int32} {l2 : Int32} {l3 : Int32} {s0 : Int32} {u : RSt}  : KP (B_tasked_125 N l1 l2 l3 s0 u) u := by
  unfold B_tasked_125
  refine KP_pu ?_
  refine KP_pu ?_
  refine KP_if ?_ ?_
  · skip
    exact sk_B_tasked_213.tr (ks_sI (by decide) (ks_sI (by decide) kp_rf))
  · skip
    refine KP_if ?_ ?_
    · skip
      refine KP_wr ?_
      refine KP_wr ?_
      refine KP_bn (sk_F_here.tr (ks_sA (by decide) (ks_sA (by decide) (ks_sI (by decide) (ks_sI (by decide) kp_rf))))) (fun _ _ => ?_)
      refine KP_wr ?_
      refine KP_rd (fun _ => ?_)
      refine KP_wr ?_
      refine KP_rd (fun _ => ?_)
      refine KP_wr ?_
      refine KP_rd (fun _ => ?_)
      refine KP_wr ?_
      exact sk_B_tasked_213.tr (ks_sA (by decide) (ks_sB (by decide) (ks_sB (by decide) (ks_sA (by decide) kp_rf))))
    · skip
      exact sk_B_tasked_213.tr (ks_sI (by decide) (ks_sI (by decide) kp_rf))
theorem sk_B_tasked_53 {N : Nat} {s1 : Int32} {s2 : Int32} {s3 : Int32} {u : RSt}  : KP (B_tasked_53 N s1 s2 s3 u) u := by
  unfold B_tasked_53
  refine KP_bn (sk_F_telling.tr kp_rf) (fun _ _ => ?_)
  refine KP_rd (fun _ => ?_)
  refine KP_pu ?_
  refine KP_bn (sk_F_take.tr (ks_sI (by decide) kp_rf)) (fun _ _ => ?_)
  refine KP_bn (sk_F_bounded.tr kp_rf) (fun _ _ => ?_)
  refine KP_bn (sk_F_has.tr kp_rf) (fun _ _ => ?_)
  refine KP_if ?_ ?_
  · skip
    exact sk_B_tasked_125.tr kp_rf
  · skip
    refine KP_bn (sk_F_bounded.tr kp_rf) (fun _ _ => ?_)
    exact sk_B_tasked_125.tr kp_rf
theorem sk_B_tasked_0 {N : Nat} {u : RSt}  : KP (B_tasked_0 N u) u := by
  unfold B_tasked_0
  refine KP_pu ?_
  refine KP_bn (sk_F_is.tr (ks_sI (by decide) kp_rf)) (fun _ _ => ?_)
  refine KP_if ?_ ?_
  · skip
    refine KP_bn (sk_F_stuck.tr kp_rf) (fun _ _ => ?_)
    exact KP_some kp_rf
  · skip
    refine KP_rd (fun _ => ?_)
    refine KP_rd (fun _ => ?_)
    refine KP_if ?_ ?_
    · skip
      exact sk_B_tasked_53.tr kp_rf
    · skip
      exact sk_B_tasked_53.tr kp_rf
theorem sk_F_tasked {N : Nat} {u : RSt}  : KP (F_tasked N u) u := by
  unfold F_tasked
  exact sk_B_tasked_0.tr kp_rf
theorem sk_B_text_0 {N : Nat} {R_0 : RSt → Option (Int32 × RSt)} {u : RSt} (h_R_0 : ∀ a, KP (R_0 a) a) : KP (B_text_0 N R_0 u) u := by
  unfold B_text_0
  refine KP_if ?_ ?_
  · skip
    refine KP_bn (sk_F_is.tr kp_rf) (fun _ _ => ?_)
    refine KP_if ?_ ?_
    · skip
      refine KP_rd (fun _ => ?_)
      refine KP_if ?_ ?_
      · skip
        refine KP_bn (sk_F_variables.tr kp_rf) (fun _ _ => ?_)
        exact (h_R_0 _).tr kp_rf
      · skip
        refine KP_if ?_ ?_
        · skip
          refine KP_bn (sk_F_variables.tr kp_rf) (fun _ _ => ?_)
          exact (h_R_0 _).tr kp_rf
        · skip
          refine KP_if ?_ ?_
          · skip
            refine KP_bn (sk_F_image.tr kp_rf) (fun _ _ => ?_)
            exact (h_R_0 _).tr kp_rf
          · skip
            refine KP_if ?_ ?_
            · skip
              refine KP_bn (sk_F_image.tr kp_rf) (fun _ _ => ?_)
              exact (h_R_0 _).tr kp_rf
            · skip
              refine KP_if ?_ ?_
              · skip
                refine KP_bn (sk_F_part.tr kp_rf) (fun _ _ => ?_)
                exact (h_R_0 _).tr kp_rf
              · skip
                refine KP_if ?_ ?_
                · skip
                  refine KP_bn (sk_F_use.tr kp_rf) (fun _ _ => ?_)
                  exact (h_R_0 _).tr kp_rf
                · skip
                  refine KP_if ?_ ?_
                  · skip
                    refine KP_bn (sk_F_part.tr kp_rf) (fun _ _ => ?_)
                    exact (h_R_0 _).tr kp_rf
                  · skip
                    refine KP_if ?_ ?_
                    · skip
                      refine KP_bn (sk_F_tasked.tr kp_rf) (fun _ _ => ?_)
                      exact (h_R_0 _).tr kp_rf
                    · skip
                      refine KP_bn (sk_F_stuck.tr kp_rf) (fun _ _ => ?_)
                      exact (h_R_0 _).tr kp_rf
    · skip
      exact KP_some kp_rf
  · skip
    exact KP_some kp_rf
theorem sk_LP_text_0 {N : Nat}  (n : Nat) : ∀ a : RSt, KP (LP_text_0 N n a) a := by
  induction n with
  | zero => exact fun a r z e => by have e : (none : Option _) = some (r, z) := e; cases e
  | succ n ih =>
    intro a
    show KP (B_text_0 N (LP_text_0 N n) a) a
    exact sk_B_text_0 ih
theorem sk_F_text {N : Nat} {u : RSt}  : KP (F_text N u) u := by
  unfold F_text
  exact (sk_LP_text_0  _ _).tr kp_rf
