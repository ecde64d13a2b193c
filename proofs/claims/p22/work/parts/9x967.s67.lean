/-! What the class's first pass leaves as it is where it goes through: the place of the last FAULT. -/
def isl : Sum Nat Int32 → Prop := fun y => ∃ p, y = .inl p
def nol {β : Type} : β → Prop := fun _ => False
def K7 {β : Type} (B : β → Prop) (x : Option (β × CSt)) (u : CSt) : Prop := ∀ r w, x = some (r, w) → B r ∨ w.1 7 = u.1 7
section K7s
variable {α β γ : Type} {B : β → Prop} {u w : CSt}
theorem K7.tr {x : Option (β × CSt)} (hx : K7 B x w) (h : w.1 7 = u.1 7) : K7 B x u := fun r z e => (hx r z e).imp id (fun q => q.trans h)
theorem f7_xI {k : Nat} {v : Int32} (hk : k ≠ 7) (h : w.1 7 = u.1 7) : (xI w k v).1 7 = u.1 7 := by
  show (if 7 = k then v else w.1 7) = u.1 7
  rw [if_neg (fun q => hk q.symm)]; exact h
theorem f7_xL {k : Nat} {v : Int64} (h : w.1 7 = u.1 7) : (xL w k v).1 7 = u.1 7 := h
theorem f7_xA {k i : Nat} {v : Int32} (h : w.1 7 = u.1 7) : (xA w k i v).1 7 = u.1 7 := h
theorem f7_xB {k i : Nat} {v : Int64} (h : w.1 7 = u.1 7) : (xB w k i v).1 7 = u.1 7 := h
theorem f7_xpI {q k : Nat} {v : Int32} (h : w.1 7 = u.1 7) : (xpI w q k v).1 7 = u.1 7 := h
theorem f7_xpA {q k i : Nat} {v : Int32} (h : w.1 7 = u.1 7) : (xpA w q k i v).1 7 = u.1 7 := h
theorem K7_some {r : β} (h : w.1 7 = u.1 7) : K7 B (some (r, w)) u := fun _ _ e => by cases e; exact Or.inr h
theorem K7_inl {p : Nat} : K7 isl (some ((.inl p : Sum Nat Int32), w)) u := fun _ _ e => by cases e; exact Or.inl ⟨p, rfl⟩
theorem K7_none : K7 B (none : Option (β × CSt)) u := fun _ _ e => nomatch e
theorem K7_pc {x : CSt} {k : CSt → Option (β × CSt)} (h : K7 B (k x) u) : K7 B (pc x k) u := h
theorem K7_rd {f : Nat → α} {n : Nat} {i : Int32} {k : α → Option (β × CSt)} (h : ∀ a, K7 B (k a) u) : K7 B (rd f n i k) u := by
  intro r z e
  have q : wq (rd f n i k) (fun r' z' => r' = r ∧ z' = z) := ⟨r, z, e, rfl, rfl⟩
  obtain ⟨r1, z1, e1, rfl, rfl⟩ := (wq_rd.mp q).2
  exact h _ _ _ e1
theorem K7_wc {n : Nat} {i : Int32} {x : CSt} {k : CSt → Option (β × CSt)} (h : K7 B (k x) u) : K7 B (wc n i x k) u := by
  intro r z e
  have q : wq (wc n i x k) (fun r' z' => r' = r ∧ z' = z) := ⟨r, z, e, rfl, rfl⟩
  obtain ⟨r1, z1, e1, rfl, rfl⟩ := (wq_wc.mp q).2
  exact h _ _ e1
theorem K7_bc {x : Option (α × CSt)} {k : α → CSt → Option (β × CSt)} (hx : K7 nol x u) (h : ∀ r w, K7 B (k r w) w) : K7 B (bc x k) u := by
  intro r z e
  have q : wq (bc x k) (fun r' z' => r' = r ∧ z' = z) := ⟨r, z, e, rfl, rfl⟩
  obtain ⟨r1, z1, e1, r2, z2, e2, rfl, rfl⟩ := wq_bc.mp q
  exact ((h _ _).tr ((hx _ _ e1).resolve_left (fun f => f))) _ _ e2
theorem K7_pb {x : Option α} {k : α → Option (β × CSt)} (h : ∀ a, K7 B (k a) u) : K7 B (pb x k) u := by
  intro r z e
  have q : wq (pb x k) (fun r' z' => r' = r ∧ z' = z) := ⟨r, z, e, rfl, rfl⟩
  obtain ⟨a, -, r1, z1, e1, rfl, rfl⟩ := wq_pb.mp q
  exact h _ _ _ e1
theorem K7_bt {x : Option (Sum Nat Int32 × CSt)} {k : Int32 → CSt → Option (Sum Nat Int32 × CSt)} (hx : K7 isl x u) (h : ∀ r w, K7 isl (k r w) w) : K7 isl (bt x k) u := by
  intro r z e
  unfold bt at e
  cases hq : x with
  | none => rw [hq] at e; cases e
  | some a =>
    obtain ⟨y, v⟩ := a
    rw [hq] at e
    cases y with
    | inl n => cases e; exact Or.inl ⟨n, rfl⟩
    | inr b =>
      refine ((h b v).tr ((hx _ _ hq).resolve_left (fun f => ?_))) _ _ e
      obtain ⟨p, f⟩ := f
      cases f
theorem K7_if {c : Prop} {d : Decidable c} {a b : Option (β × CSt)} (ha : K7 B a u) (hb : K7 B b u) : K7 B (if c then a else b) u := by
  by_cases q : c
  · rw [if_pos q]; exact ha
  · rw [if_neg q]; exact hb
theorem K7_ix {n : Nat} {i : Int32} {x : Option (β × CSt)} (h : K7 B x u) : K7 B (ix n i x) u := by
  intro r z e
  have q : wq (ix n i x) (fun r' z' => r' = r ∧ z' = z) := ⟨r, z, e, rfl, rfl⟩
  obtain ⟨r1, z1, e1, rfl, rfl⟩ := (wq_ix.mp q).2
  exact h _ _ e1
theorem K7_zr {v : Int32} {x : Option (β × CSt)} (h : K7 B x u) : K7 B (zr v x) u := fun r z e => h r z (zr_of e).2
theorem K7_nz {v : Int32} {x : Option (β × CSt)} (h : K7 B x u) : K7 B (nz v x) u := fun r z e => h r z (nz_of e).2
theorem K7_ok {P : Prop} {d : Decidable P} {x : Option (β × CSt)} (h : K7 B x u) : K7 B (ok P d x) u := fun r z e => h r z (ok_of e).2
end K7s

theorem k7_B_X9_rewind_0 {N : Nat} {u : CSt}  : K7 nol (B_X9_rewind_0 N u) u := by
  unfold B_X9_rewind_0
  refine K7_pc ?_
  exact K7_some (f7_xI (by decide) rfl)
theorem k7_F_X9_rewind {N : Nat} {u : CSt}  : K7 nol (F_X9_rewind N u) u := by
  unfold F_X9_rewind
  exact k7_B_X9_rewind_0.tr rfl
theorem k7_B_X9_type_0 {N : Nat} {u : CSt}  : K7 nol (B_X9_type_0 N u) u := by
  unfold B_X9_type_0
  refine K7_rd (fun _ => ?_)
  exact K7_some rfl
theorem k7_F_X9_type {N : Nat} {u : CSt}  : K7 nol (F_X9_type N u) u := by
  unfold F_X9_type
  exact k7_B_X9_type_0.tr rfl
theorem k7_B_X9_typeAhead_0 {N : Nat} {l1 : Int32} {u : CSt}  : K7 nol (B_X9_typeAhead_0 N l1 u) u := by
  unfold B_X9_typeAhead_0
  refine K7_if ?_ ?_
  · skip
    exact K7_some rfl
  · skip
    refine K7_rd (fun _ => ?_)
    exact K7_some rfl
theorem k7_F_X9_typeAhead {N : Nat} {l1 : Int32} {u : CSt}  : K7 nol (F_X9_typeAhead N l1 u) u := by
  unfold F_X9_typeAhead
  exact k7_B_X9_typeAhead_0.tr rfl
theorem k7_B_X9_is_0 {N : Nat} {l1 : Int32} {u : CSt}  : K7 nol (B_X9_is_0 N l1 u) u := by
  unfold B_X9_is_0
  refine K7_rd (fun _ => ?_)
  refine K7_if ?_ ?_
  · skip
    exact K7_some rfl
  · skip
    exact K7_some rfl
theorem k7_F_X9_is {N : Nat} {l1 : Int32} {u : CSt}  : K7 nol (F_X9_is N l1 u) u := by
  unfold F_X9_is
  exact k7_B_X9_is_0.tr rfl
theorem k7_B_X9_isKindWord_0 {N : Nat} {u : CSt}  : K7 nol (B_X9_isKindWord_0 N u) u := by
  unfold B_X9_isKindWord_0
  refine K7_rd (fun _ => ?_)
  refine K7_if ?_ ?_
  · skip
    exact K7_some rfl
  · skip
    refine K7_rd (fun _ => ?_)
    refine K7_if ?_ ?_
    · skip
      exact K7_some rfl
    · skip
      exact K7_some rfl
theorem k7_F_X9_isKindWord {N : Nat} {u : CSt}  : K7 nol (F_X9_isKindWord N u) u := by
  unfold F_X9_isKindWord
  exact k7_B_X9_isKindWord_0.tr rfl
theorem k7_B_X9_next_0 {N : Nat} {u : CSt}  : K7 nol (B_X9_next_0 N u) u := by
  unfold B_X9_next_0
  refine K7_if ?_ ?_
  · skip
    exact K7_some rfl
  · skip
    refine K7_pc ?_
    exact K7_some (f7_xI (by decide) rfl)
theorem k7_F_X9_next {N : Nat} {u : CSt}  : K7 nol (F_X9_next N u) u := by
  unfold F_X9_next
  exact k7_B_X9_next_0.tr rfl
theorem k7_B_X9_misfit_0 {N : Nat} {u : CSt}  : K7 nol (B_X9_misfit_0 N u) u := by
  unfold B_X9_misfit_0
  refine K7_rd (fun _ => ?_)
  refine K7_if ?_ ?_
  · skip
    exact K7_some rfl
  · skip
    exact K7_some rfl
theorem k7_F_X9_misfit {N : Nat} {u : CSt}  : K7 nol (F_X9_misfit N u) u := by
  unfold F_X9_misfit
  exact k7_B_X9_misfit_0.tr rfl
theorem k7_B_X9_refuse_0 {N : Nat} {l1 : Int32} {l2 : Int32} {u : CSt}  : K7 isl (B_X9_refuse_0 N l1 l2 u) u := by
  unfold B_X9_refuse_0
  refine K7_pc ?_
  refine K7_pc ?_
  exact K7_inl
theorem k7_F_X9_refuse {N : Nat} {l1 : Int32} {l2 : Int32} {u : CSt}  : K7 isl (F_X9_refuse N l1 l2 u) u := by
  unfold F_X9_refuse
  exact k7_B_X9_refuse_0.tr rfl
theorem k7_B_X9_take_30 {N : Nat} {u : CSt}  : K7 isl (B_X9_take_30 N u) u := by
  unfold B_X9_take_30
  refine K7_bc (k7_F_X9_next.tr rfl) (fun _ _ => ?_)
  exact K7_some rfl
theorem k7_B_X9_take_0 {N : Nat} {l1 : Int32} {u : CSt}  : K7 isl (B_X9_take_0 N l1 u) u := by
  unfold B_X9_take_0
  refine K7_rd (fun _ => ?_)
  refine K7_if ?_ ?_
  · skip
    exact k7_B_X9_take_30.tr rfl
  · skip
    refine K7_bc (k7_F_X9_misfit.tr rfl) (fun _ _ => ?_)
    refine K7_rd (fun _ => ?_)
    refine K7_bt (k7_F_X9_refuse.tr rfl) (fun _ _ => ?_)
    exact k7_B_X9_take_30.tr rfl
theorem k7_F_X9_take {N : Nat} {l1 : Int32} {u : CSt}  : K7 isl (F_X9_take N l1 u) u := by
  unfold F_X9_take
  exact k7_B_X9_take_0.tr rfl
theorem k7_B_X9_refuseToken_0 {N : Nat} {u : CSt}  : K7 isl (B_X9_refuseToken_0 N u) u := by
  unfold B_X9_refuseToken_0
  refine K7_bc (k7_F_X9_misfit.tr rfl) (fun _ _ => ?_)
  refine K7_rd (fun _ => ?_)
  refine K7_bt (k7_F_X9_refuse.tr rfl) (fun _ _ => ?_)
  exact K7_some rfl
theorem k7_F_X9_refuseToken {N : Nat} {u : CSt}  : K7 isl (F_X9_refuseToken N u) u := by
  unfold F_X9_refuseToken
  exact k7_B_X9_refuseToken_0.tr rfl
theorem k7_B_X0_opens_27 {N : Nat} {u : CSt}  : K7 isl (B_X0_opens_27 N u) u := by
  unfold B_X0_opens_27
  refine K7_pc ?_
  refine K7_bc (k7_F_X9_next.tr (f7_xI (by decide) rfl)) (fun _ _ => ?_)
  exact K7_some rfl
theorem k7_B_X0_opens_20 {N : Nat} {u : CSt}  : K7 isl (B_X0_opens_20 N u) u := by
  unfold B_X0_opens_20
  refine K7_bt (k7_F_X9_refuseToken.tr rfl) (fun _ _ => ?_)
  exact k7_B_X0_opens_27.tr rfl
theorem k7_B_X0_opens_0 {N : Nat} {l1 : Int32} {u : CSt}  : K7 isl (B_X0_opens_0 N l1 u) u := by
  unfold B_X0_opens_0
  refine K7_bc (k7_F_X9_is.tr rfl) (fun _ _ => ?_)
  refine K7_if ?_ ?_
  · skip
    exact k7_B_X0_opens_20.tr rfl
  · skip
    refine K7_if ?_ ?_
    · skip
      exact k7_B_X0_opens_27.tr rfl
    · skip
      exact k7_B_X0_opens_20.tr rfl
theorem k7_F_X0_opens {N : Nat} {l1 : Int32} {u : CSt}  : K7 isl (F_X0_opens N l1 u) u := by
  unfold F_X0_opens
  exact k7_B_X0_opens_0.tr rfl
theorem k7_B_X0_closes_0 {N : Nat} {l1 : Int32} {u : CSt}  : K7 isl (B_X0_closes_0 N l1 u) u := by
  unfold B_X0_closes_0
  refine K7_bt (k7_F_X9_take.tr rfl) (fun _ _ => ?_)
  refine K7_pc ?_
  exact K7_some (f7_xI (by decide) rfl)
theorem k7_F_X0_closes {N : Nat} {l1 : Int32} {u : CSt}  : K7 isl (F_X0_closes N l1 u) u := by
  unfold F_X0_closes
  exact k7_B_X0_closes_0.tr rfl
theorem k7_B_X0_kind_17 {N : Nat} {u : CSt}  : K7 isl (B_X0_kind_17 N u) u := by
  unfold B_X0_kind_17
  refine K7_bc (k7_F_X9_next.tr rfl) (fun _ _ => ?_)
  exact K7_some rfl
theorem k7_B_X0_kind_0 {N : Nat} {u : CSt}  : K7 isl (B_X0_kind_0 N u) u := by
  unfold B_X0_kind_0
  refine K7_bc (k7_F_X9_isKindWord.tr rfl) (fun _ _ => ?_)
  refine K7_if ?_ ?_
  · skip
    refine K7_bt (k7_F_X9_refuseToken.tr rfl) (fun _ _ => ?_)
    exact k7_B_X0_kind_17.tr rfl
  · skip
    exact k7_B_X0_kind_17.tr rfl
theorem k7_F_X0_kind {N : Nat} {u : CSt}  : K7 isl (F_X0_kind N u) u := by
  unfold F_X0_kind
  exact k7_B_X0_kind_0.tr rfl
theorem k7_B_X0_constant_52 {N : Nat} {u : CSt}  : K7 isl (B_X0_constant_52 N u) u := by
  unfold B_X0_constant_52
  refine K7_bc (k7_F_X9_next.tr rfl) (fun _ _ => ?_)
  exact K7_some rfl
theorem k7_B_X0_constant_19 {N : Nat} {u : CSt}  : K7 isl (B_X0_constant_19 N u) u := by
  unfold B_X0_constant_19
  refine K7_bc (k7_F_X9_is.tr rfl) (fun _ _ => ?_)
  refine K7_if ?_ ?_
  · skip
    refine K7_bc (k7_F_X9_is.tr rfl) (fun _ _ => ?_)
    refine K7_if ?_ ?_
    · skip
      refine K7_bt (k7_F_X9_refuseToken.tr rfl) (fun _ _ => ?_)
      exact k7_B_X0_constant_52.tr rfl
    · skip
      exact k7_B_X0_constant_52.tr rfl
  · skip
    exact k7_B_X0_constant_52.tr rfl
theorem k7_B_X0_constant_0 {N : Nat} {u : CSt}  : K7 isl (B_X0_constant_0 N u) u := by
  unfold B_X0_constant_0
  refine K7_bc (k7_F_X9_is.tr rfl) (fun _ _ => ?_)
  refine K7_if ?_ ?_
  · skip
    exact k7_B_X0_constant_19.tr rfl
  · skip
    refine K7_bc (k7_F_X9_next.tr rfl) (fun _ _ => ?_)
    exact k7_B_X0_constant_19.tr rfl
theorem k7_F_X0_constant {N : Nat} {u : CSt}  : K7 isl (F_X0_constant N u) u := by
  unfold F_X0_constant
  exact k7_B_X0_constant_0.tr rfl
theorem k7_B_X0_oneVariable_44 {N : Nat} {u : CSt}  : K7 isl (B_X0_oneVariable_44 N u) u := by
  unfold B_X0_oneVariable_44
  refine K7_bc (k7_F_X9_is.tr rfl) (fun _ _ => ?_)
  refine K7_if ?_ ?_
  · skip
    exact K7_some rfl
  · skip
    refine K7_bc (k7_F_X9_next.tr rfl) (fun _ _ => ?_)
    refine K7_bt (k7_F_X0_constant.tr rfl) (fun _ _ => ?_)
    exact K7_some rfl
theorem k7_B_X0_oneVariable_0 {N : Nat} {u : CSt}  : K7 isl (B_X0_oneVariable_0 N u) u := by
  unfold B_X0_oneVariable_0
  refine K7_bt (k7_F_X9_take.tr rfl) (fun _ _ => ?_)
  refine K7_bc (k7_F_X9_is.tr rfl) (fun _ _ => ?_)
  refine K7_if ?_ ?_
  · skip
    exact k7_B_X0_oneVariable_44.tr rfl
  · skip
    refine K7_bt (k7_F_X0_opens.tr rfl) (fun _ _ => ?_)
    refine K7_bt (k7_F_X9_take.tr rfl) (fun _ _ => ?_)
    refine K7_bt (k7_F_X0_closes.tr rfl) (fun _ _ => ?_)
    exact k7_B_X0_oneVariable_44.tr rfl
theorem k7_F_X0_oneVariable {N : Nat} {u : CSt}  : K7 isl (F_X0_oneVariable N u) u := by
  unfold F_X0_oneVariable
  exact k7_B_X0_oneVariable_0.tr rfl
theorem k7_B_X0_variables_53 {N : Nat} {u : CSt}  : K7 isl (B_X0_variables_53 N u) u := by
  unfold B_X0_variables_53
  refine K7_bt (k7_F_X9_take.tr rfl) (fun _ _ => ?_)
  exact K7_some rfl
theorem k7_B_X0_variables_17 {N : Nat} {R_17 : Int32 × CSt → Option ((Sum Nat Int32) × CSt)} {l1 : Int32} {u : CSt} (h_R_17 : ∀ a, K7 isl (R_17 a) a.2) : K7 isl (B_X0_variables_17 N R_17 l1 u) u := by
  unfold B_X0_variables_17
  refine K7_if ?_ ?_
  · skip
    exact k7_B_X0_variables_53.tr rfl
  · skip
    refine K7_bc (k7_F_X9_is.tr rfl) (fun _ _ => ?_)
    refine K7_if ?_ ?_
    · skip
      exact k7_B_X0_variables_53.tr rfl
    · skip
      refine K7_bc (k7_F_X9_next.tr rfl) (fun _ _ => ?_)
      refine K7_bt (k7_F_X0_oneVariable.tr rfl) (fun _ _ => ?_)
      exact (h_R_17 _).tr rfl
theorem k7_LP_X0_variables_17 {N : Nat}  (n : Nat) : ∀ a : Int32 × CSt, K7 isl (LP_X0_variables_17 N n a) a.2 := by
  induction n with
  | zero => exact fun a r z e => by have e : (none : Option _) = some (r, z) := e; cases e
  | succ n ih =>
    intro a
    show K7 isl (B_X0_variables_17 N (LP_X0_variables_17 N n) a.1 a.2) a.2
    exact k7_B_X0_variables_17 ih
theorem k7_B_X0_variables_0 {N : Nat} {u : CSt}  : K7 isl (B_X0_variables_0 N u) u := by
  unfold B_X0_variables_0
  refine K7_bc (k7_F_X9_next.tr rfl) (fun _ _ => ?_)
  refine K7_bt (k7_F_X0_kind.tr rfl) (fun _ _ => ?_)
  refine K7_bt (k7_F_X0_oneVariable.tr rfl) (fun _ _ => ?_)
  exact (k7_LP_X0_variables_17  _ _).tr rfl
theorem k7_F_X0_variables {N : Nat} {u : CSt}  : K7 isl (F_X0_variables N u) u := by
  unfold F_X0_variables
  exact k7_B_X0_variables_0.tr rfl
theorem k7_B_X0_placed_0 {N : Nat} {u : CSt}  : K7 isl (B_X0_placed_0 N u) u := by
  unfold B_X0_placed_0
  refine K7_bc (k7_F_X9_next.tr rfl) (fun _ _ => ?_)
  refine K7_bt (k7_F_X0_kind.tr rfl) (fun _ _ => ?_)
  refine K7_bt (k7_F_X9_take.tr rfl) (fun _ _ => ?_)
  refine K7_bt (k7_F_X9_take.tr rfl) (fun _ _ => ?_)
  refine K7_bt (k7_F_X9_take.tr rfl) (fun _ _ => ?_)
  refine K7_bt (k7_F_X9_take.tr rfl) (fun _ _ => ?_)
  exact K7_some rfl
theorem k7_F_X0_placed {N : Nat} {u : CSt}  : K7 isl (F_X0_placed N u) u := by
  unfold F_X0_placed
  exact k7_B_X0_placed_0.tr rfl
theorem k7_B_X0_uses_71 {N : Nat} {u : CSt}  : K7 isl (B_X0_uses_71 N u) u := by
  unfold B_X0_uses_71
  refine K7_bt (k7_F_X9_take.tr rfl) (fun _ _ => ?_)
  exact K7_some rfl
theorem k7_B_X0_uses_29 {N : Nat} {R_29 : Int32 × CSt → Option ((Sum Nat Int32) × CSt)} {l1 : Int32} {u : CSt} (h_R_29 : ∀ a, K7 isl (R_29 a) a.2) : K7 isl (B_X0_uses_29 N R_29 l1 u) u := by
  unfold B_X0_uses_29
  refine K7_if ?_ ?_
  · skip
    exact k7_B_X0_uses_71.tr rfl
  · skip
    refine K7_bc (k7_F_X9_is.tr rfl) (fun _ _ => ?_)
    refine K7_if ?_ ?_
    · skip
      exact k7_B_X0_uses_71.tr rfl
    · skip
      refine K7_bc (k7_F_X9_next.tr rfl) (fun _ _ => ?_)
      refine K7_bt (k7_F_X9_take.tr rfl) (fun _ _ => ?_)
      exact (h_R_29 _).tr rfl
theorem k7_LP_X0_uses_29 {N : Nat}  (n : Nat) : ∀ a : Int32 × CSt, K7 isl (LP_X0_uses_29 N n a) a.2 := by
  induction n with
  | zero => exact fun a r z e => by have e : (none : Option _) = some (r, z) := e; cases e
  | succ n ih =>
    intro a
    show K7 isl (B_X0_uses_29 N (LP_X0_uses_29 N n) a.1 a.2) a.2
    exact k7_B_X0_uses_29 ih
theorem k7_B_X0_uses_0 {N : Nat} {u : CSt}  : K7 isl (B_X0_uses_0 N u) u := by
  unfold B_X0_uses_0
  refine K7_bc (k7_F_X9_next.tr rfl) (fun _ _ => ?_)
  refine K7_bt (k7_F_X9_take.tr rfl) (fun _ _ => ?_)
  refine K7_bt (k7_F_X9_take.tr rfl) (fun _ _ => ?_)
  exact (k7_LP_X0_uses_29  _ _).tr rfl
theorem k7_F_X0_uses {N : Nat} {u : CSt}  : K7 isl (F_X0_uses N u) u := by
  unfold F_X0_uses
  exact k7_B_X0_uses_0.tr rfl
theorem k7_B_X0_label_0 {N : Nat} {u : CSt}  : K7 isl (B_X0_label_0 N u) u := by
  unfold B_X0_label_0
  refine K7_bt (k7_F_X0_constant.tr rfl) (fun _ _ => ?_)
  refine K7_bc (k7_F_X9_is.tr rfl) (fun _ _ => ?_)
  refine K7_if ?_ ?_
  · skip
    exact K7_some rfl
  · skip
    refine K7_bc (k7_F_X9_next.tr rfl) (fun _ _ => ?_)
    refine K7_bt (k7_F_X0_constant.tr rfl) (fun _ _ => ?_)
    exact K7_some rfl
theorem k7_F_X0_label {N : Nat} {u : CSt}  : K7 isl (F_X0_label N u) u := by
  unfold F_X0_label
  exact k7_B_X0_label_0.tr rfl
theorem k7_B_X0_bit_0 {N : Nat} {u : CSt}  : K7 isl (B_X0_bit_0 N u) u := by
  unfold B_X0_bit_0
  refine K7_bc (k7_F_X9_is.tr rfl) (fun _ _ => ?_)
  refine K7_if ?_ ?_
  · skip
    exact K7_some rfl
  · skip
    refine K7_bc (k7_F_X9_next.tr rfl) (fun _ _ => ?_)
    refine K7_bt (k7_F_X9_take.tr rfl) (fun _ _ => ?_)
    exact K7_some rfl
theorem k7_F_X0_bit {N : Nat} {u : CSt}  : K7 isl (F_X0_bit N u) u := by
  unfold F_X0_bit
  exact k7_B_X0_bit_0.tr rfl
theorem k7_B_X0_expression_43 {N : Nat} {ro : Nat → Nat → Int32 → Int32 → CSt → Option (Sum Nat Int32 × CSt)} {u : CSt} (h_ro : ∀ q z a b u, K7 isl (ro q z a b u) u) : K7 isl (B_X0_expression_43 N ro u) u := by
  unfold B_X0_expression_43
  refine K7_bc (k7_F_X9_is.tr rfl) (fun _ _ => ?_)
  refine K7_if ?_ ?_
  · skip
    exact K7_some rfl
  · skip
    refine K7_bt (k7_F_X0_opens.tr rfl) (fun _ _ => ?_)
    refine K7_bt ((h_ro _ _ _ _ _).tr rfl) (fun _ _ => ?_)
    refine K7_bt (k7_F_X9_take.tr rfl) (fun _ _ => ?_)
    refine K7_bt ((h_ro _ _ _ _ _).tr rfl) (fun _ _ => ?_)
    refine K7_pc ?_
    exact K7_some (f7_xI (by decide) rfl)
theorem k7_B_X0_expression_6 {N : Nat} {ro : Nat → Nat → Int32 → Int32 → CSt → Option (Sum Nat Int32 × CSt)} {R_6 : Int32 × CSt → Option ((Sum Nat Int32) × CSt)} {l1 : Int32} {u : CSt} (h_ro : ∀ q z a b u, K7 isl (ro q z a b u) u) (h_R_6 : ∀ a, K7 isl (R_6 a) a.2) : K7 isl (B_X0_expression_6 N ro R_6 l1 u) u := by
  unfold B_X0_expression_6
  refine K7_if ?_ ?_
  · skip
    exact (k7_B_X0_expression_43 h_ro).tr rfl
  · skip
    refine K7_bc (k7_F_X9_type.tr rfl) (fun _ _ => ?_)
    refine K7_pb (fun _ => ?_)
    refine K7_if ?_ ?_
    · skip
      exact (k7_B_X0_expression_43 h_ro).tr rfl
    · skip
      refine K7_bc (k7_F_X9_next.tr rfl) (fun _ _ => ?_)
      refine K7_bt ((h_ro _ _ _ _ _).tr rfl) (fun _ _ => ?_)
      exact (h_R_6 _).tr rfl
theorem k7_LP_X0_expression_6 {N : Nat} {ro : Nat → Nat → Int32 → Int32 → CSt → Option (Sum Nat Int32 × CSt)} (h_ro : ∀ q z a b u, K7 isl (ro q z a b u) u) (n : Nat) : ∀ a : Int32 × CSt, K7 isl (LP_X0_expression_6 N ro n a) a.2 := by
  induction n with
  | zero => exact fun a r z e => by have e : (none : Option _) = some (r, z) := e; cases e
  | succ n ih =>
    intro a
    show K7 isl (B_X0_expression_6 N ro (LP_X0_expression_6 N ro n) a.1 a.2) a.2
    exact k7_B_X0_expression_6 h_ro ih
theorem k7_B_X0_expression_0 {N : Nat} {ro : Nat → Nat → Int32 → Int32 → CSt → Option (Sum Nat Int32 × CSt)} {u : CSt} (h_ro : ∀ q z a b u, K7 isl (ro q z a b u) u) : K7 isl (B_X0_expression_0 N ro u) u := by
  unfold B_X0_expression_0
  refine K7_bt ((h_ro _ _ _ _ _).tr rfl) (fun _ _ => ?_)
  exact (k7_LP_X0_expression_6 h_ro _ _).tr rfl
theorem k7_F_X0_expression {N : Nat} {ro : Nat → Nat → Int32 → Int32 → CSt → Option (Sum Nat Int32 × CSt)} {u : CSt} (h_ro : ∀ q z a b u, K7 isl (ro q z a b u) u) : K7 isl (F_X0_expression N ro u) u := by
  unfold F_X0_expression
  exact (k7_B_X0_expression_0 h_ro).tr rfl
theorem k7_B_X0_operand_0 {N : Nat} {ro : Nat → Nat → Int32 → Int32 → CSt → Option (Sum Nat Int32 × CSt)} {u : CSt} (h_ro : ∀ q z a b u, K7 isl (ro q z a b u) u) : K7 isl (B_X0_operand_0 N ro u) u := by
  unfold B_X0_operand_0
  refine K7_bc (k7_F_X9_type.tr rfl) (fun _ _ => ?_)
  refine K7_if ?_ ?_
  · skip
    refine K7_bc (k7_F_X9_next.tr rfl) (fun _ _ => ?_)
    exact K7_some rfl
  · skip
    refine K7_if ?_ ?_
    · skip
      refine K7_bc (k7_F_X9_type.tr rfl) (fun _ _ => ?_)
      refine K7_bt (k7_F_X0_opens.tr rfl) (fun _ _ => ?_)
      refine K7_bt ((h_ro _ _ _ _ _).tr rfl) (fun _ _ => ?_)
      refine K7_pc ?_
      exact K7_some (f7_xI (by decide) rfl)
    · skip
      refine K7_if ?_ ?_
      · skip
        refine K7_bt ((h_ro _ _ _ _ _).tr rfl) (fun _ _ => ?_)
        exact K7_some rfl
      · skip
        refine K7_if ?_ ?_
        · skip
          refine K7_bc (k7_F_X9_type.tr rfl) (fun _ _ => ?_)
          refine K7_bt (k7_F_X0_opens.tr rfl) (fun _ _ => ?_)
          refine K7_bt ((h_ro _ _ _ _ _).tr rfl) (fun _ _ => ?_)
          refine K7_pc ?_
          exact K7_some (f7_xI (by decide) rfl)
        · skip
          refine K7_if ?_ ?_
          · skip
            refine K7_bc (k7_F_X9_type.tr rfl) (fun _ _ => ?_)
            refine K7_bt (k7_F_X0_opens.tr rfl) (fun _ _ => ?_)
            refine K7_bt ((h_ro _ _ _ _ _).tr rfl) (fun _ _ => ?_)
            refine K7_pc ?_
            exact K7_some (f7_xI (by decide) rfl)
          · skip
            refine K7_if ?_ ?_
            · skip
              refine K7_bt ((h_ro _ _ _ _ _).tr rfl) (fun _ _ => ?_)
              exact K7_some rfl
            · skip
              refine K7_if ?_ ?_
              · skip
                refine K7_bc (k7_F_X9_next.tr rfl) (fun _ _ => ?_)
                exact K7_some rfl
              · skip
                refine K7_if ?_ ?_
                · skip
                  refine K7_bc (k7_F_X9_next.tr rfl) (fun _ _ => ?_)
                  exact K7_some rfl
                · skip
                  refine K7_bt (k7_F_X9_refuseToken.tr rfl) (fun _ _ => ?_)
                  exact K7_some rfl
theorem k7_F_X0_operand {N : Nat} {ro : Nat → Nat → Int32 → Int32 → CSt → Option (Sum Nat Int32 × CSt)} {u : CSt} (h_ro : ∀ q z a b u, K7 isl (ro q z a b u) u) : K7 isl (F_X0_operand N ro u) u := by
  unfold F_X0_operand
  exact (k7_B_X0_operand_0 h_ro).tr rfl
theorem k7_B_X0_bracket_0 {N : Nat} {ro : Nat → Nat → Int32 → Int32 → CSt → Option (Sum Nat Int32 × CSt)} {u : CSt} (h_ro : ∀ q z a b u, K7 isl (ro q z a b u) u) : K7 isl (B_X0_bracket_0 N ro u) u := by
  unfold B_X0_bracket_0
  refine K7_bt (k7_F_X0_opens.tr rfl) (fun _ _ => ?_)
  refine K7_bc (k7_F_X9_isKindWord.tr rfl) (fun _ _ => ?_)
  refine K7_if ?_ ?_
  · skip
    refine K7_bt ((h_ro _ _ _ _ _).tr rfl) (fun _ _ => ?_)
    refine K7_bt (k7_F_X0_closes.tr rfl) (fun _ _ => ?_)
    exact K7_some rfl
  · skip
    refine K7_bc (k7_F_X9_next.tr rfl) (fun _ _ => ?_)
    refine K7_bt (k7_F_X9_take.tr rfl) (fun _ _ => ?_)
    refine K7_bt ((h_ro _ _ _ _ _).tr rfl) (fun _ _ => ?_)
    refine K7_pc ?_
    exact K7_some (f7_xI (by decide) rfl)
theorem k7_F_X0_bracket {N : Nat} {ro : Nat → Nat → Int32 → Int32 → CSt → Option (Sum Nat Int32 × CSt)} {u : CSt} (h_ro : ∀ q z a b u, K7 isl (ro q z a b u) u) : K7 isl (F_X0_bracket N ro u) u := by
  unfold F_X0_bracket
  exact (k7_B_X0_bracket_0 h_ro).tr rfl
theorem k7_B_X0_namedOperand_73 {N : Nat} {ro : Nat → Nat → Int32 → Int32 → CSt → Option (Sum Nat Int32 × CSt)} {u : CSt} (h_ro : ∀ q z a b u, K7 isl (ro q z a b u) u) : K7 isl (B_X0_namedOperand_73 N ro u) u := by
  unfold B_X0_namedOperand_73
  refine K7_bt ((h_ro _ _ _ _ _).tr rfl) (fun _ _ => ?_)
  refine K7_bt (k7_F_X0_bit.tr rfl) (fun _ _ => ?_)
  exact K7_some rfl
theorem k7_B_X0_namedOperand_0 {N : Nat} {ro : Nat → Nat → Int32 → Int32 → CSt → Option (Sum Nat Int32 × CSt)} {u : CSt} (h_ro : ∀ q z a b u, K7 isl (ro q z a b u) u) : K7 isl (B_X0_namedOperand_0 N ro u) u := by
  unfold B_X0_namedOperand_0
  refine K7_bc (k7_F_X9_next.tr rfl) (fun _ _ => ?_)
  refine K7_bc (k7_F_X9_is.tr rfl) (fun _ _ => ?_)
  refine K7_if ?_ ?_
  · skip
    refine K7_bc (k7_F_X9_is.tr rfl) (fun _ _ => ?_)
    refine K7_if ?_ ?_
    · skip
      exact (k7_B_X0_namedOperand_73 h_ro).tr rfl
    · skip
      refine K7_bc (k7_F_X9_typeAhead.tr rfl) (fun _ _ => ?_)
      refine K7_if ?_ ?_
      · skip
        refine K7_bc (k7_F_X9_next.tr rfl) (fun _ _ => ?_)
        refine K7_bc (k7_F_X9_next.tr rfl) (fun _ _ => ?_)
        refine K7_bt ((h_ro _ _ _ _ _).tr rfl) (fun _ _ => ?_)
        exact K7_some rfl
      · skip
        exact (k7_B_X0_namedOperand_73 h_ro).tr rfl
  · skip
    refine K7_bt ((h_ro _ _ _ _ _).tr rfl) (fun _ _ => ?_)
    exact K7_some rfl
theorem k7_F_X0_namedOperand {N : Nat} {ro : Nat → Nat → Int32 → Int32 → CSt → Option (Sum Nat Int32 × CSt)} {u : CSt} (h_ro : ∀ q z a b u, K7 isl (ro q z a b u) u) : K7 isl (F_X0_namedOperand N ro u) u := by
  unfold F_X0_namedOperand
  exact (k7_B_X0_namedOperand_0 h_ro).tr rfl
theorem k7_B_X0_arguments_60 {N : Nat} {ro : Nat → Nat → Int32 → Int32 → CSt → Option (Sum Nat Int32 × CSt)} {u : CSt} (h_ro : ∀ q z a b u, K7 isl (ro q z a b u) u) : K7 isl (B_X0_arguments_60 N ro u) u := by
  unfold B_X0_arguments_60
  refine K7_bt (k7_F_X0_closes.tr rfl) (fun _ _ => ?_)
  exact K7_some rfl
theorem k7_B_X0_arguments_24 {N : Nat} {ro : Nat → Nat → Int32 → Int32 → CSt → Option (Sum Nat Int32 × CSt)} {R_24 : Int32 × CSt → Option ((Sum Nat Int32) × CSt)} {l1 : Int32} {u : CSt} (h_ro : ∀ q z a b u, K7 isl (ro q z a b u) u) (h_R_24 : ∀ a, K7 isl (R_24 a) a.2) : K7 isl (B_X0_arguments_24 N ro R_24 l1 u) u := by
  unfold B_X0_arguments_24
  refine K7_if ?_ ?_
  · skip
    exact (k7_B_X0_arguments_60 h_ro).tr rfl
  · skip
    refine K7_bc (k7_F_X9_is.tr rfl) (fun _ _ => ?_)
    refine K7_if ?_ ?_
    · skip
      exact (k7_B_X0_arguments_60 h_ro).tr rfl
    · skip
      refine K7_bc (k7_F_X9_next.tr rfl) (fun _ _ => ?_)
      refine K7_bt ((h_ro _ _ _ _ _).tr rfl) (fun _ _ => ?_)
      exact (h_R_24 _).tr rfl
theorem k7_LP_X0_arguments_24 {N : Nat} {ro : Nat → Nat → Int32 → Int32 → CSt → Option (Sum Nat Int32 × CSt)} (h_ro : ∀ q z a b u, K7 isl (ro q z a b u) u) (n : Nat) : ∀ a : Int32 × CSt, K7 isl (LP_X0_arguments_24 N ro n a) a.2 := by
  induction n with
  | zero => exact fun a r z e => by have e : (none : Option _) = some (r, z) := e; cases e
  | succ n ih =>
    intro a
    show K7 isl (B_X0_arguments_24 N ro (LP_X0_arguments_24 N ro n) a.1 a.2) a.2
    exact k7_B_X0_arguments_24 h_ro ih
theorem k7_B_X0_arguments_22 {N : Nat} {ro : Nat → Nat → Int32 → Int32 → CSt → Option (Sum Nat Int32 × CSt)} {u : CSt} (h_ro : ∀ q z a b u, K7 isl (ro q z a b u) u) : K7 isl (B_X0_arguments_22 N ro u) u := by
  unfold B_X0_arguments_22
  exact (k7_LP_X0_arguments_24 h_ro _ _).tr rfl
theorem k7_B_X0_arguments_0 {N : Nat} {ro : Nat → Nat → Int32 → Int32 → CSt → Option (Sum Nat Int32 × CSt)} {u : CSt} (h_ro : ∀ q z a b u, K7 isl (ro q z a b u) u) : K7 isl (B_X0_arguments_0 N ro u) u := by
  unfold B_X0_arguments_0
  refine K7_bt (k7_F_X0_opens.tr rfl) (fun _ _ => ?_)
  refine K7_bc (k7_F_X9_is.tr rfl) (fun _ _ => ?_)
  refine K7_if ?_ ?_
  · skip
    refine K7_bt ((h_ro _ _ _ _ _).tr rfl) (fun _ _ => ?_)
    exact (k7_B_X0_arguments_22 h_ro).tr rfl
  · skip
    exact (k7_B_X0_arguments_22 h_ro).tr rfl
theorem k7_F_X0_arguments {N : Nat} {ro : Nat → Nat → Int32 → Int32 → CSt → Option (Sum Nat Int32 × CSt)} {u : CSt} (h_ro : ∀ q z a b u, K7 isl (ro q z a b u) u) : K7 isl (F_X0_arguments N ro u) u := by
  unfold F_X0_arguments
  exact (k7_B_X0_arguments_0 h_ro).tr rfl
theorem k7_B_X0_index_0 {N : Nat} {ro : Nat → Nat → Int32 → Int32 → CSt → Option (Sum Nat Int32 × CSt)} {u : CSt} (h_ro : ∀ q z a b u, K7 isl (ro q z a b u) u) : K7 isl (B_X0_index_0 N ro u) u := by
  unfold B_X0_index_0
  refine K7_bc (k7_F_X9_is.tr rfl) (fun _ _ => ?_)
  refine K7_if ?_ ?_
  · skip
    exact K7_some rfl
  · skip
    refine K7_bt (k7_F_X0_opens.tr rfl) (fun _ _ => ?_)
    refine K7_bt ((h_ro _ _ _ _ _).tr rfl) (fun _ _ => ?_)
    refine K7_bt (k7_F_X0_closes.tr rfl) (fun _ _ => ?_)
    exact K7_some rfl
theorem k7_F_X0_index {N : Nat} {ro : Nat → Nat → Int32 → Int32 → CSt → Option (Sum Nat Int32 × CSt)} {u : CSt} (h_ro : ∀ q z a b u, K7 isl (ro q z a b u) u) : K7 isl (F_X0_index N ro u) u := by
  unfold F_X0_index
  exact (k7_B_X0_index_0 h_ro).tr rfl
theorem k7_FGE_ {N : Nat} : ∀ (d q z : Nat) (a b : Int32) (u : CSt), K7 isl (FGE_ N d q z a b u) u := by
  intro d
  induction d with
  | zero => exact fun q z a b u => K7_none
  | succ d ih =>
    intro q z a b u
    show K7 isl (if q = 0 then F_X0_expression N (FGE_ N d) u else if q = 1 then F_X0_operand N (FGE_ N d) u else if q = 2 then F_X0_bracket N (FGE_ N d) u else if q = 3 then F_X0_namedOperand N (FGE_ N d) u else if q = 4 then F_X0_arguments N (FGE_ N d) u else if q = 5 then F_X0_index N (FGE_ N d) u else none) u
    refine K7_if (k7_F_X0_expression ih) ?_
    refine K7_if (k7_F_X0_operand ih) ?_
    refine K7_if (k7_F_X0_bracket ih) ?_
    refine K7_if (k7_F_X0_namedOperand ih) ?_
    refine K7_if (k7_F_X0_arguments ih) ?_
    refine K7_if (k7_F_X0_index ih) ?_
    exact K7_none
theorem k7_G_X0_expression {N : Nat} {u : CSt} : K7 isl (G_X0_expression N u) u := k7_FGE_ _ _ _ _ _ _
theorem k7_G_X0_arguments {N : Nat} {u : CSt} : K7 isl (G_X0_arguments N u) u := k7_FGE_ _ _ _ _ _ _
theorem k7_G_X0_index {N : Nat} {u : CSt} : K7 isl (G_X0_index N u) u := k7_FGE_ _ _ _ _ _ _
theorem k7_B_X0_named_108 {N : Nat} {u : CSt}  : K7 isl (B_X0_named_108 N u) u := by
  unfold B_X0_named_108
  refine K7_bt (k7_F_X9_take.tr rfl) (fun _ _ => ?_)
  exact K7_some rfl
theorem k7_B_X0_named_63 {N : Nat} {u : CSt}  : K7 isl (B_X0_named_63 N u) u := by
  unfold B_X0_named_63
  refine K7_bc (k7_F_X9_next.tr rfl) (fun _ _ => ?_)
  refine K7_bt (k7_G_X0_expression.tr rfl) (fun _ _ => ?_)
  exact k7_B_X0_named_108.tr rfl
theorem k7_B_X0_named_91 {N : Nat} {u : CSt}  : K7 isl (B_X0_named_91 N u) u := by
  unfold B_X0_named_91
  refine K7_bc (k7_F_X9_next.tr rfl) (fun _ _ => ?_)
  exact k7_B_X0_named_108.tr rfl
theorem k7_B_X0_named_0 {N : Nat} {u : CSt}  : K7 isl (B_X0_named_0 N u) u := by
  unfold B_X0_named_0
  refine K7_bc (k7_F_X9_next.tr rfl) (fun _ _ => ?_)
  refine K7_bc (k7_F_X9_is.tr rfl) (fun _ _ => ?_)
  refine K7_if ?_ ?_
  · skip
    refine K7_bt (k7_G_X0_index.tr rfl) (fun _ _ => ?_)
    refine K7_bt (k7_F_X0_bit.tr rfl) (fun _ _ => ?_)
    refine K7_bc (k7_F_X9_type.tr rfl) (fun _ _ => ?_)
    refine K7_if ?_ ?_
    · skip
      exact k7_B_X0_named_63.tr rfl
    · skip
      refine K7_pb (fun _ => ?_)
      refine K7_if ?_ ?_
      · skip
        refine K7_if ?_ ?_
        · skip
          exact k7_B_X0_named_91.tr rfl
        · skip
          refine K7_if ?_ ?_
          · skip
            exact k7_B_X0_named_91.tr rfl
          · skip
            refine K7_bt (k7_F_X9_refuseToken.tr rfl) (fun _ _ => ?_)
            exact k7_B_X0_named_108.tr rfl
      · skip
        exact k7_B_X0_named_63.tr rfl
  · skip
    refine K7_bt (k7_G_X0_arguments.tr rfl) (fun _ _ => ?_)
    refine K7_bt (k7_F_X9_take.tr rfl) (fun _ _ => ?_)
    exact K7_some rfl
theorem k7_F_X0_named {N : Nat} {u : CSt}  : K7 isl (F_X0_named N u) u := by
  unfold F_X0_named
  exact k7_B_X0_named_0.tr rfl
theorem k7_B_X0_returned_23 {N : Nat} {u : CSt}  : K7 isl (B_X0_returned_23 N u) u := by
  unfold B_X0_returned_23
  refine K7_bt (k7_F_X9_take.tr rfl) (fun _ _ => ?_)
  exact K7_some rfl
theorem k7_B_X0_returned_0 {N : Nat} {u : CSt}  : K7 isl (B_X0_returned_0 N u) u := by
  unfold B_X0_returned_0
  refine K7_bc (k7_F_X9_next.tr rfl) (fun _ _ => ?_)
  refine K7_bc (k7_F_X9_is.tr rfl) (fun _ _ => ?_)
  refine K7_if ?_ ?_
  · skip
    refine K7_bt (k7_G_X0_expression.tr rfl) (fun _ _ => ?_)
    exact k7_B_X0_returned_23.tr rfl
  · skip
    exact k7_B_X0_returned_23.tr rfl
theorem k7_F_X0_returned {N : Nat} {u : CSt}  : K7 isl (F_X0_returned N u) u := by
  unfold F_X0_returned
  exact k7_B_X0_returned_0.tr rfl
theorem k7_B_X0_body_0 {N : Nat} {ro : Nat → Nat → Int32 → Int32 → CSt → Option (Sum Nat Int32 × CSt)} {u : CSt} (h_ro : ∀ q z a b u, K7 isl (ro q z a b u) u) : K7 isl (B_X0_body_0 N ro u) u := by
  unfold B_X0_body_0
  refine K7_bt (k7_F_X0_opens.tr rfl) (fun _ _ => ?_)
  refine K7_bt ((h_ro _ _ _ _ _).tr rfl) (fun _ _ => ?_)
  exact K7_some rfl
theorem k7_F_X0_body {N : Nat} {ro : Nat → Nat → Int32 → Int32 → CSt → Option (Sum Nat Int32 × CSt)} {u : CSt} (h_ro : ∀ q z a b u, K7 isl (ro q z a b u) u) : K7 isl (F_X0_body N ro u) u := by
  unfold F_X0_body
  exact (k7_B_X0_body_0 h_ro).tr rfl
theorem k7_B_X0_statements_31 {N : Nat} {ro : Nat → Nat → Int32 → Int32 → CSt → Option (Sum Nat Int32 × CSt)} {u : CSt} (h_ro : ∀ q z a b u, K7 isl (ro q z a b u) u) : K7 isl (B_X0_statements_31 N ro u) u := by
  unfold B_X0_statements_31
  refine K7_bt (k7_F_X0_closes.tr rfl) (fun _ _ => ?_)
  exact K7_some rfl
theorem k7_B_X0_statements_2 {N : Nat} {ro : Nat → Nat → Int32 → Int32 → CSt → Option (Sum Nat Int32 × CSt)} {R_2 : Int32 × CSt → Option ((Sum Nat Int32) × CSt)} {l1 : Int32} {u : CSt} (h_ro : ∀ q z a b u, K7 isl (ro q z a b u) u) (h_R_2 : ∀ a, K7 isl (R_2 a) a.2) : K7 isl (B_X0_statements_2 N ro R_2 l1 u) u := by
  unfold B_X0_statements_2
  refine K7_if ?_ ?_
  · skip
    exact (k7_B_X0_statements_31 h_ro).tr rfl
  · skip
    refine K7_bc (k7_F_X9_is.tr rfl) (fun _ _ => ?_)
    refine K7_if ?_ ?_
    · skip
      refine K7_bt ((h_ro _ _ _ _ _).tr rfl) (fun _ _ => ?_)
      exact (h_R_2 _).tr rfl
    · skip
      exact (k7_B_X0_statements_31 h_ro).tr rfl
theorem k7_LP_X0_statements_2 {N : Nat} {ro : Nat → Nat → Int32 → Int32 → CSt → Option (Sum Nat Int32 × CSt)} (h_ro : ∀ q z a b u, K7 isl (ro q z a b u) u) (n : Nat) : ∀ a : Int32 × CSt, K7 isl (LP_X0_statements_2 N ro n a) a.2 := by
  induction n with
  | zero => exact fun a r z e => by have e : (none : Option _) = some (r, z) := e; cases e
  | succ n ih =>
    intro a
    show K7 isl (B_X0_statements_2 N ro (LP_X0_statements_2 N ro n) a.1 a.2) a.2
    exact k7_B_X0_statements_2 h_ro ih
theorem k7_B_X0_statements_0 {N : Nat} {ro : Nat → Nat → Int32 → Int32 → CSt → Option (Sum Nat Int32 × CSt)} {u : CSt} (h_ro : ∀ q z a b u, K7 isl (ro q z a b u) u) : K7 isl (B_X0_statements_0 N ro u) u := by
  unfold B_X0_statements_0
  exact (k7_LP_X0_statements_2 h_ro _ _).tr rfl
theorem k7_F_X0_statements {N : Nat} {ro : Nat → Nat → Int32 → Int32 → CSt → Option (Sum Nat Int32 × CSt)} {u : CSt} (h_ro : ∀ q z a b u, K7 isl (ro q z a b u) u) : K7 isl (F_X0_statements N ro u) u := by
  unfold F_X0_statements
  exact (k7_B_X0_statements_0 h_ro).tr rfl
theorem k7_B_X0_statement_0 {N : Nat} {ro : Nat → Nat → Int32 → Int32 → CSt → Option (Sum Nat Int32 × CSt)} {u : CSt} (h_ro : ∀ q z a b u, K7 isl (ro q z a b u) u) : K7 isl (B_X0_statement_0 N ro u) u := by
  unfold B_X0_statement_0
  refine K7_bc (k7_F_X9_type.tr rfl) (fun _ _ => ?_)
  refine K7_if ?_ ?_
  · skip
    refine K7_bt ((h_ro _ _ _ _ _).tr rfl) (fun _ _ => ?_)
    exact K7_some rfl
  · skip
    refine K7_if ?_ ?_
    · skip
      refine K7_bc (k7_F_X9_next.tr rfl) (fun _ _ => ?_)
      refine K7_bt (k7_G_X0_expression.tr rfl) (fun _ _ => ?_)
      refine K7_bt ((h_ro _ _ _ _ _).tr rfl) (fun _ _ => ?_)
      exact K7_some rfl
    · skip
      refine K7_if ?_ ?_
      · skip
        refine K7_bt ((h_ro _ _ _ _ _).tr rfl) (fun _ _ => ?_)
        exact K7_some rfl
      · skip
        refine K7_if ?_ ?_
        · skip
          refine K7_bt ((h_ro _ _ _ _ _).tr rfl) (fun _ _ => ?_)
          exact K7_some rfl
        · skip
          refine K7_if ?_ ?_
          · skip
            refine K7_bc (k7_F_X9_next.tr rfl) (fun _ _ => ?_)
            refine K7_bt (k7_F_X9_take.tr rfl) (fun _ _ => ?_)
            exact K7_some rfl
          · skip
            refine K7_if ?_ ?_
            · skip
              refine K7_bc (k7_F_X9_next.tr rfl) (fun _ _ => ?_)
              refine K7_bt (k7_F_X9_take.tr rfl) (fun _ _ => ?_)
              exact K7_some rfl
            · skip
              refine K7_if ?_ ?_
              · skip
                refine K7_bt (k7_F_X0_returned.tr rfl) (fun _ _ => ?_)
                exact K7_some rfl
              · skip
                refine K7_if ?_ ?_
                · skip
                  refine K7_bc (k7_F_X9_next.tr rfl) (fun _ _ => ?_)
                  refine K7_bt (k7_G_X0_expression.tr rfl) (fun _ _ => ?_)
                  refine K7_bt (k7_F_X9_take.tr rfl) (fun _ _ => ?_)
                  exact K7_some rfl
                · skip
                  refine K7_if ?_ ?_
                  · skip
                    refine K7_bt (k7_F_X0_named.tr rfl) (fun _ _ => ?_)
                    exact K7_some rfl
                  · skip
                    refine K7_bt (k7_F_X9_refuseToken.tr rfl) (fun _ _ => ?_)
                    exact K7_some rfl
theorem k7_F_X0_statement {N : Nat} {ro : Nat → Nat → Int32 → Int32 → CSt → Option (Sum Nat Int32 × CSt)} {u : CSt} (h_ro : ∀ q z a b u, K7 isl (ro q z a b u) u) : K7 isl (F_X0_statement N ro u) u := by
  unfold F_X0_statement
  exact (k7_B_X0_statement_0 h_ro).tr rfl
theorem k7_B_X0_choice_57 {N : Nat} {ro : Nat → Nat → Int32 → Int32 → CSt → Option (Sum Nat Int32 × CSt)} {u : CSt} (h_ro : ∀ q z a b u, K7 isl (ro q z a b u) u) : K7 isl (B_X0_choice_57 N ro u) u := by
  unfold B_X0_choice_57
  refine K7_bc (k7_F_X9_is.tr rfl) (fun _ _ => ?_)
  refine K7_if ?_ ?_
  · skip
    exact K7_some rfl
  · skip
    refine K7_bc (k7_F_X9_next.tr rfl) (fun _ _ => ?_)
    refine K7_bt ((h_ro _ _ _ _ _).tr rfl) (fun _ _ => ?_)
    exact K7_some rfl
theorem k7_B_X0_choice_17 {N : Nat} {ro : Nat → Nat → Int32 → Int32 → CSt → Option (Sum Nat Int32 × CSt)} {R_17 : Int32 × CSt → Option ((Sum Nat Int32) × CSt)} {l1 : Int32} {u : CSt} (h_ro : ∀ q z a b u, K7 isl (ro q z a b u) u) (h_R_17 : ∀ a, K7 isl (R_17 a) a.2) : K7 isl (B_X0_choice_17 N ro R_17 l1 u) u := by
  unfold B_X0_choice_17
  refine K7_if ?_ ?_
  · skip
    exact (k7_B_X0_choice_57 h_ro).tr rfl
  · skip
    refine K7_bc (k7_F_X9_is.tr rfl) (fun _ _ => ?_)
    refine K7_if ?_ ?_
    · skip
      exact (k7_B_X0_choice_57 h_ro).tr rfl
    · skip
      refine K7_bc (k7_F_X9_next.tr rfl) (fun _ _ => ?_)
      refine K7_bt (k7_G_X0_expression.tr rfl) (fun _ _ => ?_)
      refine K7_bt ((h_ro _ _ _ _ _).tr rfl) (fun _ _ => ?_)
      exact (h_R_17 _).tr rfl
theorem k7_LP_X0_choice_17 {N : Nat} {ro : Nat → Nat → Int32 → Int32 → CSt → Option (Sum Nat Int32 × CSt)} (h_ro : ∀ q z a b u, K7 isl (ro q z a b u) u) (n : Nat) : ∀ a : Int32 × CSt, K7 isl (LP_X0_choice_17 N ro n a) a.2 := by
  induction n with
  | zero => exact fun a r z e => by have e : (none : Option _) = some (r, z) := e; cases e
  | succ n ih =>
    intro a
    show K7 isl (B_X0_choice_17 N ro (LP_X0_choice_17 N ro n) a.1 a.2) a.2
    exact k7_B_X0_choice_17 h_ro ih
theorem k7_B_X0_choice_0 {N : Nat} {ro : Nat → Nat → Int32 → Int32 → CSt → Option (Sum Nat Int32 × CSt)} {u : CSt} (h_ro : ∀ q z a b u, K7 isl (ro q z a b u) u) : K7 isl (B_X0_choice_0 N ro u) u := by
  unfold B_X0_choice_0
  refine K7_bc (k7_F_X9_next.tr rfl) (fun _ _ => ?_)
  refine K7_bt (k7_G_X0_expression.tr rfl) (fun _ _ => ?_)
  refine K7_bt ((h_ro _ _ _ _ _).tr rfl) (fun _ _ => ?_)
  exact (k7_LP_X0_choice_17 h_ro _ _).tr rfl
theorem k7_F_X0_choice {N : Nat} {ro : Nat → Nat → Int32 → Int32 → CSt → Option (Sum Nat Int32 × CSt)} {u : CSt} (h_ro : ∀ q z a b u, K7 isl (ro q z a b u) u) : K7 isl (F_X0_choice N ro u) u := by
  unfold F_X0_choice
  exact (k7_B_X0_choice_0 h_ro).tr rfl
theorem k7_B_X0_counted_0 {N : Nat} {ro : Nat → Nat → Int32 → Int32 → CSt → Option (Sum Nat Int32 × CSt)} {u : CSt} (h_ro : ∀ q z a b u, K7 isl (ro q z a b u) u) : K7 isl (B_X0_counted_0 N ro u) u := by
  unfold B_X0_counted_0
  refine K7_bc (k7_F_X9_next.tr rfl) (fun _ _ => ?_)
  refine K7_bt (k7_F_X9_take.tr rfl) (fun _ _ => ?_)
  refine K7_bt (k7_F_X9_take.tr rfl) (fun _ _ => ?_)
  refine K7_bt (k7_G_X0_expression.tr rfl) (fun _ _ => ?_)
  refine K7_bt (k7_F_X9_take.tr rfl) (fun _ _ => ?_)
  refine K7_bt (k7_G_X0_expression.tr rfl) (fun _ _ => ?_)
  refine K7_bt ((h_ro _ _ _ _ _).tr rfl) (fun _ _ => ?_)
  exact K7_some rfl
theorem k7_F_X0_counted {N : Nat} {ro : Nat → Nat → Int32 → Int32 → CSt → Option (Sum Nat Int32 × CSt)} {u : CSt} (h_ro : ∀ q z a b u, K7 isl (ro q z a b u) u) : K7 isl (F_X0_counted N ro u) u := by
  unfold F_X0_counted
  exact (k7_B_X0_counted_0 h_ro).tr rfl
theorem k7_B_X0_cases_87 {N : Nat} {ro : Nat → Nat → Int32 → Int32 → CSt → Option (Sum Nat Int32 × CSt)} {R_19 : Int32 × CSt → Option ((Sum Nat Int32) × CSt)} {l1 : Int32} {u : CSt} (h_ro : ∀ q z a b u, K7 isl (ro q z a b u) u) (h_R_19 : ∀ a, K7 isl (R_19 a) a.2) : K7 isl (B_X0_cases_87 N ro R_19 l1 u) u := by
  unfold B_X0_cases_87
  refine K7_bt ((h_ro _ _ _ _ _).tr rfl) (fun _ _ => ?_)
  exact (h_R_19 _).tr rfl
theorem k7_B_X0_cases_51 {N : Nat} {ro : Nat → Nat → Int32 → Int32 → CSt → Option (Sum Nat Int32 × CSt)} {R_19 : Int32 × CSt → Option ((Sum Nat Int32) × CSt)} {R_51 : Int32 × Int32 × CSt → Option ((Sum Nat Int32) × CSt)} {l1 : Int32} {l2 : Int32} {u : CSt} (h_ro : ∀ q z a b u, K7 isl (ro q z a b u) u) (h_R_19 : ∀ a, K7 isl (R_19 a) a.2) (h_R_51 : ∀ a, K7 isl (R_51 a) a.2.2) : K7 isl (B_X0_cases_51 N ro R_19 R_51 l1 l2 u) u := by
  unfold B_X0_cases_51
  refine K7_if ?_ ?_
  · skip
    exact (k7_B_X0_cases_87 h_ro h_R_19).tr rfl
  · skip
    refine K7_bc (k7_F_X9_is.tr rfl) (fun _ _ => ?_)
    refine K7_if ?_ ?_
    · skip
      exact (k7_B_X0_cases_87 h_ro h_R_19).tr rfl
    · skip
      refine K7_bc (k7_F_X9_next.tr rfl) (fun _ _ => ?_)
      refine K7_bt (k7_F_X0_label.tr rfl) (fun _ _ => ?_)
      exact (h_R_51 _).tr rfl
theorem k7_LP_X0_cases_51 {N : Nat} {ro : Nat → Nat → Int32 → Int32 → CSt → Option (Sum Nat Int32 × CSt)} {R_19 : Int32 × CSt → Option ((Sum Nat Int32) × CSt)} (h_ro : ∀ q z a b u, K7 isl (ro q z a b u) u) (h_R_19 : ∀ a, K7 isl (R_19 a) a.2) (n : Nat) : ∀ a : Int32 × Int32 × CSt, K7 isl (LP_X0_cases_51 N ro R_19 n a) a.2.2 := by
  induction n with
  | zero => exact fun a r z e => by have e : (none : Option _) = some (r, z) := e; cases e
  | succ n ih =>
    intro a
    show K7 isl (B_X0_cases_51 N ro R_19 (LP_X0_cases_51 N ro R_19 n) a.1 a.2.1 a.2.2) a.2.2
    exact k7_B_X0_cases_51 h_ro h_R_19 ih
theorem k7_B_X0_cases_120 {N : Nat} {ro : Nat → Nat → Int32 → Int32 → CSt → Option (Sum Nat Int32 × CSt)} {u : CSt} (h_ro : ∀ q z a b u, K7 isl (ro q z a b u) u) : K7 isl (B_X0_cases_120 N ro u) u := by
  unfold B_X0_cases_120
  refine K7_bt (k7_F_X0_closes.tr rfl) (fun _ _ => ?_)
  exact K7_some rfl
theorem k7_B_X0_cases_97 {N : Nat} {ro : Nat → Nat → Int32 → Int32 → CSt → Option (Sum Nat Int32 × CSt)} {u : CSt} (h_ro : ∀ q z a b u, K7 isl (ro q z a b u) u) : K7 isl (B_X0_cases_97 N ro u) u := by
  unfold B_X0_cases_97
  refine K7_bc (k7_F_X9_is.tr rfl) (fun _ _ => ?_)
  refine K7_if ?_ ?_
  · skip
    exact (k7_B_X0_cases_120 h_ro).tr rfl
  · skip
    refine K7_bc (k7_F_X9_next.tr rfl) (fun _ _ => ?_)
    refine K7_bt ((h_ro _ _ _ _ _).tr rfl) (fun _ _ => ?_)
    exact (k7_B_X0_cases_120 h_ro).tr rfl
theorem k7_B_X0_cases_19 {N : Nat} {ro : Nat → Nat → Int32 → Int32 → CSt → Option (Sum Nat Int32 × CSt)} {R_19 : Int32 × CSt → Option ((Sum Nat Int32) × CSt)} {l1 : Int32} {u : CSt} (h_ro : ∀ q z a b u, K7 isl (ro q z a b u) u) (h_R_19 : ∀ a, K7 isl (R_19 a) a.2) : K7 isl (B_X0_cases_19 N ro R_19 l1 u) u := by
  unfold B_X0_cases_19
  refine K7_if ?_ ?_
  · skip
    exact (k7_B_X0_cases_97 h_ro).tr rfl
  · skip
    refine K7_bc (k7_F_X9_is.tr rfl) (fun _ _ => ?_)
    refine K7_if ?_ ?_
    · skip
      exact (k7_B_X0_cases_97 h_ro).tr rfl
    · skip
      refine K7_bc (k7_F_X9_next.tr rfl) (fun _ _ => ?_)
      refine K7_bt (k7_F_X0_label.tr rfl) (fun _ _ => ?_)
      exact (k7_LP_X0_cases_51 h_ro h_R_19 _ _).tr rfl
theorem k7_LP_X0_cases_19 {N : Nat} {ro : Nat → Nat → Int32 → Int32 → CSt → Option (Sum Nat Int32 × CSt)} (h_ro : ∀ q z a b u, K7 isl (ro q z a b u) u) (n : Nat) : ∀ a : Int32 × CSt, K7 isl (LP_X0_cases_19 N ro n a) a.2 := by
  induction n with
  | zero => exact fun a r z e => by have e : (none : Option _) = some (r, z) := e; cases e
  | succ n ih =>
    intro a
    show K7 isl (B_X0_cases_19 N ro (LP_X0_cases_19 N ro n) a.1 a.2) a.2
    exact k7_B_X0_cases_19 h_ro ih
theorem k7_B_X0_cases_0 {N : Nat} {ro : Nat → Nat → Int32 → Int32 → CSt → Option (Sum Nat Int32 × CSt)} {u : CSt} (h_ro : ∀ q z a b u, K7 isl (ro q z a b u) u) : K7 isl (B_X0_cases_0 N ro u) u := by
  unfold B_X0_cases_0
  refine K7_bc (k7_F_X9_next.tr rfl) (fun _ _ => ?_)
  refine K7_bt (k7_G_X0_expression.tr rfl) (fun _ _ => ?_)
  refine K7_bt (k7_F_X0_opens.tr rfl) (fun _ _ => ?_)
  exact (k7_LP_X0_cases_19 h_ro _ _).tr rfl
theorem k7_F_X0_cases {N : Nat} {ro : Nat → Nat → Int32 → Int32 → CSt → Option (Sum Nat Int32 × CSt)} {u : CSt} (h_ro : ∀ q z a b u, K7 isl (ro q z a b u) u) : K7 isl (F_X0_cases N ro u) u := by
  unfold F_X0_cases
  exact (k7_B_X0_cases_0 h_ro).tr rfl
theorem k7_FGS_ {N : Nat} : ∀ (d q z : Nat) (a b : Int32) (u : CSt), K7 isl (FGS_ N d q z a b u) u := by
  intro d
  induction d with
  | zero => exact fun q z a b u => K7_none
  | succ d ih =>
    intro q z a b u
    show K7 isl (if q = 0 then F_X0_body N (FGS_ N d) u else if q = 1 then F_X0_statements N (FGS_ N d) u else if q = 2 then F_X0_statement N (FGS_ N d) u else if q = 3 then F_X0_choice N (FGS_ N d) u else if q = 4 then F_X0_counted N (FGS_ N d) u else if q = 5 then F_X0_cases N (FGS_ N d) u else none) u
    refine K7_if (k7_F_X0_body ih) ?_
    refine K7_if (k7_F_X0_statements ih) ?_
    refine K7_if (k7_F_X0_statement ih) ?_
    refine K7_if (k7_F_X0_choice ih) ?_
    refine K7_if (k7_F_X0_counted ih) ?_
    refine K7_if (k7_F_X0_cases ih) ?_
    exact K7_none
theorem k7_G_X0_body {N : Nat} {u : CSt} : K7 isl (G_X0_body N u) u := k7_FGS_ _ _ _ _ _ _
theorem k7_G_X0_statements {N : Nat} {u : CSt} : K7 isl (G_X0_statements N u) u := k7_FGS_ _ _ _ _ _ _
theorem k7_B_X0_routine_132 {N : Nat} {u : CSt}  : K7 isl (B_X0_routine_132 N u) u := by
  unfold B_X0_routine_132
  refine K7_bt (k7_G_X0_statements.tr rfl) (fun _ _ => ?_)
  exact K7_some rfl
theorem k7_B_X0_routine_104 {N : Nat} {R_104 : Int32 × CSt → Option ((Sum Nat Int32) × CSt)} {l1 : Int32} {u : CSt} (h_R_104 : ∀ a, K7 isl (R_104 a) a.2) : K7 isl (B_X0_routine_104 N R_104 l1 u) u := by
  unfold B_X0_routine_104
  refine K7_if ?_ ?_
  · skip
    exact k7_B_X0_routine_132.tr rfl
  · skip
    refine K7_bc (k7_F_X9_is.tr rfl) (fun _ _ => ?_)
    refine K7_if ?_ ?_
    · skip
      exact k7_B_X0_routine_132.tr rfl
    · skip
      refine K7_bt (k7_F_X0_variables.tr rfl) (fun _ _ => ?_)
      exact (h_R_104 _).tr rfl
theorem k7_LP_X0_routine_104 {N : Nat}  (n : Nat) : ∀ a : Int32 × CSt, K7 isl (LP_X0_routine_104 N n a) a.2 := by
  induction n with
  | zero => exact fun a r z e => by have e : (none : Option _) = some (r, z) := e; cases e
  | succ n ih =>
    intro a
    show K7 isl (B_X0_routine_104 N (LP_X0_routine_104 N n) a.1 a.2) a.2
    exact k7_B_X0_routine_104 ih
theorem k7_B_X0_routine_90 {N : Nat} {u : CSt}  : K7 isl (B_X0_routine_90 N u) u := by
  unfold B_X0_routine_90
  refine K7_bt (k7_F_X0_closes.tr rfl) (fun _ _ => ?_)
  refine K7_bt (k7_F_X0_opens.tr rfl) (fun _ _ => ?_)
  exact (k7_LP_X0_routine_104  _ _).tr rfl
theorem k7_B_X0_routine_44 {N : Nat} {R_44 : Int32 × CSt → Option ((Sum Nat Int32) × CSt)} {l1 : Int32} {u : CSt} (h_R_44 : ∀ a, K7 isl (R_44 a) a.2) : K7 isl (B_X0_routine_44 N R_44 l1 u) u := by
  unfold B_X0_routine_44
  refine K7_if ?_ ?_
  · skip
    exact k7_B_X0_routine_90.tr rfl
  · skip
    refine K7_bc (k7_F_X9_is.tr rfl) (fun _ _ => ?_)
    refine K7_if ?_ ?_
    · skip
      exact k7_B_X0_routine_90.tr rfl
    · skip
      refine K7_bc (k7_F_X9_next.tr rfl) (fun _ _ => ?_)
      refine K7_bt (k7_F_X0_kind.tr rfl) (fun _ _ => ?_)
      refine K7_bt (k7_F_X9_take.tr rfl) (fun _ _ => ?_)
      exact (h_R_44 _).tr rfl
theorem k7_LP_X0_routine_44 {N : Nat}  (n : Nat) : ∀ a : Int32 × CSt, K7 isl (LP_X0_routine_44 N n a) a.2 := by
  induction n with
  | zero => exact fun a r z e => by have e : (none : Option _) = some (r, z) := e; cases e
  | succ n ih =>
    intro a
    show K7 isl (B_X0_routine_44 N (LP_X0_routine_44 N n) a.1 a.2) a.2
    exact k7_B_X0_routine_44 ih
theorem k7_B_X0_routine_42 {N : Nat} {u : CSt}  : K7 isl (B_X0_routine_42 N u) u := by
  unfold B_X0_routine_42
  exact (k7_LP_X0_routine_44  _ _).tr rfl
theorem k7_B_X0_routine_0 {N : Nat} {u : CSt}  : K7 isl (B_X0_routine_0 N u) u := by
  unfold B_X0_routine_0
  refine K7_bt (k7_F_X9_take.tr rfl) (fun _ _ => ?_)
  refine K7_bt (k7_F_X0_opens.tr rfl) (fun _ _ => ?_)
  refine K7_bc (k7_F_X9_is.tr rfl) (fun _ _ => ?_)
  refine K7_if ?_ ?_
  · skip
    refine K7_bt (k7_F_X0_kind.tr rfl) (fun _ _ => ?_)
    refine K7_bt (k7_F_X9_take.tr rfl) (fun _ _ => ?_)
    exact k7_B_X0_routine_42.tr rfl
  · skip
    exact k7_B_X0_routine_42.tr rfl
theorem k7_F_X0_routine {N : Nat} {u : CSt}  : K7 isl (F_X0_routine N u) u := by
  unfold F_X0_routine
  exact k7_B_X0_routine_0.tr rfl
theorem k7_B_X0_cyclic_65 {N : Nat} {u : CSt}  : K7 isl (B_X0_cyclic_65 N u) u := by
  unfold B_X0_cyclic_65
  refine K7_bt (k7_G_X0_body.tr rfl) (fun _ _ => ?_)
  exact K7_some rfl
theorem k7_B_X0_cyclic_0 {N : Nat} {u : CSt}  : K7 isl (B_X0_cyclic_0 N u) u := by
  unfold B_X0_cyclic_0
  refine K7_bc (k7_F_X9_next.tr rfl) (fun _ _ => ?_)
  refine K7_bt (k7_F_X9_take.tr rfl) (fun _ _ => ?_)
  refine K7_bt (k7_F_X9_take.tr rfl) (fun _ _ => ?_)
  refine K7_bt (k7_F_X9_take.tr rfl) (fun _ _ => ?_)
  refine K7_bc (k7_F_X9_is.tr rfl) (fun _ _ => ?_)
  refine K7_if ?_ ?_
  · skip
    exact k7_B_X0_cyclic_65.tr rfl
  · skip
    refine K7_bc (k7_F_X9_next.tr rfl) (fun _ _ => ?_)
    refine K7_bt (k7_F_X9_take.tr rfl) (fun _ _ => ?_)
    exact k7_B_X0_cyclic_65.tr rfl
theorem k7_F_X0_cyclic {N : Nat} {u : CSt}  : K7 isl (F_X0_cyclic N u) u := by
  unfold F_X0_cyclic
  exact k7_B_X0_cyclic_0.tr rfl
theorem k7_B_X0_check_155 {N : Nat} {R_14 : Int32 × CSt → Option ((Sum Nat Int32) × CSt)} {l1 : Int32} {u : CSt} (h_R_14 : ∀ a, K7 isl (R_14 a) a.2) : K7 isl (B_X0_check_155 N R_14 l1 u) u := by
  unfold B_X0_check_155
  exact (h_R_14 _).tr rfl
theorem k7_B_X0_check_14 {N : Nat} {R_14 : Int32 × CSt → Option ((Sum Nat Int32) × CSt)} {l1 : Int32} {u : CSt} (h_R_14 : ∀ a, K7 isl (R_14 a) a.2) : K7 isl (B_X0_check_14 N R_14 l1 u) u := by
  unfold B_X0_check_14
  refine K7_if ?_ ?_
  · skip
    exact K7_some rfl
  · skip
    refine K7_bc (k7_F_X9_is.tr rfl) (fun _ _ => ?_)
    refine K7_if ?_ ?_
    · skip
      refine K7_bc (k7_F_X9_type.tr rfl) (fun _ _ => ?_)
      refine K7_if ?_ ?_
      · skip
        refine K7_bt (k7_F_X0_variables.tr rfl) (fun _ _ => ?_)
        exact (k7_B_X0_check_155 h_R_14).tr rfl
      · skip
        refine K7_if ?_ ?_
        · skip
          refine K7_bt (k7_F_X0_variables.tr rfl) (fun _ _ => ?_)
          exact (k7_B_X0_check_155 h_R_14).tr rfl
        · skip
          refine K7_if ?_ ?_
          · skip
            refine K7_bt (k7_F_X0_placed.tr rfl) (fun _ _ => ?_)
            exact (k7_B_X0_check_155 h_R_14).tr rfl
          · skip
            refine K7_if ?_ ?_
            · skip
              refine K7_bt (k7_F_X0_placed.tr rfl) (fun _ _ => ?_)
              exact (k7_B_X0_check_155 h_R_14).tr rfl
            · skip
              refine K7_if ?_ ?_
              · skip
                refine K7_bc (k7_F_X9_next.tr rfl) (fun _ _ => ?_)
                refine K7_bt (k7_F_X0_routine.tr rfl) (fun _ _ => ?_)
                exact (k7_B_X0_check_155 h_R_14).tr rfl
              · skip
                refine K7_if ?_ ?_
                · skip
                  refine K7_bt (k7_F_X0_uses.tr rfl) (fun _ _ => ?_)
                  exact (k7_B_X0_check_155 h_R_14).tr rfl
                · skip
                  refine K7_if ?_ ?_
                  · skip
                    refine K7_bc (k7_F_X9_next.tr rfl) (fun _ _ => ?_)
                    refine K7_bt (k7_F_X0_kind.tr rfl) (fun _ _ => ?_)
                    refine K7_bt (k7_F_X0_routine.tr rfl) (fun _ _ => ?_)
                    exact (k7_B_X0_check_155 h_R_14).tr rfl
                  · skip
                    refine K7_if ?_ ?_
                    · skip
                      refine K7_bt (k7_F_X0_cyclic.tr rfl) (fun _ _ => ?_)
                      exact (k7_B_X0_check_155 h_R_14).tr rfl
                    · skip
                      refine K7_bt (k7_F_X9_refuseToken.tr rfl) (fun _ _ => ?_)
                      exact (k7_B_X0_check_155 h_R_14).tr rfl
    · skip
      exact K7_some rfl
theorem k7_LP_X0_check_14 {N : Nat}  (n : Nat) : ∀ a : Int32 × CSt, K7 isl (LP_X0_check_14 N n a) a.2 := by
  induction n with
  | zero => exact fun a r z e => by have e : (none : Option _) = some (r, z) := e; cases e
  | succ n ih =>
    intro a
    show K7 isl (B_X0_check_14 N (LP_X0_check_14 N n) a.1 a.2) a.2
    exact k7_B_X0_check_14 ih
theorem k7_B_X0_check_0 {N : Nat} {u : CSt}  : K7 isl (B_X0_check_0 N u) u := by
  unfold B_X0_check_0
  refine K7_pc ?_
  refine K7_bc (k7_F_X9_rewind.tr (f7_xI (by decide) rfl)) (fun _ _ => ?_)
  exact (k7_LP_X0_check_14  _ _).tr rfl
theorem k7_F_X0_check {N : Nat} {u : CSt}  : K7 isl (F_X0_check N u) u := by
  unfold F_X0_check
  exact k7_B_X0_check_0.tr rfl
