/-! What the calls but feed, end, load leave of the tables. -/
def jt (u w : CSt) : Prop := pI w = pI u ∧ pA w = pA u ∧ (cR w 0 = cR u 0 ∧ cR w 1 = cR u 1) ∧ mI w = mI u ∧ mL w = mL u
def KTb {β : Type} (x : Option (β × CSt)) (u : CSt) : Prop := ∀ r w, x = some (r, w) → jt u w
section KTbs
variable {α β γ : Type} {u v w : CSt}
theorem jt_rf : jt u u := ⟨rfl, rfl, ⟨rfl, rfl⟩, rfl, rfl⟩
theorem jt_tr (h : jt u v) (h2 : jt v w) : jt u w := ⟨h2.1.trans h.1, h2.2.1.trans h.2.1, ⟨h2.2.2.1.1.trans h.2.2.1.1, h2.2.2.1.2.trans h.2.2.1.2⟩, h2.2.2.2.1.trans h.2.2.2.1, h2.2.2.2.2.trans h.2.2.2.2⟩
theorem KTb.tr {x : Option (β × CSt)} (hx : KTb x w) (h : jt u w)   : KTb x u := fun r z e => jt_tr h (hx r z e)
theorem ft_xI {k : Nat} {a : Int32} (h : jt u w) : jt u (xI w k a) := h
theorem ft_xL {k : Nat} {a : Int64} (h : jt u w) : jt u (xL w k a) := h
theorem ft_xA {k i : Nat} {a : Int32} (h : jt u w) : jt u (xA w k i a) := h
theorem ft_xF {k : Nat} {g : Nat → Int32} (h : jt u w) : jt u (xF w k g) := h
theorem ft_xB {k i : Nat} {a : Int64} (h : jt u w) : jt u (xB w k i a) := h
theorem ft_xG {k : Nat} {g : Nat → Int64} (h : jt u w) : jt u (xG w k g) := h
theorem ft_xpB {q k i : Nat} {a : Int64} (h : jt u w) : jt u (xpB w q k i a) := h
theorem ft_xtI {q k : Nat} {a : Int32} (h : jt u w) : jt u (xtI w q k a) := h
theorem ft_xR {k a : Nat} (hk : k ≠ 0 ∧ k ≠ 1) (h : jt u w) : jt u (xR w k a) := by
  refine jt_tr h ⟨rfl, rfl, ⟨?_, ?_⟩, rfl, rfl⟩
  · show (if 0 = k then a else cR w 0) = _
    rw [if_neg (fun q => hk.1 q.symm)]
  · show (if 1 = k then a else cR w 1) = _
    rw [if_neg (fun q => hk.2 q.symm)]
theorem KTb_some {r : β} (h : jt u w) : KTb (some (r, w)) u := fun _ _ e => by cases e; exact h
theorem KTb_none : KTb (none : Option (β × CSt)) u := fun _ _ e => nomatch e
theorem KTb_rd {f : Nat → α} {n : Nat} {i : Int32} {k : α → Option (β × CSt)} (h : ∀ a, KTb (k a) u) : KTb (rd f n i k) u := by
  intro r z e
  have q : wq (rd f n i k) (fun r' z' => r' = r ∧ z' = z) := ⟨r, z, e, rfl, rfl⟩
  obtain ⟨r1, z1, e1, rfl, rfl⟩ := (wq_rd.mp q).2
  exact h _ _ _ e1
theorem KTb_if {c : Prop} {d : Decidable c} {a b : Option (β × CSt)} (ha : KTb a u) (hb : KTb b u) : KTb (if c then a else b) u := by
  by_cases q : c
  · rw [if_pos q]; exact ha
  · rw [if_neg q]; exact hb
theorem KTb_zr {v : Int32} {x : Option (β × CSt)} (h : KTb x u) : KTb (zr v x) u := fun r z e => h r z (zr_of e).2
theorem KTb_nz {v : Int32} {x : Option (β × CSt)} (h : KTb x u) : KTb (nz v x) u := fun r z e => h r z (nz_of e).2
theorem KTb_ok {P : Prop} {d : Decidable P} {x : Option (β × CSt)} (h : KTb x u) : KTb (ok P d x) u := fun r z e => h r z (ok_of e).2
theorem KTb_pc {x : CSt} {k : CSt → Option (β × CSt)} (h : KTb (k x) u) : KTb (pc x k) u := h
theorem KTb_wc {n : Nat} {i : Int32} {x : CSt} {k : CSt → Option (β × CSt)} (h : KTb (k x) u) : KTb (wc n i x k) u := by
  intro r z e
  have q : wq (wc n i x k) (fun r' z' => r' = r ∧ z' = z) := ⟨r, z, e, rfl, rfl⟩
  obtain ⟨r1, z1, e1, rfl, rfl⟩ := (wq_wc.mp q).2
  exact h _ _ e1
theorem KTb_bc {x : Option (α × CSt)} {k : α → CSt → Option (β × CSt)} (hx : KTb x u) (h : ∀ r w, KTb (k r w) w) : KTb (bc x k) u := by
  intro r z e
  have q : wq (bc x k) (fun r' z' => r' = r ∧ z' = z) := ⟨r, z, e, rfl, rfl⟩
  obtain ⟨r1, z1, e1, r2, z2, e2, rfl, rfl⟩ := wq_bc.mp q
  exact jt_tr (hx _ _ e1) (h _ _ _ _ e2)
theorem KTb_pb {x : Option α} {k : α → Option (β × CSt)} (h : ∀ a, KTb (k a) u) : KTb (pb x k) u := by
  intro r z e
  have q : wq (pb x k) (fun r' z' => r' = r ∧ z' = z) := ⟨r, z, e, rfl, rfl⟩
  obtain ⟨a, -, r1, z1, e1, rfl, rfl⟩ := wq_pb.mp q
  exact h _ _ _ e1
theorem KTb_bt {x : Option (Sum Nat α × CSt)} {k : α → CSt → Option (Sum Nat γ × CSt)} (hx : KTb x u) (h : ∀ r w, KTb (k r w) w) : KTb (bt x k) u := by
  intro r z e
  unfold bt at e
  cases hq : x with
  | none => rw [hq] at e; cases e
  | some a =>
    obtain ⟨y, v⟩ := a
    rw [hq] at e
    cases y with
    | inl n => cases e; exact hx _ _ hq
    | inr b => exact jt_tr (hx _ _ hq) (h _ _ _ _ e)
theorem KTb_ix {n : Nat} {i : Int32} {x : Option (β × CSt)} (h : KTb x u) : KTb (ix n i x) u := by
  intro r z e
  have q : wq (ix n i x) (fun r' z' => r' = r ∧ z' = z) := ⟨r, z, e, rfl, rfl⟩
  obtain ⟨r1, z1, e1, rfl, rfl⟩ := (wq_ix.mp q).2
  exact h _ _ e1
theorem KTb_bh {x : Option (Sum Nat α × CSt)} {kc : CSt → Option (β × CSt)} {k : α → CSt → Option (β × CSt)} (hx : KTb x u) (h0 : ∀ w, KTb (kc w) w) (h : ∀ r w, KTb (k r w) w) : KTb (bh x kc k) u := by
  intro r z e
  obtain ⟨y1, w1, e1, ⟨-, e2⟩ | ⟨q, -, e2⟩⟩ := bh_of e
  · exact jt_tr (hx _ _ e1) (h0 _ _ _ e2)
  · exact jt_tr (hx _ _ e1) (h _ _ _ _ e2)
end KTbs

theorem kt_B_X4_isPlaced_23 {N : Nat} {u : CSt}  : KTb (B_X4_isPlaced_23 N u) u := by
  unfold B_X4_isPlaced_23
  exact KTb_some jt_rf
theorem kt_B_X4_isPlaced_0 {N : Nat} {l0 : Nat} {u : CSt}  : KTb (B_X4_isPlaced_0 N l0 u) u := by
  unfold B_X4_isPlaced_0
  refine KTb_if ?_ ?_
  · skip
    refine KTb_if ?_ ?_
    · skip
      exact kt_B_X4_isPlaced_23.tr jt_rf
    · skip
      refine KTb_if ?_ ?_
      · skip
        exact kt_B_X4_isPlaced_23.tr jt_rf
      · skip
        exact KTb_some jt_rf
  · skip
    exact KTb_some jt_rf
theorem kt_F_X4_isPlaced {N : Nat} {l0 : Nat} {u : CSt}  : KTb (F_X4_isPlaced N l0 u) u := by
  unfold F_X4_isPlaced
  exact kt_B_X4_isPlaced_0.tr jt_rf
theorem kt_B_X4_isInput_0 {N : Nat} {l0 : Nat} {u : CSt}  : KTb (B_X4_isInput_0 N l0 u) u := by
  unfold B_X4_isInput_0
  refine KTb_if ?_ ?_
  · skip
    refine KTb_if ?_ ?_
    · skip
      exact KTb_some jt_rf
    · skip
      exact KTb_some jt_rf
  · skip
    exact KTb_some jt_rf
theorem kt_F_X4_isInput {N : Nat} {l0 : Nat} {u : CSt}  : KTb (F_X4_isInput N l0 u) u := by
  unfold F_X4_isInput
  exact kt_B_X4_isInput_0.tr jt_rf
theorem kt_B_X10_forget_0 {N : Nat} {u : CSt}  : KTb (B_X10_forget_0 N u) u := by
  unfold B_X10_forget_0
  refine KTb_pc ?_
  refine KTb_pc ?_
  refine KTb_pc ?_
  exact KTb_some (ft_xI (ft_xI (ft_xI jt_rf)))
theorem kt_F_X10_forget {N : Nat} {u : CSt}  : KTb (F_X10_forget N u) u := by
  unfold F_X10_forget
  exact kt_B_X10_forget_0.tr jt_rf
theorem kt_B_X10_indexOf_32 {N : Nat} {R_2 : Int32 × Int32 × Int32 × CSt → Option (Int32 × CSt)} {l1 : Int32} {l2 : Int32} {l3 : Int32} {u : CSt} (h_R_2 : ∀ a, KTb (R_2 a) a.2.2.2) : KTb (B_X10_indexOf_32 N R_2 l1 l2 l3 u) u := by
  unfold B_X10_indexOf_32
  exact (h_R_2 _).tr jt_rf
theorem kt_B_X10_indexOf_2 {N : Nat} {R_2 : Int32 × Int32 × Int32 × CSt → Option (Int32 × CSt)} {l1 : Int32} {l2 : Int32} {l3 : Int32} {u : CSt} (h_R_2 : ∀ a, KTb (R_2 a) a.2.2.2) : KTb (B_X10_indexOf_2 N R_2 l1 l2 l3 u) u := by
  unfold B_X10_indexOf_2
  refine KTb_if ?_ ?_
  · skip
    exact KTb_some jt_rf
  · skip
    refine KTb_rd (fun _ => ?_)
    refine KTb_if ?_ ?_
    · skip
      refine KTb_rd (fun _ => ?_)
      refine KTb_if ?_ ?_
      · skip
        exact KTb_some jt_rf
      · skip
        exact (kt_B_X10_indexOf_32 h_R_2).tr jt_rf
    · skip
      exact (kt_B_X10_indexOf_32 h_R_2).tr jt_rf
theorem kt_LP_X10_indexOf_2 {N : Nat}  (n : Nat) : ∀ a : Int32 × Int32 × Int32 × CSt, KTb (LP_X10_indexOf_2 N n a) a.2.2.2 := by
  induction n with
  | zero => exact fun a r z e => by have e : (none : Option _) = some (r, z) := e; cases e
  | succ n ih =>
    intro a
    show KTb (B_X10_indexOf_2 N (LP_X10_indexOf_2 N n) a.1 a.2.1 a.2.2.1 a.2.2.2) a.2.2.2
    exact kt_B_X10_indexOf_2 ih
theorem kt_B_X10_indexOf_0 {N : Nat} {l1 : Int32} {l2 : Int32} {u : CSt}  : KTb (B_X10_indexOf_0 N l1 l2 u) u := by
  unfold B_X10_indexOf_0
  exact (kt_LP_X10_indexOf_2  _ _).tr jt_rf
theorem kt_F_X10_indexOf {N : Nat} {l1 : Int32} {l2 : Int32} {u : CSt}  : KTb (F_X10_indexOf N l1 l2 u) u := by
  unfold F_X10_indexOf
  exact kt_B_X10_indexOf_0.tr jt_rf
theorem kt_B_X10_begin_0 {N : Nat} {l1 : Int32} {l2 : Int32} {l3 : Int64} {u : CSt}  : KTb (B_X10_begin_0 N l1 l2 l3 u) u := by
  unfold B_X10_begin_0
  refine KTb_if ?_ ?_
  · skip
    exact KTb_some jt_rf
  · skip
    refine KTb_wc ?_
    refine KTb_wc ?_
    refine KTb_wc ?_
    refine KTb_pc ?_
    exact KTb_some (ft_xI (ft_xB (ft_xA (ft_xA jt_rf))))
theorem kt_F_X10_begin {N : Nat} {l1 : Int32} {l2 : Int32} {l3 : Int64} {u : CSt}  : KTb (F_X10_begin N l1 l2 l3 u) u := by
  unfold F_X10_begin
  exact kt_B_X10_begin_0.tr jt_rf
theorem kt_B_X10_leave_64 {N : Nat} {u : CSt}  : KTb (B_X10_leave_64 N u) u := by
  unfold B_X10_leave_64
  refine KTb_pc ?_
  exact KTb_some (ft_xI jt_rf)
theorem kt_B_X10_leave_2 {N : Nat} {R_2 : Int32 × CSt → Option (Int32 × CSt)} {l2 : Int32} {u : CSt} (h_R_2 : ∀ a, KTb (R_2 a) a.2) : KTb (B_X10_leave_2 N R_2 l2 u) u := by
  unfold B_X10_leave_2
  refine KTb_if ?_ ?_
  · skip
    exact kt_B_X10_leave_64.tr jt_rf
  · skip
    refine KTb_if ?_ ?_
    · skip
      exact kt_B_X10_leave_64.tr jt_rf
    · skip
      refine KTb_rd (fun _ => ?_)
      refine KTb_wc ?_
      refine KTb_rd (fun _ => ?_)
      refine KTb_wc ?_
      refine KTb_rd (fun _ => ?_)
      refine KTb_wc ?_
      exact (h_R_2 _).tr (ft_xB (ft_xA (ft_xA jt_rf)))
theorem kt_LP_X10_leave_2 {N : Nat}  (n : Nat) : ∀ a : Int32 × CSt, KTb (LP_X10_leave_2 N n a) a.2 := by
  induction n with
  | zero => exact fun a r z e => by have e : (none : Option _) = some (r, z) := e; cases e
  | succ n ih =>
    intro a
    show KTb (B_X10_leave_2 N (LP_X10_leave_2 N n) a.1 a.2) a.2
    exact kt_B_X10_leave_2 ih
theorem kt_B_X10_leave_0 {N : Nat} {l1 : Int32} {u : CSt}  : KTb (B_X10_leave_0 N l1 u) u := by
  unfold B_X10_leave_0
  exact (kt_LP_X10_leave_2  _ _).tr jt_rf
theorem kt_F_X10_leave {N : Nat} {l1 : Int32} {u : CSt}  : KTb (F_X10_leave N l1 u) u := by
  unfold F_X10_leave
  exact kt_B_X10_leave_0.tr jt_rf
theorem kt_B_X10_see_0 {N : Nat} {l1 : Int32} {l2 : Int32} {l3 : Int64} {u : CSt}  : KTb (B_X10_see_0 N l1 l2 l3 u) u := by
  unfold B_X10_see_0
  refine KTb_rd (fun _ => ?_)
  refine KTb_if ?_ ?_
  · skip
    exact KTb_some jt_rf
  · skip
    refine KTb_wc ?_
    refine KTb_wc ?_
    refine KTb_rd (fun _ => ?_)
    refine KTb_wc ?_
    refine KTb_rd (fun _ => ?_)
    refine KTb_wc ?_
    refine KTb_wc ?_
    refine KTb_pc ?_
    refine KTb_if ?_ ?_
    · skip
      refine KTb_pc ?_
      exact KTb_some (ft_xI (ft_xI (ft_xB (ft_xA (ft_xA (ft_xA (ft_xB jt_rf)))))))
    · skip
      refine KTb_pc ?_
      exact KTb_some (ft_xI (ft_xI (ft_xB (ft_xA (ft_xA (ft_xA (ft_xB jt_rf)))))))
theorem kt_F_X10_see {N : Nat} {l1 : Int32} {l2 : Int32} {l3 : Int64} {u : CSt}  : KTb (F_X10_see N l1 l2 l3 u) u := by
  unfold F_X10_see
  exact kt_B_X10_see_0.tr jt_rf
theorem kt_B_X6_ofSort_0 {N : Nat} {l0 : Nat} {l1 : Int32} {u : CSt}  : KTb (B_X6_ofSort_0 N l0 l1 u) u := by
  unfold B_X6_ofSort_0
  refine KTb_rd (fun _ => ?_)
  exact KTb_some jt_rf
theorem kt_F_X6_ofSort {N : Nat} {l0 : Nat} {l1 : Int32} {u : CSt}  : KTb (F_X6_ofSort N l0 l1 u) u := by
  unfold F_X6_ofSort
  exact kt_B_X6_ofSort_0.tr jt_rf
theorem kt_B_X6_has_0 {N : Nat} {l0 : Nat} {l1 : Int32} {l2 : Int32} {u : CSt}  : KTb (B_X6_has_0 N l0 l1 l2 u) u := by
  unfold B_X6_has_0
  refine KTb_if ?_ ?_
  · skip
    exact KTb_some jt_rf
  · skip
    refine KTb_rd (fun _ => ?_)
    refine KTb_if ?_ ?_
    · skip
      exact KTb_some jt_rf
    · skip
      exact KTb_some jt_rf
theorem kt_F_X6_has {N : Nat} {l0 : Nat} {l1 : Int32} {l2 : Int32} {u : CSt}  : KTb (F_X6_has N l0 l1 l2 u) u := by
  unfold F_X6_has
  exact kt_B_X6_has_0.tr jt_rf
theorem kt_B_X6_name_0 {N : Nat} {l0 : Nat} {l1 : Int32} {u : CSt}  : KTb (B_X6_name_0 N l0 l1 u) u := by
  unfold B_X6_name_0
  refine KTb_if ?_ ?_
  · skip
    exact KTb_some jt_rf
  · skip
    refine KTb_if ?_ ?_
    · skip
      exact KTb_some jt_rf
    · skip
      refine KTb_ix ?_
      exact KTb_some jt_rf
theorem kt_F_X6_name {N : Nat} {l0 : Nat} {l1 : Int32} {u : CSt}  : KTb (F_X6_name N l0 l1 u) u := by
  unfold F_X6_name
  exact kt_B_X6_name_0.tr jt_rf
theorem kt_B_X6_nth_0 {N : Nat} {l0 : Nat} {l1 : Int32} {l2 : Int32} {u : CSt}  : KTb (B_X6_nth_0 N l0 l1 l2 u) u := by
  unfold B_X6_nth_0
  refine KTb_bc (kt_F_X6_has.tr jt_rf) (fun _ _ => ?_)
  refine KTb_if ?_ ?_
  · skip
    exact KTb_some jt_rf
  · skip
    refine KTb_ix ?_
    refine KTb_rd (fun _ => ?_)
    refine KTb_bc (kt_F_X6_name.tr jt_rf) (fun _ _ => ?_)
    refine KTb_ok ?_
    exact KTb_some jt_rf
theorem kt_F_X6_nth {N : Nat} {l0 : Nat} {l1 : Int32} {l2 : Int32} {u : CSt}  : KTb (F_X6_nth N l0 l1 l2 u) u := by
  unfold F_X6_nth
  exact kt_B_X6_nth_0.tr jt_rf
theorem kt_B_X6_local_0 {N : Nat} {l0 : Nat} {l1 : Nat} {l2 : Int32} {u : CSt}  : KTb (B_X6_local_0 N l0 l1 l2 u) u := by
  unfold B_X6_local_0
  refine KTb_if ?_ ?_
  · skip
    exact KTb_some jt_rf
  · skip
    refine KTb_if ?_ ?_
    · skip
      exact KTb_some jt_rf
    · skip
      refine KTb_bc (kt_F_X6_name.tr jt_rf) (fun _ _ => ?_)
      refine KTb_ok ?_
      exact KTb_some jt_rf
theorem kt_F_X6_local {N : Nat} {l0 : Nat} {l1 : Nat} {l2 : Int32} {u : CSt}  : KTb (F_X6_local N l0 l1 l2 u) u := by
  unfold F_X6_local
  exact kt_B_X6_local_0.tr jt_rf
theorem kt_B_X6_ofText_52 {N : Nat} {R_3 : Nat × Int64 × Int32 × Int32 × CSt → Option (Nat × CSt)} {l0 : Nat} {l1 : Int64} {l3 : Int32} {l4 : Int32} {u : CSt} (h_R_3 : ∀ a, KTb (R_3 a) a.2.2.2.2) : KTb (B_X6_ofText_52 N R_3 l0 l1 l3 l4 u) u := by
  unfold B_X6_ofText_52
  exact (h_R_3 _).tr jt_rf
theorem kt_B_X6_ofText_61 {N : Nat} {R_61 : Nat × Int64 × Int32 × Int32 × CSt → Option (Nat × CSt)} {l0 : Nat} {l1 : Int64} {l3 : Int32} {l4 : Int32} {u : CSt} (h_R_61 : ∀ a, KTb (R_61 a) a.2.2.2.2) : KTb (B_X6_ofText_61 N R_61 l0 l1 l3 l4 u) u := by
  unfold B_X6_ofText_61
  refine KTb_if ?_ ?_
  · skip
    exact KTb_some jt_rf
  · skip
    refine KTb_if ?_ ?_
    · skip
      refine KTb_ix ?_
      refine KTb_if ?_ ?_
      · skip
        refine KTb_ix ?_
        exact KTb_some jt_rf
      · skip
        exact (h_R_61 _).tr jt_rf
    · skip
      exact KTb_some jt_rf
theorem kt_LP_X6_ofText_61 {N : Nat}  (n : Nat) : ∀ a : Nat × Int64 × Int32 × Int32 × CSt, KTb (LP_X6_ofText_61 N n a) a.2.2.2.2 := by
  induction n with
  | zero => exact fun a r z e => by have e : (none : Option _) = some (r, z) := e; cases e
  | succ n ih =>
    intro a
    show KTb (B_X6_ofText_61 N (LP_X6_ofText_61 N n) a.1 a.2.1 a.2.2.1 a.2.2.2.1 a.2.2.2.2) a.2.2.2.2
    exact kt_B_X6_ofText_61 ih
theorem kt_B_X6_ofText_3 {N : Nat} {R_3 : Nat × Int64 × Int32 × Int32 × CSt → Option (Nat × CSt)} {l0 : Nat} {l1 : Int64} {l3 : Int32} {l4 : Int32} {u : CSt} (h_R_3 : ∀ a, KTb (R_3 a) a.2.2.2.2) : KTb (B_X6_ofText_3 N R_3 l0 l1 l3 l4 u) u := by
  unfold B_X6_ofText_3
  refine KTb_if ?_ ?_
  · skip
    exact (kt_LP_X6_ofText_61  _ _).tr jt_rf
  · skip
    refine KTb_ix ?_
    refine KTb_if ?_ ?_
    · skip
      refine KTb_if ?_ ?_
      · skip
        refine KTb_if ?_ ?_
        · skip
          exact (kt_B_X6_ofText_52 h_R_3).tr jt_rf
        · skip
          exact KTb_some jt_rf
      · skip
        exact (kt_B_X6_ofText_52 h_R_3).tr jt_rf
    · skip
      exact (kt_B_X6_ofText_52 h_R_3).tr jt_rf
theorem kt_LP_X6_ofText_3 {N : Nat}  (n : Nat) : ∀ a : Nat × Int64 × Int32 × Int32 × CSt, KTb (LP_X6_ofText_3 N n a) a.2.2.2.2 := by
  induction n with
  | zero => exact fun a r z e => by have e : (none : Option _) = some (r, z) := e; cases e
  | succ n ih =>
    intro a
    show KTb (B_X6_ofText_3 N (LP_X6_ofText_3 N n) a.1 a.2.1 a.2.2.1 a.2.2.2.1 a.2.2.2.2) a.2.2.2.2
    exact kt_B_X6_ofText_3 ih
theorem kt_B_X6_ofText_0 {N : Nat} {l0 : Nat} {l1 : Int64} {l3 : Int32} {u : CSt}  : KTb (B_X6_ofText_0 N l0 l1 l3 u) u := by
  unfold B_X6_ofText_0
  exact (kt_LP_X6_ofText_3  _ _).tr jt_rf
theorem kt_F_X6_ofText {N : Nat} {l0 : Nat} {l1 : Int64} {l3 : Int32} {u : CSt}  : KTb (F_X6_ofText N l0 l1 l3 u) u := by
  unfold F_X6_ofText
  exact kt_B_X6_ofText_0.tr jt_rf
theorem kt_B_X6_stoppedTasks_32 {N : Nat} {R_4 : Nat × Int32 × Int32 × CSt → Option (Int32 × CSt)} {l0 : Nat} {l2 : Int32} {s0 : Int32} {s1 : Int32} {u : CSt} (h_R_4 : ∀ a, KTb (R_4 a) a.2.2.2) : KTb (B_X6_stoppedTasks_32 N R_4 l0 l2 s0 s1 u) u := by
  unfold B_X6_stoppedTasks_32
  exact (h_R_4 _).tr jt_rf
theorem kt_B_X6_stoppedTasks_4 {N : Nat} {R_4 : Nat × Int32 × Int32 × CSt → Option (Int32 × CSt)} {l0 : Nat} {l1 : Int32} {l2 : Int32} {u : CSt} (h_R_4 : ∀ a, KTb (R_4 a) a.2.2.2) : KTb (B_X6_stoppedTasks_4 N R_4 l0 l1 l2 u) u := by
  unfold B_X6_stoppedTasks_4
  refine KTb_rd (fun _ => ?_)
  refine KTb_if ?_ ?_
  · skip
    exact KTb_some jt_rf
  · skip
    refine KTb_ix ?_
    refine KTb_if ?_ ?_
    · skip
      exact (kt_B_X6_stoppedTasks_32 h_R_4).tr jt_rf
    · skip
      exact (kt_B_X6_stoppedTasks_32 h_R_4).tr jt_rf
theorem kt_LP_X6_stoppedTasks_4 {N : Nat}  (n : Nat) : ∀ a : Nat × Int32 × Int32 × CSt, KTb (LP_X6_stoppedTasks_4 N n a) a.2.2.2 := by
  induction n with
  | zero => exact fun a r z e => by have e : (none : Option _) = some (r, z) := e; cases e
  | succ n ih =>
    intro a
    show KTb (B_X6_stoppedTasks_4 N (LP_X6_stoppedTasks_4 N n) a.1 a.2.1 a.2.2.1 a.2.2.2) a.2.2.2
    exact kt_B_X6_stoppedTasks_4 ih
theorem kt_B_X6_stoppedTasks_0 {N : Nat} {l0 : Nat} {u : CSt}  : KTb (B_X6_stoppedTasks_0 N l0 u) u := by
  unfold B_X6_stoppedTasks_0
  exact (kt_LP_X6_stoppedTasks_4  _ _).tr jt_rf
theorem kt_F_X6_stoppedTasks {N : Nat} {l0 : Nat} {u : CSt}  : KTb (F_X6_stoppedTasks N l0 u) u := by
  unfold F_X6_stoppedTasks
  exact kt_B_X6_stoppedTasks_0.tr jt_rf
theorem kt_B_X6_liesIn_52 {N : Nat} {R_3 : Nat × Int64 × Int32 × Int32 × Int32 × CSt → Option (Int32 × CSt)} {l0 : Nat} {l1 : Int64} {l3 : Int32} {l4 : Int32} {l5 : Int32} {u : CSt} (h_R_3 : ∀ a, KTb (R_3 a) a.2.2.2.2.2) : KTb (B_X6_liesIn_52 N R_3 l0 l1 l3 l4 l5 u) u := by
  unfold B_X6_liesIn_52
  exact (h_R_3 _).tr jt_rf
theorem kt_B_X6_liesIn_3 {N : Nat} {R_3 : Nat × Int64 × Int32 × Int32 × Int32 × CSt → Option (Int32 × CSt)} {l0 : Nat} {l1 : Int64} {l3 : Int32} {l4 : Int32} {l5 : Int32} {u : CSt} (h_R_3 : ∀ a, KTb (R_3 a) a.2.2.2.2.2) : KTb (B_X6_liesIn_3 N R_3 l0 l1 l3 l4 l5 u) u := by
  unfold B_X6_liesIn_3
  refine KTb_if ?_ ?_
  · skip
    exact KTb_some jt_rf
  · skip
    refine KTb_if ?_ ?_
    · skip
      exact KTb_some jt_rf
    · skip
      refine KTb_if ?_ ?_
      · skip
        exact KTb_some jt_rf
      · skip
        refine KTb_rd (fun _ => ?_)
        refine KTb_if ?_ ?_
        · skip
          exact (kt_B_X6_liesIn_52 h_R_3).tr jt_rf
        · skip
          refine KTb_rd (fun _ => ?_)
          refine KTb_if ?_ ?_
          · skip
            exact (kt_B_X6_liesIn_52 h_R_3).tr jt_rf
          · skip
            exact KTb_some jt_rf
theorem kt_LP_X6_liesIn_3 {N : Nat}  (n : Nat) : ∀ a : Nat × Int64 × Int32 × Int32 × Int32 × CSt, KTb (LP_X6_liesIn_3 N n a) a.2.2.2.2.2 := by
  induction n with
  | zero => exact fun a r z e => by have e : (none : Option _) = some (r, z) := e; cases e
  | succ n ih =>
    intro a
    show KTb (B_X6_liesIn_3 N (LP_X6_liesIn_3 N n) a.1 a.2.1 a.2.2.1 a.2.2.2.1 a.2.2.2.2.1 a.2.2.2.2.2) a.2.2.2.2.2
    exact kt_B_X6_liesIn_3 ih
theorem kt_B_X6_liesIn_0 {N : Nat} {l0 : Nat} {l1 : Int64} {l3 : Int32} {l4 : Int32} {u : CSt}  : KTb (B_X6_liesIn_0 N l0 l1 l3 l4 u) u := by
  unfold B_X6_liesIn_0
  exact (kt_LP_X6_liesIn_3  _ _).tr jt_rf
theorem kt_F_X6_liesIn {N : Nat} {l0 : Nat} {l1 : Int64} {l3 : Int32} {l4 : Int32} {u : CSt}  : KTb (F_X6_liesIn N l0 l1 l3 l4 u) u := by
  unfold F_X6_liesIn
  exact kt_B_X6_liesIn_0.tr jt_rf
theorem kt_B_X9_byteAt_0 {N : Nat} {l1 : Int32} {u : CSt}  : KTb (B_X9_byteAt_0 N l1 u) u := by
  unfold B_X9_byteAt_0
  refine KTb_if ?_ ?_
  · skip
    exact KTb_some jt_rf
  · skip
    refine KTb_if ?_ ?_
    · skip
      exact KTb_some jt_rf
    · skip
      refine KTb_if ?_ ?_
      · skip
        exact KTb_some jt_rf
      · skip
        refine KTb_rd (fun _ => ?_)
        exact KTb_some jt_rf
theorem kt_F_X9_byteAt {N : Nat} {l1 : Int32} {u : CSt}  : KTb (F_X9_byteAt N l1 u) u := by
  unfold F_X9_byteAt
  exact kt_B_X9_byteAt_0.tr jt_rf
theorem kt_B_X9_isWord_20 {N : Nat} {R_20 : Int32 × Int32 × CSt → Option (Int32 × CSt)} {l1 : Int32} {l2 : Int32} {u : CSt} (h_R_20 : ∀ a, KTb (R_20 a) a.2.2) : KTb (B_X9_isWord_20 N R_20 l1 l2 u) u := by
  unfold B_X9_isWord_20
  refine KTb_if ?_ ?_
  · skip
    exact KTb_some jt_rf
  · skip
    refine KTb_bc (kt_F_X9_byteAt.tr jt_rf) (fun _ _ => ?_)
    refine KTb_pb (fun _ => ?_)
    refine KTb_if ?_ ?_
    · skip
      exact KTb_some jt_rf
    · skip
      exact (h_R_20 _).tr jt_rf
theorem kt_LP_X9_isWord_20 {N : Nat}  (n : Nat) : ∀ a : Int32 × Int32 × CSt, KTb (LP_X9_isWord_20 N n a) a.2.2 := by
  induction n with
  | zero => exact fun a r z e => by have e : (none : Option _) = some (r, z) := e; cases e
  | succ n ih =>
    intro a
    show KTb (B_X9_isWord_20 N (LP_X9_isWord_20 N n) a.1 a.2.1 a.2.2) a.2.2
    exact kt_B_X9_isWord_20 ih
theorem kt_B_X9_isWord_0 {N : Nat} {l1 : Int32} {u : CSt}  : KTb (B_X9_isWord_0 N l1 u) u := by
  unfold B_X9_isWord_0
  refine KTb_pc ?_
  refine KTb_if ?_ ?_
  · skip
    exact KTb_some (ft_xI jt_rf)
  · skip
    refine KTb_if ?_ ?_
    · skip
      exact (kt_LP_X9_isWord_20  _ _).tr (ft_xI jt_rf)
    · skip
      exact KTb_some (ft_xI jt_rf)
theorem kt_F_X9_isWord {N : Nat} {l1 : Int32} {u : CSt}  : KTb (F_X9_isWord N l1 u) u := by
  unfold F_X9_isWord
  exact kt_B_X9_isWord_0.tr jt_rf
theorem kt_B_X9_wordHead_5 {N : Nat} {R_5 : Int32 × Int32 × Int64 × Int32 × CSt → Option (Int64 × CSt)} {l1 : Int32} {l2 : Int32} {l3 : Int64} {l5 : Int32} {u : CSt} (h_R_5 : ∀ a, KTb (R_5 a) a.2.2.2.2) : KTb (B_X9_wordHead_5 N R_5 l1 l2 l3 l5 u) u := by
  unfold B_X9_wordHead_5
  refine KTb_if ?_ ?_
  · skip
    exact KTb_some jt_rf
  · skip
    refine KTb_if ?_ ?_
    · skip
      exact KTb_some jt_rf
    · skip
      refine KTb_bc (kt_F_X9_byteAt.tr jt_rf) (fun _ _ => ?_)
      exact (h_R_5 _).tr jt_rf
theorem kt_LP_X9_wordHead_5 {N : Nat}  (n : Nat) : ∀ a : Int32 × Int32 × Int64 × Int32 × CSt, KTb (LP_X9_wordHead_5 N n a) a.2.2.2.2 := by
  induction n with
  | zero => exact fun a r z e => by have e : (none : Option _) = some (r, z) := e; cases e
  | succ n ih =>
    intro a
    show KTb (B_X9_wordHead_5 N (LP_X9_wordHead_5 N n) a.1 a.2.1 a.2.2.1 a.2.2.2.1 a.2.2.2.2) a.2.2.2.2
    exact kt_B_X9_wordHead_5 ih
theorem kt_B_X9_wordHead_0 {N : Nat} {l1 : Int32} {l2 : Int32} {u : CSt}  : KTb (B_X9_wordHead_0 N l1 l2 u) u := by
  unfold B_X9_wordHead_0
  exact (kt_LP_X9_wordHead_5  _ _).tr jt_rf
theorem kt_F_X9_wordHead {N : Nat} {l1 : Int32} {l2 : Int32} {u : CSt}  : KTb (F_X9_wordHead N l1 l2 u) u := by
  unfold F_X9_wordHead
  exact kt_B_X9_wordHead_0.tr jt_rf
theorem kt_B_X9_wordTail_8 {N : Nat} {R_8 : Int32 × Int32 × Int32 × CSt → Option (Int32 × CSt)} {l2 : Int32} {l3 : Int32} {l4 : Int32} {u : CSt} (h_R_8 : ∀ a, KTb (R_8 a) a.2.2.2) : KTb (B_X9_wordTail_8 N R_8 l2 l3 l4 u) u := by
  unfold B_X9_wordTail_8
  refine KTb_if ?_ ?_
  · skip
    exact KTb_some jt_rf
  · skip
    refine KTb_bc (kt_F_X9_byteAt.tr jt_rf) (fun _ _ => ?_)
    exact (h_R_8 _).tr jt_rf
theorem kt_LP_X9_wordTail_8 {N : Nat}  (n : Nat) : ∀ a : Int32 × Int32 × Int32 × CSt, KTb (LP_X9_wordTail_8 N n a) a.2.2.2 := by
  induction n with
  | zero => exact fun a r z e => by have e : (none : Option _) = some (r, z) := e; cases e
  | succ n ih =>
    intro a
    show KTb (B_X9_wordTail_8 N (LP_X9_wordTail_8 N n) a.1 a.2.1 a.2.2.1 a.2.2.2) a.2.2.2
    exact kt_B_X9_wordTail_8 ih
theorem kt_B_X9_wordTail_0 {N : Nat} {l1 : Int32} {l2 : Int32} {u : CSt}  : KTb (B_X9_wordTail_0 N l1 l2 u) u := by
  unfold B_X9_wordTail_0
  exact (kt_LP_X9_wordTail_8  _ _).tr jt_rf
theorem kt_F_X9_wordTail {N : Nat} {l1 : Int32} {l2 : Int32} {u : CSt}  : KTb (F_X9_wordTail N l1 l2 u) u := by
  unfold F_X9_wordTail
  exact kt_B_X9_wordTail_0.tr jt_rf
theorem kt_B_X7_isDue_0 {N : Nat} {l0 : Nat} {l1 : Int32} {u : CSt}  : KTb (B_X7_isDue_0 N l0 l1 u) u := by
  unfold B_X7_isDue_0
  refine KTb_if ?_ ?_
  · skip
    exact KTb_some jt_rf
  · skip
    refine KTb_pb (fun _ => ?_)
    refine KTb_if ?_ ?_
    · skip
      exact KTb_some jt_rf
    · skip
      exact KTb_some jt_rf
theorem kt_F_X7_isDue {N : Nat} {l0 : Nat} {l1 : Int32} {u : CSt}  : KTb (F_X7_isDue N l0 l1 u) u := by
  unfold F_X7_isDue
  exact kt_B_X7_isDue_0.tr jt_rf
theorem kt_B_X10_latest_0 {N : Nat} {l1 : Int32} {u : CSt}  : KTb (B_X10_latest_0 N l1 u) u := by
  unfold B_X10_latest_0
  refine KTb_pb (fun _ => ?_)
  exact KTb_some jt_rf
theorem kt_F_X10_latest {N : Nat} {l1 : Int32} {u : CSt}  : KTb (F_X10_latest N l1 u) u := by
  unfold F_X10_latest
  exact kt_B_X10_latest_0.tr jt_rf
theorem kt_B_X1_takeInputs_2 {N : Nat} {R_2 : Int32 × CSt → Option (Int32 × CSt)} {l1 : Int32} {u : CSt} (h_R_2 : ∀ a, KTb (R_2 a) a.2) : KTb (B_X1_takeInputs_2 N R_2 l1 u) u := by
  unfold B_X1_takeInputs_2
  refine KTb_if ?_ ?_
  · skip
    exact KTb_some jt_rf
  · skip
    refine KTb_ix ?_
    refine KTb_rd (fun _ => ?_)
    refine KTb_ix ?_
    refine KTb_rd (fun _ => ?_)
    refine KTb_ix ?_
    refine KTb_ix ?_
    refine KTb_rd (fun _ => ?_)
    refine KTb_wc ?_
    exact (h_R_2 _).tr (ft_xA jt_rf)
theorem kt_LP_X1_takeInputs_2 {N : Nat}  (n : Nat) : ∀ a : Int32 × CSt, KTb (LP_X1_takeInputs_2 N n a) a.2 := by
  induction n with
  | zero => exact fun a r z e => by have e : (none : Option _) = some (r, z) := e; cases e
  | succ n ih =>
    intro a
    show KTb (B_X1_takeInputs_2 N (LP_X1_takeInputs_2 N n) a.1 a.2) a.2
    exact kt_B_X1_takeInputs_2 ih
theorem kt_B_X1_takeInputs_0 {N : Nat} {u : CSt}  : KTb (B_X1_takeInputs_0 N u) u := by
  unfold B_X1_takeInputs_0
  exact (kt_LP_X1_takeInputs_2  _ _).tr jt_rf
theorem kt_F_X1_takeInputs {N : Nat} {u : CSt}  : KTb (F_X1_takeInputs N u) u := by
  unfold F_X1_takeInputs
  exact kt_B_X1_takeInputs_0.tr jt_rf
theorem kt_B_X1_giveOutputs_2 {N : Nat} {R_2 : Int32 × CSt → Option (Int32 × CSt)} {l1 : Int32} {u : CSt} (h_R_2 : ∀ a, KTb (R_2 a) a.2) : KTb (B_X1_giveOutputs_2 N R_2 l1 u) u := by
  unfold B_X1_giveOutputs_2
  refine KTb_if ?_ ?_
  · skip
    exact KTb_some jt_rf
  · skip
    refine KTb_ix ?_
    refine KTb_rd (fun _ => ?_)
    refine KTb_ix ?_
    refine KTb_rd (fun _ => ?_)
    refine KTb_ix ?_
    refine KTb_ix ?_
    refine KTb_rd (fun _ => ?_)
    refine KTb_wc ?_
    refine KTb_ix ?_
    refine KTb_ix ?_
    refine KTb_rd (fun _ => ?_)
    refine KTb_wc ?_
    exact (h_R_2 _).tr (ft_xA (ft_xA jt_rf))
theorem kt_LP_X1_giveOutputs_2 {N : Nat}  (n : Nat) : ∀ a : Int32 × CSt, KTb (LP_X1_giveOutputs_2 N n a) a.2 := by
  induction n with
  | zero => exact fun a r z e => by have e : (none : Option _) = some (r, z) := e; cases e
  | succ n ih =>
    intro a
    show KTb (B_X1_giveOutputs_2 N (LP_X1_giveOutputs_2 N n) a.1 a.2) a.2
    exact kt_B_X1_giveOutputs_2 ih
theorem kt_B_X1_giveOutputs_0 {N : Nat} {u : CSt}  : KTb (B_X1_giveOutputs_0 N u) u := by
  unfold B_X1_giveOutputs_0
  exact (kt_LP_X1_giveOutputs_2  _ _).tr jt_rf
theorem kt_F_X1_giveOutputs {N : Nat} {u : CSt}  : KTb (F_X1_giveOutputs N u) u := by
  unfold F_X1_giveOutputs
  exact kt_B_X1_giveOutputs_0.tr jt_rf
theorem kt_B_X1_wipe_0 {N : Nat} {u : CSt}  : KTb (B_X1_wipe_0 N u) u := by
  unfold B_X1_wipe_0
  refine KTb_ix ?_
  refine KTb_pc ?_
  refine KTb_ix ?_
  refine KTb_pc ?_
  exact KTb_some (ft_xF (ft_xF jt_rf))
theorem kt_F_X1_wipe {N : Nat} {u : CSt}  : KTb (F_X1_wipe N u) u := by
  unfold F_X1_wipe
  exact kt_B_X1_wipe_0.tr jt_rf
theorem kt_B_X1_get_57 {N : Nat} {l3 : Int32} {l4 : Int64} {u : CSt}  : KTb (B_X1_get_57 N l3 l4 u) u := by
  unfold B_X1_get_57
  exact KTb_some jt_rf
theorem kt_B_X1_get_6 {N : Nat} {R_6 : Int32 × Int32 × Int32 × Int64 × Int32 × CSt → Option (Int64 × CSt)} {l1 : Int32} {l2 : Int32} {l3 : Int32} {l4 : Int64} {l6 : Int32} {u : CSt} (h_R_6 : ∀ a, KTb (R_6 a) a.2.2.2.2.2) : KTb (B_X1_get_6 N R_6 l1 l2 l3 l4 l6 u) u := by
  unfold B_X1_get_6
  refine KTb_rd (fun _ => ?_)
  refine KTb_if ?_ ?_
  · skip
    exact kt_B_X1_get_57.tr jt_rf
  · skip
    refine KTb_if ?_ ?_
    · skip
      exact kt_B_X1_get_57.tr jt_rf
    · skip
      refine KTb_if ?_ ?_
      · skip
        exact kt_B_X1_get_57.tr jt_rf
      · skip
        refine KTb_ix ?_
        refine KTb_rd (fun _ => ?_)
        exact (h_R_6 _).tr jt_rf
theorem kt_LP_X1_get_6 {N : Nat}  (n : Nat) : ∀ a : Int32 × Int32 × Int32 × Int64 × Int32 × CSt, KTb (LP_X1_get_6 N n a) a.2.2.2.2.2 := by
  induction n with
  | zero => exact fun a r z e => by have e : (none : Option _) = some (r, z) := e; cases e
  | succ n ih =>
    intro a
    show KTb (B_X1_get_6 N (LP_X1_get_6 N n) a.1 a.2.1 a.2.2.1 a.2.2.2.1 a.2.2.2.2.1 a.2.2.2.2.2) a.2.2.2.2.2
    exact kt_B_X1_get_6 ih
theorem kt_B_X1_get_0 {N : Nat} {l1 : Int32} {l2 : Int32} {l3 : Int32} {u : CSt}  : KTb (B_X1_get_0 N l1 l2 l3 u) u := by
  unfold B_X1_get_0
  exact (kt_LP_X1_get_6  _ _).tr jt_rf
theorem kt_F_X1_get {N : Nat} {l1 : Int32} {l2 : Int32} {l3 : Int32} {u : CSt}  : KTb (F_X1_get N l1 l2 l3 u) u := by
  unfold F_X1_get
  exact kt_B_X1_get_0.tr jt_rf
theorem kt_B_X1_set_13 {N : Nat} {R_13 : Int64 × Int32 × Int32 × CSt → Option (Int32 × CSt)} {l3 : Int64} {l5 : Int32} {l6 : Int32} {u : CSt} (h_R_13 : ∀ a, KTb (R_13 a) a.2.2.2) : KTb (B_X1_set_13 N R_13 l3 l5 l6 u) u := by
  unfold B_X1_set_13
  refine KTb_if ?_ ?_
  · skip
    exact KTb_some jt_rf
  · skip
    refine KTb_if ?_ ?_
    · skip
      exact KTb_some jt_rf
    · skip
      refine KTb_if ?_ ?_
      · skip
        exact KTb_some jt_rf
      · skip
        refine KTb_ix ?_
        refine KTb_wc ?_
        exact (h_R_13 _).tr (ft_xA jt_rf)
theorem kt_LP_X1_set_13 {N : Nat}  (n : Nat) : ∀ a : Int64 × Int32 × Int32 × CSt, KTb (LP_X1_set_13 N n a) a.2.2.2 := by
  induction n with
  | zero => exact fun a r z e => by have e : (none : Option _) = some (r, z) := e; cases e
  | succ n ih =>
    intro a
    show KTb (B_X1_set_13 N (LP_X1_set_13 N n) a.1 a.2.1 a.2.2.1 a.2.2.2) a.2.2.2
    exact kt_B_X1_set_13 ih
theorem kt_B_X1_set_0 {N : Nat} {l1 : Int32} {l2 : Int32} {l3 : Int64} {u : CSt}  : KTb (B_X1_set_0 N l1 l2 l3 u) u := by
  unfold B_X1_set_0
  refine KTb_rd (fun _ => ?_)
  exact (kt_LP_X1_set_13  _ _).tr jt_rf
theorem kt_F_X1_set {N : Nat} {l1 : Int32} {l2 : Int32} {l3 : Int64} {u : CSt}  : KTb (F_X1_set N l1 l2 l3 u) u := by
  unfold F_X1_set
  exact kt_B_X1_set_0.tr jt_rf
theorem kt_B_X2_numberAt_0 {N : Nat} {l1 : Int32} {u : CSt}  : KTb (B_X2_numberAt_0 N l1 u) u := by
  unfold B_X2_numberAt_0
  refine KTb_if ?_ ?_
  · skip
    exact KTb_some jt_rf
  · skip
    refine KTb_if ?_ ?_
    · skip
      exact KTb_some jt_rf
    · skip
      refine KTb_rd (fun _ => ?_)
      exact KTb_some jt_rf
theorem kt_F_X2_numberAt {N : Nat} {l1 : Int32} {u : CSt}  : KTb (F_X2_numberAt N l1 u) u := by
  unfold F_X2_numberAt
  exact kt_B_X2_numberAt_0.tr jt_rf
theorem kt_B_X2_put_0 {N : Nat} {l1 : Int32} {l2 : Int64} {u : CSt}  : KTb (B_X2_put_0 N l1 l2 u) u := by
  unfold B_X2_put_0
  refine KTb_if ?_ ?_
  · skip
    exact KTb_some jt_rf
  · skip
    refine KTb_if ?_ ?_
    · skip
      exact KTb_some jt_rf
    · skip
      refine KTb_wc ?_
      exact KTb_some (ft_xB jt_rf)
theorem kt_F_X2_put {N : Nat} {l1 : Int32} {l2 : Int64} {u : CSt}  : KTb (F_X2_put N l1 l2 u) u := by
  unfold F_X2_put
  exact kt_B_X2_put_0.tr jt_rf
theorem kt_B_X2_fill_3 {N : Nat} {R_3 : Int32 × Int32 × Int64 × Int32 × CSt → Option (Int32 × CSt)} {l1 : Int32} {l2 : Int32} {l3 : Int64} {l5 : Int32} {u : CSt} (h_R_3 : ∀ a, KTb (R_3 a) a.2.2.2.2) : KTb (B_X2_fill_3 N R_3 l1 l2 l3 l5 u) u := by
  unfold B_X2_fill_3
  refine KTb_if ?_ ?_
  · skip
    exact KTb_some jt_rf
  · skip
    refine KTb_bc (kt_F_X2_put.tr jt_rf) (fun _ _ => ?_)
    exact (h_R_3 _).tr jt_rf
theorem kt_LP_X2_fill_3 {N : Nat}  (n : Nat) : ∀ a : Int32 × Int32 × Int64 × Int32 × CSt, KTb (LP_X2_fill_3 N n a) a.2.2.2.2 := by
  induction n with
  | zero => exact fun a r z e => by have e : (none : Option _) = some (r, z) := e; cases e
  | succ n ih =>
    intro a
    show KTb (B_X2_fill_3 N (LP_X2_fill_3 N n) a.1 a.2.1 a.2.2.1 a.2.2.2.1 a.2.2.2.2) a.2.2.2.2
    exact kt_B_X2_fill_3 ih
theorem kt_B_X2_fill_0 {N : Nat} {l1 : Int32} {l2 : Int32} {l3 : Int64} {u : CSt}  : KTb (B_X2_fill_0 N l1 l2 l3 u) u := by
  unfold B_X2_fill_0
  exact (kt_LP_X2_fill_3  _ _).tr jt_rf
theorem kt_F_X2_fill {N : Nat} {l1 : Int32} {l2 : Int32} {l3 : Int64} {u : CSt}  : KTb (F_X2_fill N l1 l2 l3 u) u := by
  unfold F_X2_fill
  exact kt_B_X2_fill_0.tr jt_rf
theorem kt_B_X2_numberOf_23 {N : Nat} {l1 : Nat} {s1 : Int32} {u : CSt}  : KTb (B_X2_numberOf_23 N l1 s1 u) u := by
  unfold B_X2_numberOf_23
  refine KTb_bc (kt_F_X1_get.tr jt_rf) (fun _ _ => ?_)
  exact KTb_some jt_rf
theorem kt_B_X2_numberOf_0 {N : Nat} {l1 : Nat} {l2 : Int32} {u : CSt}  : KTb (B_X2_numberOf_0 N l1 l2 u) u := by
  unfold B_X2_numberOf_0
  refine KTb_bc (kt_F_X4_isPlaced.tr jt_rf) (fun _ _ => ?_)
  refine KTb_if ?_ ?_
  · skip
    refine KTb_bc (kt_F_X2_numberAt.tr jt_rf) (fun _ _ => ?_)
    exact KTb_some jt_rf
  · skip
    refine KTb_bc (kt_F_X4_isInput.tr jt_rf) (fun _ _ => ?_)
    refine KTb_if ?_ ?_
    · skip
      exact kt_B_X2_numberOf_23.tr jt_rf
    · skip
      exact kt_B_X2_numberOf_23.tr jt_rf
theorem kt_F_X2_numberOf {N : Nat} {l1 : Nat} {l2 : Int32} {u : CSt}  : KTb (F_X2_numberOf N l1 l2 u) u := by
  unfold F_X2_numberOf
  exact kt_B_X2_numberOf_0.tr jt_rf
theorem kt_B_X2_change_0 {N : Nat} {l1 : Nat} {l2 : Int32} {l3 : Int64} {u : CSt}  : KTb (B_X2_change_0 N l1 l2 l3 u) u := by
  unfold B_X2_change_0
  refine KTb_bc (kt_F_X4_isPlaced.tr jt_rf) (fun _ _ => ?_)
  refine KTb_if ?_ ?_
  · skip
    refine KTb_bc (kt_F_X2_put.tr jt_rf) (fun _ _ => ?_)
    exact KTb_some jt_rf
  · skip
    refine KTb_bc (kt_F_X1_set.tr jt_rf) (fun _ _ => ?_)
    exact KTb_some jt_rf
theorem kt_F_X2_change {N : Nat} {l1 : Nat} {l2 : Int32} {l3 : Int64} {u : CSt}  : KTb (F_X2_change N l1 l2 l3 u) u := by
  unfold F_X2_change
  exact kt_B_X2_change_0.tr jt_rf
theorem kt_B_X2_keep_17 {N : Nat} {R_17 : Nat × Nat × Int32 × CSt → Option (Int32 × CSt)} {l1 : Nat} {l2 : Nat} {l3 : Int32} {u : CSt} (h_R_17 : ∀ a, KTb (R_17 a) a.2.2.2) : KTb (B_X2_keep_17 N R_17 l1 l2 l3 u) u := by
  unfold B_X2_keep_17
  refine KTb_if ?_ ?_
  · skip
    exact KTb_some jt_rf
  · skip
    refine KTb_if ?_ ?_
    · skip
      exact KTb_some jt_rf
    · skip
      refine KTb_if ?_ ?_
      · skip
        exact KTb_some jt_rf
      · skip
        refine KTb_rd (fun _ => ?_)
        refine KTb_bc (kt_F_X2_put.tr jt_rf) (fun _ _ => ?_)
        exact (h_R_17 _).tr jt_rf
theorem kt_LP_X2_keep_17 {N : Nat}  (n : Nat) : ∀ a : Nat × Nat × Int32 × CSt, KTb (LP_X2_keep_17 N n a) a.2.2.2 := by
  induction n with
  | zero => exact fun a r z e => by have e : (none : Option _) = some (r, z) := e; cases e
  | succ n ih =>
    intro a
    show KTb (B_X2_keep_17 N (LP_X2_keep_17 N n) a.1 a.2.1 a.2.2.1 a.2.2.2) a.2.2.2
    exact kt_B_X2_keep_17 ih
theorem kt_B_X2_keep_0 {N : Nat} {l1 : Nat} {l2 : Nat} {u : CSt}  : KTb (B_X2_keep_0 N l1 l2 u) u := by
  unfold B_X2_keep_0
  refine KTb_if ?_ ?_
  · skip
    refine KTb_bc (kt_F_X4_isPlaced.tr jt_rf) (fun _ _ => ?_)
    refine KTb_if ?_ ?_
    · skip
      exact (kt_LP_X2_keep_17  _ _).tr jt_rf
    · skip
      exact KTb_some jt_rf
  · skip
    exact KTb_some jt_rf
theorem kt_F_X2_keep {N : Nat} {l1 : Nat} {l2 : Nat} {u : CSt}  : KTb (F_X2_keep N l1 l2 u) u := by
  unfold F_X2_keep
  exact kt_B_X2_keep_0.tr jt_rf
theorem kt_B_X2_resetInstances_31 {N : Nat} {R_2 : Nat × Int32 × CSt → Option (Int32 × CSt)} {R_31 : Nat × Int32 × Nat × Nat × Int32 × CSt → Option (Int32 × CSt)} {l1 : Nat} {l2 : Int32} {l3 : Nat} {l4 : Nat} {l5 : Int32} {u : CSt} (h_R_2 : ∀ a, KTb (R_2 a) a.2.2) (h_R_31 : ∀ a, KTb (R_31 a) a.2.2.2.2.2) : KTb (B_X2_resetInstances_31 N R_2 R_31 l1 l2 l3 l4 l5 u) u := by
  unfold B_X2_resetInstances_31
  refine KTb_if ?_ ?_
  · skip
    exact (h_R_2 _).tr jt_rf
  · skip
    refine KTb_bc (kt_F_X6_local.tr jt_rf) (fun _ _ => ?_)
    refine KTb_ok ?_
    refine KTb_bc (kt_F_X2_fill.tr jt_rf) (fun _ _ => ?_)
    exact (h_R_31 _).tr jt_rf
theorem kt_LP_X2_resetInstances_31 {N : Nat} {R_2 : Nat × Int32 × CSt → Option (Int32 × CSt)} (h_R_2 : ∀ a, KTb (R_2 a) a.2.2) (n : Nat) : ∀ a : Nat × Int32 × Nat × Nat × Int32 × CSt, KTb (LP_X2_resetInstances_31 N R_2 n a) a.2.2.2.2.2 := by
  induction n with
  | zero => exact fun a r z e => by have e : (none : Option _) = some (r, z) := e; cases e
  | succ n ih =>
    intro a
    show KTb (B_X2_resetInstances_31 N R_2 (LP_X2_resetInstances_31 N R_2 n) a.1 a.2.1 a.2.2.1 a.2.2.2.1 a.2.2.2.2.1 a.2.2.2.2.2) a.2.2.2.2.2
    exact kt_B_X2_resetInstances_31 h_R_2 ih
theorem kt_B_X2_resetInstances_2 {N : Nat} {R_2 : Nat × Int32 × CSt → Option (Int32 × CSt)} {l1 : Nat} {l2 : Int32} {u : CSt} (h_R_2 : ∀ a, KTb (R_2 a) a.2.2) : KTb (B_X2_resetInstances_2 N R_2 l1 l2 u) u := by
  unfold B_X2_resetInstances_2
  refine KTb_bc (kt_F_X6_ofSort.tr jt_rf) (fun _ _ => ?_)
  refine KTb_if ?_ ?_
  · skip
    exact KTb_some jt_rf
  · skip
    refine KTb_bc (kt_F_X6_nth.tr jt_rf) (fun _ _ => ?_)
    refine KTb_ok ?_
    refine KTb_bc (kt_F_X6_name.tr jt_rf) (fun _ _ => ?_)
    refine KTb_ok ?_
    exact (kt_LP_X2_resetInstances_31 h_R_2 _ _).tr jt_rf
theorem kt_LP_X2_resetInstances_2 {N : Nat}  (n : Nat) : ∀ a : Nat × Int32 × CSt, KTb (LP_X2_resetInstances_2 N n a) a.2.2 := by
  induction n with
  | zero => exact fun a r z e => by have e : (none : Option _) = some (r, z) := e; cases e
  | succ n ih =>
    intro a
    show KTb (B_X2_resetInstances_2 N (LP_X2_resetInstances_2 N n) a.1 a.2.1 a.2.2) a.2.2
    exact kt_B_X2_resetInstances_2 ih
theorem kt_B_X2_resetInstances_0 {N : Nat} {l1 : Nat} {u : CSt}  : KTb (B_X2_resetInstances_0 N l1 u) u := by
  unfold B_X2_resetInstances_0
  exact (kt_LP_X2_resetInstances_2  _ _).tr jt_rf
theorem kt_F_X2_resetInstances {N : Nat} {l1 : Nat} {u : CSt}  : KTb (F_X2_resetInstances N l1 u) u := by
  unfold F_X2_resetInstances
  exact kt_B_X2_resetInstances_0.tr jt_rf
theorem kt_B_X2_install_89 {N : Nat} {R_19 : Nat × Nat × Int32 × Int32 × CSt → Option (Int32 × CSt)} {l1 : Nat} {l2 : Nat} {l3 : Int32} {l4 : Int32} {u : CSt} (h_R_19 : ∀ a, KTb (R_19 a) a.2.2.2.2) : KTb (B_X2_install_89 N R_19 l1 l2 l3 l4 u) u := by
  unfold B_X2_install_89
  exact (h_R_19 _).tr jt_rf
theorem kt_B_X2_install_19 {N : Nat} {R_19 : Nat × Nat × Int32 × Int32 × CSt → Option (Int32 × CSt)} {l1 : Nat} {l2 : Nat} {l3 : Int32} {l4 : Int32} {u : CSt} (h_R_19 : ∀ a, KTb (R_19 a) a.2.2.2.2) : KTb (B_X2_install_19 N R_19 l1 l2 l3 l4 u) u := by
  unfold B_X2_install_19
  refine KTb_bc (kt_F_X6_ofSort.tr jt_rf) (fun _ _ => ?_)
  refine KTb_if ?_ ?_
  · skip
    refine KTb_bc (kt_F_X2_resetInstances.tr jt_rf) (fun _ _ => ?_)
    exact KTb_some jt_rf
  · skip
    refine KTb_bc (kt_F_X6_nth.tr jt_rf) (fun _ _ => ?_)
    refine KTb_ok ?_
    refine KTb_bc (kt_F_X4_isPlaced.tr jt_rf) (fun _ _ => ?_)
    refine KTb_if ?_ ?_
    · skip
      refine KTb_bc (kt_F_X2_fill.tr jt_rf) (fun _ _ => ?_)
      refine KTb_if ?_ ?_
      · skip
        exact (kt_B_X2_install_89 h_R_19).tr jt_rf
      · skip
        refine KTb_bc (kt_F_X6_ofText.tr jt_rf) (fun _ _ => ?_)
        refine KTb_ok ?_
        refine KTb_bc (kt_F_X2_keep.tr jt_rf) (fun _ _ => ?_)
        exact (kt_B_X2_install_89 h_R_19).tr jt_rf
    · skip
      exact (kt_B_X2_install_89 h_R_19).tr jt_rf
theorem kt_LP_X2_install_19 {N : Nat}  (n : Nat) : ∀ a : Nat × Nat × Int32 × Int32 × CSt, KTb (LP_X2_install_19 N n a) a.2.2.2.2 := by
  induction n with
  | zero => exact fun a r z e => by have e : (none : Option _) = some (r, z) := e; cases e
  | succ n ih =>
    intro a
    show KTb (B_X2_install_19 N (LP_X2_install_19 N n) a.1 a.2.1 a.2.2.1 a.2.2.2.1 a.2.2.2.2) a.2.2.2.2
    exact kt_B_X2_install_19 ih
theorem kt_B_X2_install_0 {N : Nat} {l1 : Nat} {l2 : Nat} {l3 : Int32} {u : CSt}  : KTb (B_X2_install_0 N l1 l2 l3 u) u := by
  unfold B_X2_install_0
  refine KTb_pc ?_
  exact (kt_LP_X2_install_19  _ _).tr (ft_xG jt_rf)
theorem kt_F_X2_install {N : Nat} {l1 : Nat} {l2 : Nat} {l3 : Int32} {u : CSt}  : KTb (F_X2_install N l1 l2 l3 u) u := by
  unfold F_X2_install
  exact kt_B_X2_install_0.tr jt_rf
theorem kt_B_X2_stop_0 {N : Nat} {l1 : Int32} {l2 : Int32} {u : CSt}  : KTb (B_X2_stop_0 N l1 l2 u) u := by
  unfold B_X2_stop_0
  refine KTb_pc ?_
  refine KTb_pc ?_
  refine KTb_pc ?_
  exact KTb_some (ft_xI (ft_xI (ft_xI jt_rf)))
theorem kt_F_X2_stop {N : Nat} {l1 : Int32} {l2 : Int32} {u : CSt}  : KTb (F_X2_stop N l1 l2 u) u := by
  unfold F_X2_stop
  exact kt_B_X2_stop_0.tr jt_rf
theorem kt_B_X2_push_0 {N : Nat} {l1 : Int64} {u : CSt}  : KTb (B_X2_push_0 N l1 u) u := by
  unfold B_X2_push_0
  refine KTb_bc (kt_F_X2_put.tr jt_rf) (fun _ _ => ?_)
  refine KTb_pc ?_
  exact KTb_some (ft_xI jt_rf)
theorem kt_F_X2_push {N : Nat} {l1 : Int64} {u : CSt}  : KTb (F_X2_push N l1 u) u := by
  unfold F_X2_push
  exact kt_B_X2_push_0.tr jt_rf
theorem kt_B_X2_pop_0 {N : Nat} {u : CSt}  : KTb (B_X2_pop_0 N u) u := by
  unfold B_X2_pop_0
  refine KTb_pc ?_
  refine KTb_bc (kt_F_X2_numberAt.tr (ft_xI jt_rf)) (fun _ _ => ?_)
  exact KTb_some jt_rf
theorem kt_F_X2_pop {N : Nat} {u : CSt}  : KTb (F_X2_pop N u) u := by
  unfold F_X2_pop
  exact kt_B_X2_pop_0.tr jt_rf
theorem kt_B_X2_address_21 {N : Nat} {l3 : Int32} {u : CSt}  : KTb (B_X2_address_21 N l3 u) u := by
  unfold B_X2_address_21
  refine KTb_bc (kt_F_X2_stop.tr jt_rf) (fun _ _ => ?_)
  exact KTb_some jt_rf
theorem kt_B_X2_address_0 {N : Nat} {l1 : Int32} {l2 : Int32} {l3 : Int32} {u : CSt}  : KTb (B_X2_address_0 N l1 l2 l3 u) u := by
  unfold B_X2_address_0
  refine KTb_bc (kt_F_X2_pop.tr jt_rf) (fun _ _ => ?_)
  refine KTb_if ?_ ?_
  · skip
    exact kt_B_X2_address_21.tr jt_rf
  · skip
    refine KTb_if ?_ ?_
    · skip
      refine KTb_bc (kt_F_X2_push.tr jt_rf) (fun _ _ => ?_)
      exact KTb_some jt_rf
    · skip
      exact kt_B_X2_address_21.tr jt_rf
theorem kt_F_X2_address {N : Nat} {l1 : Int32} {l2 : Int32} {l3 : Int32} {u : CSt}  : KTb (F_X2_address N l1 l2 l3 u) u := by
  unfold F_X2_address
  exact kt_B_X2_address_0.tr jt_rf
theorem kt_B_X2_assign_0 {N : Nat} {l1 : Int32} {u : CSt}  : KTb (B_X2_assign_0 N l1 u) u := by
  unfold B_X2_assign_0
  refine KTb_bc (kt_F_X2_pop.tr jt_rf) (fun _ _ => ?_)
  refine KTb_bc (kt_F_X2_pop.tr jt_rf) (fun _ _ => ?_)
  refine KTb_bc (kt_F_X2_put.tr jt_rf) (fun _ _ => ?_)
  exact KTb_some jt_rf
theorem kt_F_X2_assign {N : Nat} {l1 : Int32} {u : CSt}  : KTb (F_X2_assign N l1 u) u := by
  unfold F_X2_assign
  exact kt_B_X2_assign_0.tr jt_rf
theorem kt_B_X2_move_0 {N : Nat} {l1 : Int32} {l2 : Int32} {l3 : Int32} {l4 : Int32} {u : CSt}  : KTb (B_X2_move_0 N l1 l2 l3 l4 u) u := by
  unfold B_X2_move_0
  refine KTb_if ?_ ?_
  · skip
    refine KTb_bc (kt_F_X2_push.tr jt_rf) (fun _ _ => ?_)
    exact KTb_some jt_rf
  · skip
    refine KTb_if ?_ ?_
    · skip
      refine KTb_bc (kt_F_X2_push.tr jt_rf) (fun _ _ => ?_)
      exact KTb_some jt_rf
    · skip
      refine KTb_if ?_ ?_
      · skip
        refine KTb_bc (kt_F_X2_numberAt.tr jt_rf) (fun _ _ => ?_)
        refine KTb_bc (kt_F_X2_push.tr jt_rf) (fun _ _ => ?_)
        exact KTb_some jt_rf
      · skip
        refine KTb_if ?_ ?_
        · skip
          refine KTb_bc (kt_F_X2_numberAt.tr jt_rf) (fun _ _ => ?_)
          refine KTb_bc (kt_F_X2_push.tr jt_rf) (fun _ _ => ?_)
          exact KTb_some jt_rf
        · skip
          refine KTb_if ?_ ?_
          · skip
            refine KTb_bc (kt_F_X1_get.tr jt_rf) (fun _ _ => ?_)
            refine KTb_bc (kt_F_X2_push.tr jt_rf) (fun _ _ => ?_)
            exact KTb_some jt_rf
          · skip
            refine KTb_if ?_ ?_
            · skip
              refine KTb_bc (kt_F_X1_get.tr jt_rf) (fun _ _ => ?_)
              refine KTb_bc (kt_F_X2_push.tr jt_rf) (fun _ _ => ?_)
              exact KTb_some jt_rf
            · skip
              refine KTb_if ?_ ?_
              · skip
                refine KTb_bc (kt_F_X2_pop.tr jt_rf) (fun _ _ => ?_)
                refine KTb_bc (kt_F_X2_put.tr jt_rf) (fun _ _ => ?_)
                exact KTb_some jt_rf
              · skip
                refine KTb_if ?_ ?_
                · skip
                  refine KTb_bc (kt_F_X2_pop.tr jt_rf) (fun _ _ => ?_)
                  refine KTb_bc (kt_F_X2_put.tr jt_rf) (fun _ _ => ?_)
                  exact KTb_some jt_rf
                · skip
                  refine KTb_if ?_ ?_
                  · skip
                    refine KTb_bc (kt_F_X2_pop.tr jt_rf) (fun _ _ => ?_)
                    refine KTb_bc (kt_F_X1_set.tr jt_rf) (fun _ _ => ?_)
                    exact KTb_some jt_rf
                  · skip
                    refine KTb_if ?_ ?_
                    · skip
                      refine KTb_bc (kt_F_X2_address.tr jt_rf) (fun _ _ => ?_)
                      exact KTb_some jt_rf
                    · skip
                      refine KTb_if ?_ ?_
                      · skip
                        refine KTb_bc (kt_F_X2_address.tr jt_rf) (fun _ _ => ?_)
                        exact KTb_some jt_rf
                      · skip
                        refine KTb_if ?_ ?_
                        · skip
                          refine KTb_bc (kt_F_X2_pop.tr jt_rf) (fun _ _ => ?_)
                          refine KTb_bc (kt_F_X2_numberAt.tr jt_rf) (fun _ _ => ?_)
                          refine KTb_bc (kt_F_X2_push.tr jt_rf) (fun _ _ => ?_)
                          exact KTb_some jt_rf
                        · skip
                          refine KTb_if ?_ ?_
                          · skip
                            refine KTb_bc (kt_F_X2_numberAt.tr jt_rf) (fun _ _ => ?_)
                            refine KTb_bc (kt_F_X2_numberAt.tr jt_rf) (fun _ _ => ?_)
                            refine KTb_bc (kt_F_X2_push.tr jt_rf) (fun _ _ => ?_)
                            exact KTb_some jt_rf
                          · skip
                            refine KTb_if ?_ ?_
                            · skip
                              refine KTb_bc (kt_F_X2_numberAt.tr jt_rf) (fun _ _ => ?_)
                              refine KTb_bc (kt_F_X2_numberAt.tr jt_rf) (fun _ _ => ?_)
                              refine KTb_bc (kt_F_X2_push.tr jt_rf) (fun _ _ => ?_)
                              exact KTb_some jt_rf
                            · skip
                              refine KTb_if ?_ ?_
                              · skip
                                refine KTb_bc (kt_F_X2_assign.tr jt_rf) (fun _ _ => ?_)
                                exact KTb_some jt_rf
                              · skip
                                refine KTb_if ?_ ?_
                                · skip
                                  refine KTb_bc (kt_F_X2_pop.tr jt_rf) (fun _ _ => ?_)
                                  exact KTb_some jt_rf
                                · skip
                                  exact KTb_some jt_rf
theorem kt_F_X2_move {N : Nat} {l1 : Int32} {l2 : Int32} {l3 : Int32} {l4 : Int32} {u : CSt}  : KTb (F_X2_move N l1 l2 l3 l4 u) u := by
  unfold F_X2_move
  exact kt_B_X2_move_0.tr jt_rf
theorem kt_B_X2_reckon_98 {N : Nat} {l5 : Int64} {s1 : Int32} {s2 : Int32} {u : CSt}  : KTb (B_X2_reckon_98 N l5 s1 s2 u) u := by
  unfold B_X2_reckon_98
  refine KTb_bc (kt_F_X2_pop.tr jt_rf) (fun _ _ => ?_)
  refine KTb_bc (kt_F_X2_push.tr jt_rf) (fun _ _ => ?_)
  exact KTb_some jt_rf
theorem kt_B_X2_reckon_124 {N : Nat} {l5 : Int64} {s1 : Int32} {s2 : Int32} {u : CSt}  : KTb (B_X2_reckon_124 N l5 s1 s2 u) u := by
  unfold B_X2_reckon_124
  refine KTb_bc (kt_F_X2_push.tr jt_rf) (fun _ _ => ?_)
  exact KTb_some jt_rf
theorem kt_B_X2_reckon_162 {N : Nat} {s1 : Int64} {u : CSt}  : KTb (B_X2_reckon_162 N s1 u) u := by
  unfold B_X2_reckon_162
  refine KTb_bc (kt_F_X2_push.tr jt_rf) (fun _ _ => ?_)
  exact KTb_some jt_rf
theorem kt_B_X2_reckon_203 {N : Nat} {l5 : Int64} {s1 : Int32} {s2 : Int32} {u : CSt}  : KTb (B_X2_reckon_203 N l5 s1 s2 u) u := by
  unfold B_X2_reckon_203
  refine KTb_bc (kt_F_X2_pop.tr jt_rf) (fun _ _ => ?_)
  refine KTb_bc (kt_F_X2_push.tr jt_rf) (fun _ _ => ?_)
  exact KTb_some jt_rf
theorem kt_B_X2_reckon_192 {N : Nat} {l2 : Int32} {l3 : Int32} {l5 : Int64} {u : CSt}  : KTb (B_X2_reckon_192 N l2 l3 l5 u) u := by
  unfold B_X2_reckon_192
  refine KTb_if ?_ ?_
  · skip
    exact kt_B_X2_reckon_203.tr jt_rf
  · skip
    exact kt_B_X2_reckon_203.tr jt_rf
theorem kt_B_X2_reckon_0 {N : Nat} {l1 : Int32} {l2 : Int32} {l3 : Int32} {l4 : Int32} {u : CSt}  : KTb (B_X2_reckon_0 N l1 l2 l3 l4 u) u := by
  unfold B_X2_reckon_0
  refine KTb_bc (kt_F_X2_pop.tr jt_rf) (fun _ _ => ?_)
  refine KTb_if ?_ ?_
  · skip
    refine KTb_bc (kt_F_X2_push.tr jt_rf) (fun _ _ => ?_)
    exact KTb_some jt_rf
  · skip
    refine KTb_if ?_ ?_
    · skip
      refine KTb_bc (kt_F_X2_pop.tr jt_rf) (fun _ _ => ?_)
      refine KTb_bc (kt_F_X2_push.tr jt_rf) (fun _ _ => ?_)
      exact KTb_some jt_rf
    · skip
      refine KTb_if ?_ ?_
      · skip
        refine KTb_if ?_ ?_
        · skip
          exact kt_B_X2_reckon_98.tr jt_rf
        · skip
          exact kt_B_X2_reckon_98.tr jt_rf
      · skip
        refine KTb_if ?_ ?_
        · skip
          refine KTb_if ?_ ?_
          · skip
            exact kt_B_X2_reckon_124.tr jt_rf
          · skip
            exact kt_B_X2_reckon_124.tr jt_rf
        · skip
          refine KTb_if ?_ ?_
          · skip
            refine KTb_bc (kt_F_X2_push.tr jt_rf) (fun _ _ => ?_)
            exact KTb_some jt_rf
          · skip
            refine KTb_if ?_ ?_
            · skip
              refine KTb_if ?_ ?_
              · skip
                exact kt_B_X2_reckon_162.tr jt_rf
              · skip
                exact kt_B_X2_reckon_162.tr jt_rf
            · skip
              refine KTb_if ?_ ?_
              · skip
                refine KTb_if ?_ ?_
                · skip
                  exact kt_B_X2_reckon_192.tr jt_rf
                · skip
                  refine KTb_bc (kt_F_X2_stop.tr jt_rf) (fun _ _ => ?_)
                  exact KTb_some jt_rf
              · skip
                exact kt_B_X2_reckon_192.tr jt_rf
theorem kt_F_X2_reckon {N : Nat} {l1 : Int32} {l2 : Int32} {l3 : Int32} {l4 : Int32} {u : CSt}  : KTb (F_X2_reckon N l1 l2 l3 l4 u) u := by
  unfold F_X2_reckon
  exact kt_B_X2_reckon_0.tr jt_rf
theorem kt_B_X2_decide_28 {N : Nat} {l2 : Int32} {s1 : Int64} {u : CSt}  : KTb (B_X2_decide_28 N l2 s1 u) u := by
  unfold B_X2_decide_28
  refine KTb_bc (kt_F_X2_push.tr jt_rf) (fun _ _ => ?_)
  refine KTb_pc ?_
  exact KTb_some (ft_xI jt_rf)
theorem kt_B_X2_decide_14 {N : Nat} {l1 : Int32} {l2 : Int32} {s0 : Int32} {u : CSt}  : KTb (B_X2_decide_14 N l1 l2 s0 u) u := by
  unfold B_X2_decide_14
  refine KTb_if ?_ ?_
  · skip
    refine KTb_if ?_ ?_
    · skip
      exact kt_B_X2_decide_28.tr jt_rf
    · skip
      exact kt_B_X2_decide_28.tr jt_rf
  · skip
    exact KTb_some jt_rf
theorem kt_B_X2_decide_0 {N : Nat} {l1 : Int32} {l2 : Int32} {u : CSt}  : KTb (B_X2_decide_0 N l1 l2 u) u := by
  unfold B_X2_decide_0
  refine KTb_bc (kt_F_X2_pop.tr jt_rf) (fun _ _ => ?_)
  refine KTb_if ?_ ?_
  · skip
    exact kt_B_X2_decide_14.tr jt_rf
  · skip
    exact kt_B_X2_decide_14.tr jt_rf
theorem kt_F_X2_decide {N : Nat} {l1 : Int32} {l2 : Int32} {u : CSt}  : KTb (F_X2_decide N l1 l2 u) u := by
  unfold F_X2_decide
  exact kt_B_X2_decide_0.tr jt_rf
theorem kt_B_X2_turn_66 {N : Nat} {s1 : Int32} {u : CSt}  : KTb (B_X2_turn_66 N s1 u) u := by
  unfold B_X2_turn_66
  refine KTb_pc ?_
  exact KTb_some (ft_xI jt_rf)
theorem kt_B_X2_turn_117 {N : Nat} {s1 : Int32} {u : CSt}  : KTb (B_X2_turn_117 N s1 u) u := by
  unfold B_X2_turn_117
  refine KTb_pc ?_
  exact KTb_some (ft_xI jt_rf)
theorem kt_B_X2_turn_150 {N : Nat} {s1 : Int32} {u : CSt}  : KTb (B_X2_turn_150 N s1 u) u := by
  unfold B_X2_turn_150
  refine KTb_pc ?_
  exact KTb_some (ft_xI jt_rf)
theorem kt_B_X2_turn_0 {N : Nat} {l1 : Int32} {l2 : Int32} {l3 : Int32} {u : CSt}  : KTb (B_X2_turn_0 N l1 l2 l3 u) u := by
  unfold B_X2_turn_0
  refine KTb_if ?_ ?_
  · skip
    refine KTb_pc ?_
    exact KTb_some (ft_xI jt_rf)
  · skip
    refine KTb_if ?_ ?_
    · skip
      refine KTb_bc (kt_F_X2_pop.tr jt_rf) (fun _ _ => ?_)
      refine KTb_if ?_ ?_
      · skip
        exact kt_B_X2_turn_66.tr jt_rf
      · skip
        exact kt_B_X2_turn_66.tr jt_rf
    · skip
      refine KTb_if ?_ ?_
      · skip
        refine KTb_bc (kt_F_X2_decide.tr jt_rf) (fun _ _ => ?_)
        exact KTb_some jt_rf
      · skip
        refine KTb_if ?_ ?_
        · skip
          refine KTb_bc (kt_F_X2_decide.tr jt_rf) (fun _ _ => ?_)
          exact KTb_some jt_rf
        · skip
          refine KTb_if ?_ ?_
          · skip
            refine KTb_bc (kt_F_X2_pop.tr jt_rf) (fun _ _ => ?_)
            refine KTb_bc (kt_F_X2_numberAt.tr jt_rf) (fun _ _ => ?_)
            refine KTb_if ?_ ?_
            · skip
              exact kt_B_X2_turn_117.tr jt_rf
            · skip
              exact kt_B_X2_turn_117.tr jt_rf
          · skip
            refine KTb_if ?_ ?_
            · skip
              refine KTb_bc (kt_F_X2_pop.tr jt_rf) (fun _ _ => ?_)
              refine KTb_bc (kt_F_X2_numberAt.tr jt_rf) (fun _ _ => ?_)
              refine KTb_if ?_ ?_
              · skip
                exact kt_B_X2_turn_150.tr jt_rf
              · skip
                exact kt_B_X2_turn_150.tr jt_rf
            · skip
              refine KTb_ok ?_
              refine KTb_bc (kt_F_X2_numberAt.tr jt_rf) (fun _ _ => ?_)
              refine KTb_bc (kt_F_X6_liesIn.tr jt_rf) (fun _ _ => ?_)
              refine KTb_if ?_ ?_
              · skip
                refine KTb_pc ?_
                exact KTb_some (ft_xI jt_rf)
              · skip
                refine KTb_pc ?_
                exact KTb_some (ft_xI jt_rf)
theorem kt_F_X2_turn {N : Nat} {l1 : Int32} {l2 : Int32} {l3 : Int32} {u : CSt}  : KTb (F_X2_turn N l1 l2 l3 u) u := by
  unfold F_X2_turn
  exact kt_B_X2_turn_0.tr jt_rf
theorem kt_B_X2_remember_0 {N : Nat} {l1 : Int32} {u : CSt}  : KTb (B_X2_remember_0 N l1 u) u := by
  unfold B_X2_remember_0
  refine KTb_wc ?_
  refine KTb_wc ?_
  refine KTb_wc ?_
  refine KTb_pc ?_
  exact KTb_some (ft_xI (ft_xA (ft_xA (ft_xA jt_rf))))
theorem kt_F_X2_remember {N : Nat} {l1 : Int32} {u : CSt}  : KTb (F_X2_remember N l1 u) u := by
  unfold F_X2_remember
  exact kt_B_X2_remember_0.tr jt_rf
theorem kt_B_X2_comeBack_0 {N : Nat} {u : CSt}  : KTb (B_X2_comeBack_0 N u) u := by
  unfold B_X2_comeBack_0
  refine KTb_if ?_ ?_
  · skip
    refine KTb_pc ?_
    refine KTb_rd (fun _ => ?_)
    refine KTb_pc ?_
    refine KTb_rd (fun _ => ?_)
    refine KTb_pc ?_
    refine KTb_rd (fun _ => ?_)
    refine KTb_pc ?_
    exact KTb_some (ft_xI (ft_xI (ft_xI (ft_xI jt_rf))))
  · skip
    refine KTb_pc ?_
    exact KTb_some (ft_xI jt_rf)
theorem kt_F_X2_comeBack {N : Nat} {u : CSt}  : KTb (F_X2_comeBack N u) u := by
  unfold F_X2_comeBack
  exact kt_B_X2_comeBack_0.tr jt_rf
theorem kt_B_X2_enterFunction_52 {N : Nat} {R_52 : Nat × Int32 × Int32 × CSt → Option (Int32 × CSt)} {l1 : Nat} {l3 : Int32} {l4 : Int32} {u : CSt} (h_R_52 : ∀ a, KTb (R_52 a) a.2.2.2) : KTb (B_X2_enterFunction_52 N R_52 l1 l3 l4 u) u := by
  unfold B_X2_enterFunction_52
  refine KTb_if ?_ ?_
  · skip
    refine KTb_pc ?_
    exact KTb_some (ft_xI jt_rf)
  · skip
    refine KTb_ok ?_
    refine KTb_bc (kt_F_X6_local.tr jt_rf) (fun _ _ => ?_)
    refine KTb_ok ?_
    refine KTb_bc (kt_F_X2_fill.tr jt_rf) (fun _ _ => ?_)
    exact (h_R_52 _).tr jt_rf
theorem kt_LP_X2_enterFunction_52 {N : Nat}  (n : Nat) : ∀ a : Nat × Int32 × Int32 × CSt, KTb (LP_X2_enterFunction_52 N n a) a.2.2.2 := by
  induction n with
  | zero => exact fun a r z e => by have e : (none : Option _) = some (r, z) := e; cases e
  | succ n ih =>
    intro a
    show KTb (B_X2_enterFunction_52 N (LP_X2_enterFunction_52 N n) a.1 a.2.1 a.2.2.1 a.2.2.2) a.2.2.2
    exact kt_B_X2_enterFunction_52 ih
theorem kt_B_X2_enterFunction_0 {N : Nat} {l1 : Nat} {l2 : Int32} {u : CSt}  : KTb (B_X2_enterFunction_0 N l1 l2 u) u := by
  unfold B_X2_enterFunction_0
  refine KTb_if ?_ ?_
  · skip
    refine KTb_bc (kt_F_X2_remember.tr jt_rf) (fun _ _ => ?_)
    refine KTb_pc ?_
    refine KTb_pc ?_
    exact (kt_LP_X2_enterFunction_52  _ _).tr (ft_xI (ft_xI jt_rf))
  · skip
    refine KTb_bc (kt_F_X2_stop.tr jt_rf) (fun _ _ => ?_)
    exact KTb_some jt_rf
theorem kt_F_X2_enterFunction {N : Nat} {l1 : Nat} {l2 : Int32} {u : CSt}  : KTb (F_X2_enterFunction N l1 l2 u) u := by
  unfold F_X2_enterFunction
  exact kt_B_X2_enterFunction_0.tr jt_rf
theorem kt_B_X2_enterInstance_0 {N : Nat} {l1 : Nat} {l2 : Int32} {u : CSt}  : KTb (B_X2_enterInstance_0 N l1 l2 u) u := by
  unfold B_X2_enterInstance_0
  refine KTb_if ?_ ?_
  · skip
    refine KTb_bc (kt_F_X2_remember.tr jt_rf) (fun _ _ => ?_)
    refine KTb_pc ?_
    refine KTb_ok ?_
    refine KTb_bc (kt_F_X6_name.tr (ft_xI jt_rf)) (fun _ _ => ?_)
    refine KTb_ok ?_
    refine KTb_pc ?_
    exact KTb_some (ft_xI jt_rf)
  · skip
    refine KTb_bc (kt_F_X2_stop.tr jt_rf) (fun _ _ => ?_)
    exact KTb_some jt_rf
theorem kt_F_X2_enterInstance {N : Nat} {l1 : Nat} {l2 : Int32} {u : CSt}  : KTb (F_X2_enterInstance N l1 l2 u) u := by
  unfold F_X2_enterInstance
  exact kt_B_X2_enterInstance_0.tr jt_rf
theorem kt_B_X2_call_0 {N : Nat} {l1 : Int32} {l2 : Int32} {l3 : Int32} {u : CSt}  : KTb (B_X2_call_0 N l1 l2 l3 u) u := by
  unfold B_X2_call_0
  refine KTb_if ?_ ?_
  · skip
    refine KTb_ok ?_
    refine KTb_bc (kt_F_X6_name.tr jt_rf) (fun _ _ => ?_)
    refine KTb_ok ?_
    refine KTb_bc (kt_F_X2_enterFunction.tr jt_rf) (fun _ _ => ?_)
    exact KTb_some jt_rf
  · skip
    refine KTb_if ?_ ?_
    · skip
      refine KTb_ok ?_
      refine KTb_bc (kt_F_X6_name.tr jt_rf) (fun _ _ => ?_)
      refine KTb_ok ?_
      refine KTb_bc (kt_F_X2_enterInstance.tr jt_rf) (fun _ _ => ?_)
      exact KTb_some jt_rf
    · skip
      refine KTb_if ?_ ?_
      · skip
        refine KTb_bc (kt_F_X2_pop.tr jt_rf) (fun _ _ => ?_)
        refine KTb_bc (kt_F_X2_comeBack.tr jt_rf) (fun _ _ => ?_)
        refine KTb_bc (kt_F_X2_push.tr jt_rf) (fun _ _ => ?_)
        exact KTb_some jt_rf
      · skip
        refine KTb_if ?_ ?_
        · skip
          refine KTb_bc (kt_F_X2_comeBack.tr jt_rf) (fun _ _ => ?_)
          exact KTb_some jt_rf
        · skip
          refine KTb_bc (kt_F_X2_pop.tr jt_rf) (fun _ _ => ?_)
          refine KTb_pc ?_
          refine KTb_bc (kt_F_X2_stop.tr (ft_xI jt_rf)) (fun _ _ => ?_)
          exact KTb_some jt_rf
theorem kt_F_X2_call {N : Nat} {l1 : Int32} {l2 : Int32} {l3 : Int32} {u : CSt}  : KTb (F_X2_call N l1 l2 l3 u) u := by
  unfold F_X2_call
  exact kt_B_X2_call_0.tr jt_rf
theorem kt_B_X2_go_128 {N : Nat} {l1 : Int32} {l2 : Int32} {l3 : Int32} {l4 : Int32} {u : CSt}  : KTb (B_X2_go_128 N l1 l2 l3 l4 u) u := by
  unfold B_X2_go_128
  refine KTb_if ?_ ?_
  · skip
    refine KTb_if ?_ ?_
    · skip
      refine KTb_if ?_ ?_
      · skip
        refine KTb_bc (kt_F_X2_call.tr jt_rf) (fun _ _ => ?_)
        exact KTb_some jt_rf
      · skip
        refine KTb_bc (kt_F_X2_turn.tr jt_rf) (fun _ _ => ?_)
        exact KTb_some jt_rf
    · skip
      refine KTb_bc (kt_F_X2_reckon.tr jt_rf) (fun _ _ => ?_)
      exact KTb_some jt_rf
  · skip
    refine KTb_bc (kt_F_X2_move.tr jt_rf) (fun _ _ => ?_)
    exact KTb_some jt_rf
theorem kt_B_X2_go_0 {N : Nat} {u : CSt}  : KTb (B_X2_go_0 N u) u := by
  unfold B_X2_go_0
  refine KTb_if ?_ ?_
  · skip
    refine KTb_pc ?_
    exact KTb_some (ft_xI jt_rf)
  · skip
    refine KTb_ok ?_
    refine KTb_if ?_ ?_
    · skip
      refine KTb_rd (fun _ => ?_)
      refine KTb_rd (fun _ => ?_)
      refine KTb_rd (fun _ => ?_)
      refine KTb_rd (fun _ => ?_)
      refine KTb_pc ?_
      refine KTb_if ?_ ?_
      · skip
        exact kt_B_X2_go_128.tr (ft_xI jt_rf)
      · skip
        refine KTb_if ?_ ?_
        · skip
          refine KTb_pc ?_
          exact kt_B_X2_go_128.tr (ft_xI (ft_xI jt_rf))
        · skip
          refine KTb_bc (kt_F_X2_stop.tr (ft_xI jt_rf)) (fun _ _ => ?_)
          exact KTb_some jt_rf
    · skip
      refine KTb_pc ?_
      exact KTb_some (ft_xI jt_rf)
theorem kt_F_X2_go {N : Nat} {u : CSt}  : KTb (F_X2_go N u) u := by
  unfold F_X2_go
  exact kt_B_X2_go_0.tr jt_rf
theorem kt_B_X2_run_68 {N : Nat} {R_68 : Int32 × CSt → Option (Int32 × CSt)} {l5 : Int32} {u : CSt} (h_R_68 : ∀ a, KTb (R_68 a) a.2) : KTb (B_X2_run_68 N R_68 l5 u) u := by
  unfold B_X2_run_68
  refine KTb_if ?_ ?_
  · skip
    exact KTb_some jt_rf
  · skip
    refine KTb_if ?_ ?_
    · skip
      exact KTb_some jt_rf
    · skip
      refine KTb_bc (kt_F_X2_go.tr jt_rf) (fun _ _ => ?_)
      exact (h_R_68 _).tr jt_rf
theorem kt_LP_X2_run_68 {N : Nat}  (n : Nat) : ∀ a : Int32 × CSt, KTb (LP_X2_run_68 N n a) a.2 := by
  induction n with
  | zero => exact fun a r z e => by have e : (none : Option _) = some (r, z) := e; cases e
  | succ n ih =>
    intro a
    show KTb (B_X2_run_68 N (LP_X2_run_68 N n) a.1 a.2) a.2
    exact kt_B_X2_run_68 ih
theorem kt_B_X2_run_0 {N : Nat} {l1 : Nat} {l2 : Int32} {l3 : Int32} {l4 : Int32} {u : CSt}  : KTb (B_X2_run_0 N l1 l2 l3 l4 u) u := by
  unfold B_X2_run_0
  refine KTb_pc ?_
  refine KTb_pc ?_
  refine KTb_pc ?_
  refine KTb_pc ?_
  refine KTb_pc ?_
  refine KTb_pc ?_
  refine KTb_pc ?_
  refine KTb_pc ?_
  refine KTb_pc ?_
  refine KTb_pc ?_
  refine KTb_pc ?_
  refine KTb_pc ?_
  exact (kt_LP_X2_run_68  _ _).tr (ft_xI (ft_xI (ft_xI (ft_xI (ft_xI (ft_xI (ft_xI (ft_xI (ft_xI (ft_xI (ft_xI (ft_xR (by decide) jt_rf))))))))))))
theorem kt_F_X2_run {N : Nat} {l1 : Nat} {l2 : Int32} {l3 : Int32} {l4 : Int32} {u : CSt}  : KTb (F_X2_run N l1 l2 l3 l4 u) u := by
  unfold F_X2_run
  exact kt_B_X2_run_0.tr jt_rf
theorem kt_B_X7_note_0 {N : Nat} {l0 : Nat} {l2 : Int32} {u : CSt}  : KTb (B_X7_note_0 N l0 l2 u) u := by
  unfold B_X7_note_0
  refine KTb_pc ?_
  refine KTb_pc ?_
  refine KTb_if ?_ ?_
  · skip
    exact KTb_some (ft_xtI (ft_xtI jt_rf))
  · skip
    refine KTb_pc ?_
    refine KTb_pc ?_
    refine KTb_pc ?_
    refine KTb_pc ?_
    refine KTb_pc ?_
    exact KTb_some (ft_xtI (ft_xtI (ft_xtI (ft_xtI (ft_xtI (ft_xtI (ft_xtI jt_rf)))))))
theorem kt_F_X7_note {N : Nat} {l0 : Nat} {l2 : Int32} {u : CSt}  : KTb (F_X7_note N l0 l2 u) u := by
  unfold F_X7_note
  exact kt_B_X7_note_0.tr jt_rf
theorem kt_B_X11_append_3 {N : Nat} {R_3 : Int32 × Int32 × CSt → Option (Int32 × CSt)} {l1 : Int32} {l2 : Int32} {u : CSt} (h_R_3 : ∀ a, KTb (R_3 a) a.2.2) : KTb (B_X11_append_3 N R_3 l1 l2 u) u := by
  unfold B_X11_append_3
  refine KTb_if ?_ ?_
  · skip
    exact KTb_some jt_rf
  · skip
    refine KTb_if ?_ ?_
    · skip
      exact KTb_some jt_rf
    · skip
      refine KTb_wc ?_
      refine KTb_pc ?_
      exact (h_R_3 _).tr (ft_xI (ft_xA jt_rf))
theorem kt_LP_X11_append_3 {N : Nat}  (n : Nat) : ∀ a : Int32 × Int32 × CSt, KTb (LP_X11_append_3 N n a) a.2.2 := by
  induction n with
  | zero => exact fun a r z e => by have e : (none : Option _) = some (r, z) := e; cases e
  | succ n ih =>
    intro a
    show KTb (B_X11_append_3 N (LP_X11_append_3 N n) a.1 a.2.1 a.2.2) a.2.2
    exact kt_B_X11_append_3 ih
theorem kt_B_X11_append_0 {N : Nat} {l1 : Int32} {u : CSt}  : KTb (B_X11_append_0 N l1 u) u := by
  unfold B_X11_append_0
  exact (kt_LP_X11_append_3  _ _).tr jt_rf
theorem kt_F_X11_append {N : Nat} {l1 : Int32} {u : CSt}  : KTb (F_X11_append N l1 u) u := by
  unfold F_X11_append
  exact kt_B_X11_append_0.tr jt_rf
theorem kt_B_X11_feed_0 {N : Nat} {l1 : Int32} {l2 : Int32} {l3 : Int32} {l4 : Int32} {l5 : Int32} {u : CSt}  : KTb (B_X11_feed_0 N l1 l2 l3 l4 l5 u) u := by
  unfold B_X11_feed_0
  refine KTb_if ?_ ?_
  · skip
    refine KTb_bc (kt_F_X11_append.tr jt_rf) (fun _ _ => ?_)
    refine KTb_bc (kt_F_X11_append.tr jt_rf) (fun _ _ => ?_)
    refine KTb_bc (kt_F_X11_append.tr jt_rf) (fun _ _ => ?_)
    refine KTb_bc (kt_F_X11_append.tr jt_rf) (fun _ _ => ?_)
    refine KTb_bc (kt_F_X11_append.tr jt_rf) (fun _ _ => ?_)
    exact KTb_some jt_rf
  · skip
    exact KTb_some jt_rf
theorem kt_F_X11_feed {N : Nat} {l1 : Int32} {l2 : Int32} {l3 : Int32} {l4 : Int32} {l5 : Int32} {u : CSt}  : KTb (F_X11_feed N l1 l2 l3 l4 l5 u) u := by
  unfold F_X11_feed
  exact kt_B_X11_feed_0.tr jt_rf
theorem kt_B_X11_end_0 {N : Nat} {l1 : Int32} {u : CSt}  : KTb (B_X11_end_0 N l1 u) u := by
  unfold B_X11_end_0
  refine KTb_if ?_ ?_
  · skip
    exact KTb_some jt_rf
  · skip
    refine KTb_if ?_ ?_
    · skip
      refine KTb_pc ?_
      exact KTb_some (ft_xI jt_rf)
    · skip
      exact KTb_some jt_rf
theorem kt_F_X11_end {N : Nat} {l1 : Int32} {u : CSt}  : KTb (F_X11_end N l1 u) u := by
  unfold F_X11_end
  exact kt_B_X11_end_0.tr jt_rf
theorem kt_B_X11_place_0 {N : Nat} {u : CSt}  : KTb (B_X11_place_0 N u) u := by
  unfold B_X11_place_0
  exact KTb_some jt_rf
theorem kt_F_X11_place {N : Nat} {u : CSt}  : KTb (F_X11_place N u) u := by
  unfold F_X11_place
  exact kt_B_X11_place_0.tr jt_rf
theorem kt_B_X11_hasPlace_0 {N : Nat} {l1 : Int32} {l2 : Int32} {u : CSt}  : KTb (B_X11_hasPlace_0 N l1 l2 u) u := by
  unfold B_X11_hasPlace_0
  refine KTb_ok ?_
  refine KTb_bc (kt_F_X6_has.tr jt_rf) (fun _ _ => ?_)
  refine KTb_if ?_ ?_
  · skip
    exact KTb_some jt_rf
  · skip
    refine KTb_if ?_ ?_
    · skip
      exact KTb_some jt_rf
    · skip
      refine KTb_ok ?_
      refine KTb_bc (kt_F_X6_nth.tr jt_rf) (fun _ _ => ?_)
      refine KTb_ok ?_
      refine KTb_if ?_ ?_
      · skip
        exact KTb_some jt_rf
      · skip
        exact KTb_some jt_rf
theorem kt_F_X11_hasPlace {N : Nat} {l1 : Int32} {l2 : Int32} {u : CSt}  : KTb (F_X11_hasPlace N l1 l2 u) u := by
  unfold F_X11_hasPlace
  exact kt_B_X11_hasPlace_0.tr jt_rf
theorem kt_B_X11_runTick_89 {N : Nat} {R_11 : Int32 × Int32 × CSt → Option (Int32 × CSt)} {l1 : Int32} {l2 : Int32} {u : CSt} (h_R_11 : ∀ a, KTb (R_11 a) a.2.2) : KTb (B_X11_runTick_89 N R_11 l1 l2 u) u := by
  unfold B_X11_runTick_89
  exact (h_R_11 _).tr jt_rf
theorem kt_B_X11_runTick_104 {N : Nat} {R_104 : Int32 × Int32 × CSt → Option (Int32 × CSt)} {l1 : Int32} {l2 : Int32} {u : CSt} (h_R_104 : ∀ a, KTb (R_104 a) a.2.2) : KTb (B_X11_runTick_104 N R_104 l1 l2 u) u := by
  unfold B_X11_runTick_104
  refine KTb_if ?_ ?_
  · skip
    refine KTb_pc ?_
    exact KTb_some (ft_xI jt_rf)
  · skip
    refine KTb_ok ?_
    refine KTb_rd (fun _ => ?_)
    refine KTb_bc (kt_F_X6_nth.tr jt_rf) (fun _ _ => ?_)
    refine KTb_ok ?_
    refine KTb_rd (fun _ => ?_)
    refine KTb_bc (kt_F_X2_numberOf.tr jt_rf) (fun _ _ => ?_)
    refine KTb_bc (kt_F_X10_see.tr jt_rf) (fun _ _ => ?_)
    exact (h_R_104 _).tr jt_rf
theorem kt_LP_X11_runTick_104 {N : Nat}  (n : Nat) : ∀ a : Int32 × Int32 × CSt, KTb (LP_X11_runTick_104 N n a) a.2.2 := by
  induction n with
  | zero => exact fun a r z e => by have e : (none : Option _) = some (r, z) := e; cases e
  | succ n ih =>
    intro a
    show KTb (B_X11_runTick_104 N (LP_X11_runTick_104 N n) a.1 a.2.1 a.2.2) a.2.2
    exact kt_B_X11_runTick_104 ih
theorem kt_B_X11_runTick_11 {N : Nat} {R_11 : Int32 × Int32 × CSt → Option (Int32 × CSt)} {l1 : Int32} {l2 : Int32} {u : CSt} (h_R_11 : ∀ a, KTb (R_11 a) a.2.2) : KTb (B_X11_runTick_11 N R_11 l1 l2 u) u := by
  unfold B_X11_runTick_11
  refine KTb_ok ?_
  refine KTb_bc (kt_F_X6_ofSort.tr jt_rf) (fun _ _ => ?_)
  refine KTb_if ?_ ?_
  · skip
    refine KTb_bc (kt_F_X1_giveOutputs.tr jt_rf) (fun _ _ => ?_)
    exact (kt_LP_X11_runTick_104  _ _).tr jt_rf
  · skip
    refine KTb_ok ?_
    refine KTb_ix ?_
    refine KTb_if ?_ ?_
    · skip
      refine KTb_bc (kt_F_X7_isDue.tr jt_rf) (fun _ _ => ?_)
      refine KTb_if ?_ ?_
      · skip
        exact (kt_B_X11_runTick_89 h_R_11).tr jt_rf
      · skip
        refine KTb_ok ?_
        refine KTb_bc (kt_F_X2_run.tr jt_rf) (fun _ _ => ?_)
        refine KTb_bc (kt_F_X7_note.tr jt_rf) (fun _ _ => ?_)
        exact (kt_B_X11_runTick_89 h_R_11).tr jt_rf
    · skip
      exact (kt_B_X11_runTick_89 h_R_11).tr jt_rf
theorem kt_LP_X11_runTick_11 {N : Nat}  (n : Nat) : ∀ a : Int32 × Int32 × CSt, KTb (LP_X11_runTick_11 N n a) a.2.2 := by
  induction n with
  | zero => exact fun a r z e => by have e : (none : Option _) = some (r, z) := e; cases e
  | succ n ih =>
    intro a
    show KTb (B_X11_runTick_11 N (LP_X11_runTick_11 N n) a.1 a.2.1 a.2.2) a.2.2
    exact kt_B_X11_runTick_11 ih
theorem kt_B_X11_runTick_0 {N : Nat} {u : CSt}  : KTb (B_X11_runTick_0 N u) u := by
  unfold B_X11_runTick_0
  refine KTb_bc (kt_F_X1_takeInputs.tr jt_rf) (fun _ _ => ?_)
  exact (kt_LP_X11_runTick_11  _ _).tr jt_rf
theorem kt_F_X11_runTick {N : Nat} {u : CSt}  : KTb (F_X11_runTick N u) u := by
  unfold F_X11_runTick
  exact kt_B_X11_runTick_0.tr jt_rf
theorem kt_B_X11_scan_25 {N : Nat} {R_25 : Int32 × Int32 × Int32 × CSt → Option ((Sum Nat Int32) × CSt)} {l1 : Int32} {l2 : Int32} {l3 : Int32} {u : CSt} (h_R_25 : ∀ a, KTb (R_25 a) a.2.2.2) : KTb (B_X11_scan_25 N R_25 l1 l2 l3 u) u := by
  unfold B_X11_scan_25
  refine KTb_if ?_ ?_
  · skip
    exact KTb_some jt_rf
  · skip
    refine KTb_bc (kt_F_X11_runTick.tr jt_rf) (fun _ _ => ?_)
    exact (h_R_25 _).tr jt_rf
theorem kt_LP_X11_scan_25 {N : Nat}  (n : Nat) : ∀ a : Int32 × Int32 × Int32 × CSt, KTb (LP_X11_scan_25 N n a) a.2.2.2 := by
  induction n with
  | zero => exact fun a r z e => by have e : (none : Option _) = some (r, z) := e; cases e
  | succ n ih =>
    intro a
    show KTb (B_X11_scan_25 N (LP_X11_scan_25 N n) a.1 a.2.1 a.2.2.1 a.2.2.2) a.2.2.2
    exact kt_B_X11_scan_25 ih
theorem kt_B_X11_scan_0 {N : Nat} {l1 : Int32} {u : CSt}  : KTb (B_X11_scan_0 N l1 u) u := by
  unfold B_X11_scan_0
  refine KTb_if ?_ ?_
  · skip
    exact KTb_some jt_rf
  · skip
    refine KTb_if ?_ ?_
    · skip
      exact (kt_LP_X11_scan_25  _ _).tr jt_rf
    · skip
      exact KTb_some jt_rf
theorem kt_F_X11_scan {N : Nat} {l1 : Int32} {u : CSt}  : KTb (F_X11_scan N l1 u) u := by
  unfold F_X11_scan
  exact kt_B_X11_scan_0.tr jt_rf
theorem kt_B_X11_power_50 {N : Nat} {R_2 : Int32 × CSt → Option (Int32 × CSt)} {l1 : Int32} {u : CSt} (h_R_2 : ∀ a, KTb (R_2 a) a.2) : KTb (B_X11_power_50 N R_2 l1 u) u := by
  unfold B_X11_power_50
  exact (h_R_2 _).tr jt_rf
theorem kt_B_X11_power_81 {N : Nat} {R_81 : Int32 × CSt → Option (Int32 × CSt)} {l1 : Int32} {u : CSt} (h_R_81 : ∀ a, KTb (R_81 a) a.2) : KTb (B_X11_power_81 N R_81 l1 u) u := by
  unfold B_X11_power_81
  refine KTb_ok ?_
  refine KTb_bc (kt_F_X6_ofSort.tr jt_rf) (fun _ _ => ?_)
  refine KTb_if ?_ ?_
  · skip
    exact KTb_some jt_rf
  · skip
    refine KTb_ok ?_
    refine KTb_ix ?_
    refine KTb_pc ?_
    exact (h_R_81 _).tr (ft_xtI jt_rf)
theorem kt_LP_X11_power_81 {N : Nat}  (n : Nat) : ∀ a : Int32 × CSt, KTb (LP_X11_power_81 N n a) a.2 := by
  induction n with
  | zero => exact fun a r z e => by have e : (none : Option _) = some (r, z) := e; cases e
  | succ n ih =>
    intro a
    show KTb (B_X11_power_81 N (LP_X11_power_81 N n) a.1 a.2) a.2
    exact kt_B_X11_power_81 ih
theorem kt_B_X11_power_2 {N : Nat} {R_2 : Int32 × CSt → Option (Int32 × CSt)} {l1 : Int32} {u : CSt} (h_R_2 : ∀ a, KTb (R_2 a) a.2) : KTb (B_X11_power_2 N R_2 l1 u) u := by
  unfold B_X11_power_2
  refine KTb_ok ?_
  refine KTb_bc (kt_F_X6_ofSort.tr jt_rf) (fun _ _ => ?_)
  refine KTb_if ?_ ?_
  · skip
    refine KTb_ok ?_
    refine KTb_bc (kt_F_X2_resetInstances.tr jt_rf) (fun _ _ => ?_)
    refine KTb_bc (kt_F_X1_wipe.tr jt_rf) (fun _ _ => ?_)
    refine KTb_pc ?_
    exact (kt_LP_X11_power_81  _ _).tr (ft_xI jt_rf)
  · skip
    refine KTb_ok ?_
    refine KTb_bc (kt_F_X6_nth.tr jt_rf) (fun _ _ => ?_)
    refine KTb_ok ?_
    refine KTb_if ?_ ?_
    · skip
      refine KTb_bc (kt_F_X2_fill.tr jt_rf) (fun _ _ => ?_)
      exact (kt_B_X11_power_50 h_R_2).tr jt_rf
    · skip
      exact (kt_B_X11_power_50 h_R_2).tr jt_rf
theorem kt_LP_X11_power_2 {N : Nat}  (n : Nat) : ∀ a : Int32 × CSt, KTb (LP_X11_power_2 N n a) a.2 := by
  induction n with
  | zero => exact fun a r z e => by have e : (none : Option _) = some (r, z) := e; cases e
  | succ n ih =>
    intro a
    show KTb (B_X11_power_2 N (LP_X11_power_2 N n) a.1 a.2) a.2
    exact kt_B_X11_power_2 ih
theorem kt_B_X11_power_0 {N : Nat} {u : CSt}  : KTb (B_X11_power_0 N u) u := by
  unfold B_X11_power_0
  exact (kt_LP_X11_power_2  _ _).tr jt_rf
theorem kt_F_X11_power {N : Nat} {u : CSt}  : KTb (F_X11_power N u) u := by
  unfold F_X11_power
  exact kt_B_X11_power_0.tr jt_rf
theorem kt_B_X11_input_0 {N : Nat} {l1 : Int32} {l2 : Int32} {u : CSt}  : KTb (B_X11_input_0 N l1 l2 u) u := by
  unfold B_X11_input_0
  refine KTb_if ?_ ?_
  · skip
    exact KTb_some jt_rf
  · skip
    refine KTb_if ?_ ?_
    · skip
      refine KTb_ix ?_
      refine KTb_wc ?_
      exact KTb_some (ft_xA jt_rf)
    · skip
      exact KTb_some jt_rf
theorem kt_F_X11_input {N : Nat} {l1 : Int32} {l2 : Int32} {u : CSt}  : KTb (F_X11_input N l1 l2 u) u := by
  unfold F_X11_input
  exact kt_B_X11_input_0.tr jt_rf
theorem kt_B_X11_look_0 {N : Nat} {l1 : Int32} {l2 : Int32} {u : CSt}  : KTb (B_X11_look_0 N l1 l2 u) u := by
  unfold B_X11_look_0
  refine KTb_if ?_ ?_
  · skip
    exact KTb_some jt_rf
  · skip
    refine KTb_if ?_ ?_
    · skip
      refine KTb_if ?_ ?_
      · skip
        exact KTb_some jt_rf
      · skip
        refine KTb_if ?_ ?_
        · skip
          refine KTb_ix ?_
          refine KTb_rd (fun _ => ?_)
          exact KTb_some jt_rf
        · skip
          exact KTb_some jt_rf
    · skip
      exact KTb_some jt_rf
theorem kt_F_X11_look {N : Nat} {l1 : Int32} {l2 : Int32} {u : CSt}  : KTb (F_X11_look N l1 l2 u) u := by
  unfold F_X11_look
  exact kt_B_X11_look_0.tr jt_rf
theorem kt_B_X11_force_62 {N : Nat} {l2 : Int32} {l3 : Int32} {l4 : Int32} {s1 : Int32} {u : CSt}  : KTb (B_X11_force_62 N l2 l3 l4 s1 u) u := by
  unfold B_X11_force_62
  refine KTb_ix ?_
  refine KTb_wc ?_
  exact KTb_some (ft_xA jt_rf)
theorem kt_B_X11_force_36 {N : Nat} {l1 : Int32} {l2 : Int32} {l3 : Int32} {l4 : Int32} {s1 : Int32} {u : CSt}  : KTb (B_X11_force_36 N l1 l2 l3 l4 s1 u) u := by
  unfold B_X11_force_36
  refine KTb_ix ?_
  refine KTb_wc ?_
  refine KTb_if ?_ ?_
  · skip
    exact kt_B_X11_force_62.tr (ft_xA jt_rf)
  · skip
    exact kt_B_X11_force_62.tr (ft_xA jt_rf)
theorem kt_B_X11_force_0 {N : Nat} {l1 : Int32} {l2 : Int32} {l3 : Int32} {l4 : Int32} {u : CSt}  : KTb (B_X11_force_0 N l1 l2 l3 l4 u) u := by
  unfold B_X11_force_0
  refine KTb_if ?_ ?_
  · skip
    exact KTb_some jt_rf
  · skip
    refine KTb_if ?_ ?_
    · skip
      refine KTb_if ?_ ?_
      · skip
        exact kt_B_X11_force_36.tr jt_rf
      · skip
        exact kt_B_X11_force_36.tr jt_rf
    · skip
      exact KTb_some jt_rf
theorem kt_F_X11_force {N : Nat} {l1 : Int32} {l2 : Int32} {l3 : Int32} {l4 : Int32} {u : CSt}  : KTb (F_X11_force N l1 l2 l3 l4 u) u := by
  unfold F_X11_force
  exact kt_B_X11_force_0.tr jt_rf
theorem kt_B_X11_watchdog_0 {N : Nat} {l1 : Int32} {u : CSt}  : KTb (B_X11_watchdog_0 N l1 u) u := by
  unfold B_X11_watchdog_0
  refine KTb_if ?_ ?_
  · skip
    exact KTb_some jt_rf
  · skip
    refine KTb_if ?_ ?_
    · skip
      refine KTb_pc ?_
      exact KTb_some (ft_xI jt_rf)
    · skip
      exact KTb_some jt_rf
theorem kt_F_X11_watchdog {N : Nat} {l1 : Int32} {u : CSt}  : KTb (F_X11_watchdog N l1 u) u := by
  unfold F_X11_watchdog
  exact kt_B_X11_watchdog_0.tr jt_rf
theorem kt_B_X11_clear_0 {N : Nat} {l1 : Int32} {u : CSt}  : KTb (B_X11_clear_0 N l1 u) u := by
  unfold B_X11_clear_0
  refine KTb_ok ?_
  refine KTb_bc (kt_F_X6_has.tr jt_rf) (fun _ _ => ?_)
  refine KTb_if ?_ ?_
  · skip
    exact KTb_some jt_rf
  · skip
    refine KTb_ok ?_
    refine KTb_ix ?_
    refine KTb_ix ?_
    refine KTb_pc ?_
    refine KTb_zr ?_
    exact KTb_some (ft_xtI jt_rf)
theorem kt_F_X11_clear {N : Nat} {l1 : Int32} {u : CSt}  : KTb (F_X11_clear N l1 u) u := by
  unfold F_X11_clear
  exact kt_B_X11_clear_0.tr jt_rf
theorem kt_B_X11_task_0 {N : Nat} {l1 : Int32} {l2 : Int32} {u : CSt}  : KTb (B_X11_task_0 N l1 l2 u) u := by
  unfold B_X11_task_0
  refine KTb_ok ?_
  refine KTb_bc (kt_F_X6_has.tr jt_rf) (fun _ _ => ?_)
  refine KTb_if ?_ ?_
  · skip
    exact KTb_some jt_rf
  · skip
    refine KTb_ok ?_
    refine KTb_ix ?_
    refine KTb_if ?_ ?_
    · skip
      exact KTb_some jt_rf
    · skip
      refine KTb_if ?_ ?_
      · skip
        exact KTb_some jt_rf
      · skip
        refine KTb_if ?_ ?_
        · skip
          refine KTb_if ?_ ?_
          · skip
            exact KTb_some jt_rf
          · skip
            exact KTb_some jt_rf
        · skip
          refine KTb_if ?_ ?_
          · skip
            exact KTb_some jt_rf
          · skip
            refine KTb_if ?_ ?_
            · skip
              exact KTb_some jt_rf
            · skip
              refine KTb_if ?_ ?_
              · skip
                exact KTb_some jt_rf
              · skip
                refine KTb_if ?_ ?_
                · skip
                  exact KTb_some jt_rf
                · skip
                  refine KTb_if ?_ ?_
                  · skip
                    exact KTb_some jt_rf
                  · skip
                    refine KTb_if ?_ ?_
                    · skip
                      exact KTb_some jt_rf
                    · skip
                      exact KTb_some jt_rf
theorem kt_F_X11_task {N : Nat} {l1 : Int32} {l2 : Int32} {u : CSt}  : KTb (F_X11_task N l1 l2 u) u := by
  unfold F_X11_task
  exact kt_B_X11_task_0.tr jt_rf
theorem kt_B_X11_value_0 {N : Nat} {l1 : Int32} {l2 : Int32} {u : CSt}  : KTb (B_X11_value_0 N l1 l2 u) u := by
  unfold B_X11_value_0
  refine KTb_bc (kt_F_X11_hasPlace.tr jt_rf) (fun _ _ => ?_)
  refine KTb_if ?_ ?_
  · skip
    exact KTb_some jt_rf
  · skip
    refine KTb_ok ?_
    refine KTb_bc (kt_F_X6_nth.tr jt_rf) (fun _ _ => ?_)
    refine KTb_ok ?_
    refine KTb_bc (kt_F_X2_numberOf.tr jt_rf) (fun _ _ => ?_)
    exact KTb_some jt_rf
theorem kt_F_X11_value {N : Nat} {l1 : Int32} {l2 : Int32} {u : CSt}  : KTb (F_X11_value N l1 l2 u) u := by
  unfold F_X11_value
  exact kt_B_X11_value_0.tr jt_rf
theorem kt_B_X11_poke_0 {N : Nat} {l1 : Int32} {l2 : Int32} {l3 : Int64} {u : CSt}  : KTb (B_X11_poke_0 N l1 l2 l3 u) u := by
  unfold B_X11_poke_0
  refine KTb_bc (kt_F_X11_hasPlace.tr jt_rf) (fun _ _ => ?_)
  refine KTb_if ?_ ?_
  · skip
    exact KTb_some jt_rf
  · skip
    refine KTb_ok ?_
    refine KTb_bc (kt_F_X6_nth.tr jt_rf) (fun _ _ => ?_)
    refine KTb_ok ?_
    refine KTb_if ?_ ?_
    · skip
      exact KTb_some jt_rf
    · skip
      refine KTb_bc (kt_F_X2_change.tr jt_rf) (fun _ _ => ?_)
      refine KTb_bc (kt_F_X2_numberOf.tr jt_rf) (fun _ _ => ?_)
      exact KTb_some jt_rf
theorem kt_F_X11_poke {N : Nat} {l1 : Int32} {l2 : Int32} {l3 : Int64} {u : CSt}  : KTb (F_X11_poke N l1 l2 l3 u) u := by
  unfold F_X11_poke
  exact kt_B_X11_poke_0.tr jt_rf
theorem kt_B_X11_variable_0 {N : Nat} {l1 : Int32} {l2 : Int32} {u : CSt}  : KTb (B_X11_variable_0 N l1 l2 u) u := by
  unfold B_X11_variable_0
  refine KTb_ok ?_
  refine KTb_bc (kt_F_X6_has.tr jt_rf) (fun _ _ => ?_)
  refine KTb_if ?_ ?_
  · skip
    exact KTb_some jt_rf
  · skip
    refine KTb_ok ?_
    refine KTb_bc (kt_F_X6_nth.tr jt_rf) (fun _ _ => ?_)
    refine KTb_ok ?_
    refine KTb_if ?_ ?_
    · skip
      exact KTb_some jt_rf
    · skip
      refine KTb_if ?_ ?_
      · skip
        exact KTb_some jt_rf
      · skip
        refine KTb_if ?_ ?_
        · skip
          exact KTb_some jt_rf
        · skip
          refine KTb_if ?_ ?_
          · skip
            refine KTb_if ?_ ?_
            · skip
              exact KTb_some jt_rf
            · skip
              exact KTb_some jt_rf
          · skip
            refine KTb_if ?_ ?_
            · skip
              refine KTb_bc (kt_F_X4_isPlaced.tr jt_rf) (fun _ _ => ?_)
              refine KTb_if ?_ ?_
              · skip
                exact KTb_some jt_rf
              · skip
                exact KTb_some jt_rf
            · skip
              exact KTb_some jt_rf
theorem kt_F_X11_variable {N : Nat} {l1 : Int32} {l2 : Int32} {u : CSt}  : KTb (F_X11_variable N l1 l2 u) u := by
  unfold F_X11_variable
  exact kt_B_X11_variable_0.tr jt_rf
theorem kt_B_X11_field_0 {N : Nat} {l1 : Int32} {l2 : Int32} {l3 : Int32} {u : CSt}  : KTb (B_X11_field_0 N l1 l2 l3 u) u := by
  unfold B_X11_field_0
  refine KTb_ok ?_
  refine KTb_bc (kt_F_X6_has.tr jt_rf) (fun _ _ => ?_)
  refine KTb_if ?_ ?_
  · skip
    exact KTb_some jt_rf
  · skip
    refine KTb_ok ?_
    refine KTb_bc (kt_F_X6_nth.tr jt_rf) (fun _ _ => ?_)
    refine KTb_ok ?_
    refine KTb_ok ?_
    refine KTb_bc (kt_F_X6_name.tr jt_rf) (fun _ _ => ?_)
    refine KTb_ok ?_
    refine KTb_bc (kt_F_X6_local.tr jt_rf) (fun _ _ => ?_)
    refine KTb_ok ?_
    refine KTb_if ?_ ?_
    · skip
      exact KTb_some jt_rf
    · skip
      refine KTb_if ?_ ?_
      · skip
        exact KTb_some jt_rf
      · skip
        refine KTb_if ?_ ?_
        · skip
          refine KTb_bc (kt_F_X2_numberAt.tr jt_rf) (fun _ _ => ?_)
          exact KTb_some jt_rf
        · skip
          exact KTb_some jt_rf
theorem kt_F_X11_field {N : Nat} {l1 : Int32} {l2 : Int32} {l3 : Int32} {u : CSt}  : KTb (F_X11_field N l1 l2 l3 u) u := by
  unfold F_X11_field
  exact kt_B_X11_field_0.tr jt_rf
theorem kt_B_X11_find_0 {N : Nat} {l1 : Int32} {u : CSt}  : KTb (B_X11_find_0 N l1 u) u := by
  unfold B_X11_find_0
  refine KTb_if ?_ ?_
  · skip
    exact KTb_some jt_rf
  · skip
    refine KTb_if ?_ ?_
    · skip
      refine KTb_bc (kt_F_X9_isWord.tr jt_rf) (fun _ _ => ?_)
      refine KTb_if ?_ ?_
      · skip
        exact KTb_some jt_rf
      · skip
        refine KTb_ok ?_
        refine KTb_bc (kt_F_X9_wordHead.tr jt_rf) (fun _ _ => ?_)
        refine KTb_bc (kt_F_X9_wordTail.tr jt_rf) (fun _ _ => ?_)
        refine KTb_bc (kt_F_X6_ofText.tr jt_rf) (fun _ _ => ?_)
        refine KTb_ok ?_
        refine KTb_if ?_ ?_
        · skip
          exact KTb_some jt_rf
        · skip
          exact KTb_some jt_rf
    · skip
      exact KTb_some jt_rf
theorem kt_F_X11_find {N : Nat} {l1 : Int32} {u : CSt}  : KTb (F_X11_find N l1 u) u := by
  unfold F_X11_find
  exact kt_B_X11_find_0.tr jt_rf
theorem kt_B_X11_trace_75 {N : Nat} {l1 : Int32} {l2 : Int32} {l3 : Int32} {l4 : Int32} {s0 : Int32} {s1 : Int32} {u : CSt}  : KTb (B_X11_trace_75 N l1 l2 l3 l4 s0 s1 u) u := by
  unfold B_X11_trace_75
  refine KTb_if ?_ ?_
  · skip
    exact KTb_some jt_rf
  · skip
    refine KTb_if ?_ ?_
    · skip
      refine KTb_bc (kt_F_X10_leave.tr jt_rf) (fun _ _ => ?_)
      exact KTb_some jt_rf
    · skip
      refine KTb_ok ?_
      refine KTb_bc (kt_F_X6_nth.tr jt_rf) (fun _ _ => ?_)
      refine KTb_ok ?_
      refine KTb_bc (kt_F_X2_numberOf.tr jt_rf) (fun _ _ => ?_)
      refine KTb_bc (kt_F_X10_begin.tr jt_rf) (fun _ _ => ?_)
      exact KTb_some jt_rf
theorem kt_B_X11_trace_63 {N : Nat} {l1 : Int32} {l2 : Int32} {l3 : Int32} {l4 : Int32} {u : CSt}  : KTb (B_X11_trace_63 N l1 l2 l3 l4 u) u := by
  unfold B_X11_trace_63
  refine KTb_if ?_ ?_
  · skip
    exact kt_B_X11_trace_75.tr jt_rf
  · skip
    exact kt_B_X11_trace_75.tr jt_rf
theorem kt_B_X11_trace_0 {N : Nat} {l1 : Int32} {l2 : Int32} {l3 : Int32} {u : CSt}  : KTb (B_X11_trace_0 N l1 l2 l3 u) u := by
  unfold B_X11_trace_0
  refine KTb_bc (kt_F_X11_hasPlace.tr jt_rf) (fun _ _ => ?_)
  refine KTb_if ?_ ?_
  · skip
    exact KTb_some jt_rf
  · skip
    refine KTb_bc (kt_F_X10_indexOf.tr jt_rf) (fun _ _ => ?_)
    refine KTb_if ?_ ?_
    · skip
      exact kt_B_X11_trace_63.tr jt_rf
    · skip
      refine KTb_if ?_ ?_
      · skip
        refine KTb_if ?_ ?_
        · skip
          exact kt_B_X11_trace_63.tr jt_rf
        · skip
          exact KTb_some jt_rf
      · skip
        exact kt_B_X11_trace_63.tr jt_rf
theorem kt_F_X11_trace {N : Nat} {l1 : Int32} {l2 : Int32} {l3 : Int32} {u : CSt}  : KTb (F_X11_trace N l1 l2 l3 u) u := by
  unfold F_X11_trace
  exact kt_B_X11_trace_0.tr jt_rf
theorem kt_B_X11_event_0 {N : Nat} {l1 : Int32} {l2 : Int32} {u : CSt}  : KTb (B_X11_event_0 N l1 l2 u) u := by
  unfold B_X11_event_0
  refine KTb_if ?_ ?_
  · skip
    exact KTb_some jt_rf
  · skip
    refine KTb_if ?_ ?_
    · skip
      refine KTb_bc (kt_F_X10_latest.tr jt_rf) (fun _ _ => ?_)
      refine KTb_if ?_ ?_
      · skip
        refine KTb_rd (fun _ => ?_)
        exact KTb_some jt_rf
      · skip
        refine KTb_if ?_ ?_
        · skip
          refine KTb_rd (fun _ => ?_)
          exact KTb_some jt_rf
        · skip
          refine KTb_if ?_ ?_
          · skip
            refine KTb_rd (fun _ => ?_)
            exact KTb_some jt_rf
          · skip
            refine KTb_if ?_ ?_
            · skip
              refine KTb_rd (fun _ => ?_)
              exact KTb_some jt_rf
            · skip
              exact KTb_some jt_rf
    · skip
      exact KTb_some jt_rf
theorem kt_F_X11_event {N : Nat} {l1 : Int32} {l2 : Int32} {u : CSt}  : KTb (F_X11_event N l1 l2 u) u := by
  unfold F_X11_event
  exact kt_B_X11_event_0.tr jt_rf
theorem kt_B_X11_count_0 {N : Nat} {l1 : Int32} {u : CSt}  : KTb (B_X11_count_0 N l1 u) u := by
  unfold B_X11_count_0
  refine KTb_if ?_ ?_
  · skip
    refine KTb_ok ?_
    refine KTb_bc (kt_F_X6_ofSort.tr jt_rf) (fun _ _ => ?_)
    exact KTb_some jt_rf
  · skip
    refine KTb_if ?_ ?_
    · skip
      refine KTb_ok ?_
      refine KTb_bc (kt_F_X6_ofSort.tr jt_rf) (fun _ _ => ?_)
      exact KTb_some jt_rf
    · skip
      refine KTb_if ?_ ?_
      · skip
        refine KTb_ok ?_
        refine KTb_bc (kt_F_X6_ofSort.tr jt_rf) (fun _ _ => ?_)
        exact KTb_some jt_rf
      · skip
        refine KTb_if ?_ ?_
        · skip
          refine KTb_ok ?_
          refine KTb_bc (kt_F_X6_ofSort.tr jt_rf) (fun _ _ => ?_)
          exact KTb_some jt_rf
        · skip
          refine KTb_if ?_ ?_
          · skip
            refine KTb_ok ?_
            refine KTb_bc (kt_F_X6_ofSort.tr jt_rf) (fun _ _ => ?_)
            exact KTb_some jt_rf
          · skip
            refine KTb_if ?_ ?_
            · skip
              exact KTb_some jt_rf
            · skip
              refine KTb_if ?_ ?_
              · skip
                refine KTb_ok ?_
                refine KTb_bc (kt_F_X6_stoppedTasks.tr jt_rf) (fun _ _ => ?_)
                exact KTb_some jt_rf
              · skip
                refine KTb_if ?_ ?_
                · skip
                  exact KTb_some jt_rf
                · skip
                  refine KTb_if ?_ ?_
                  · skip
                    exact KTb_some jt_rf
                  · skip
                    refine KTb_if ?_ ?_
                    · skip
                      exact KTb_some jt_rf
                    · skip
                      refine KTb_if ?_ ?_
                      · skip
                        exact KTb_some jt_rf
                      · skip
                        exact KTb_some jt_rf
theorem kt_F_X11_count {N : Nat} {l1 : Int32} {u : CSt}  : KTb (F_X11_count N l1 u) u := by
  unfold F_X11_count
  exact kt_B_X11_count_0.tr jt_rf
theorem kt_B_X11_sum_30 {N : Nat} {R_4 : Int64 × Int32 × CSt → Option (Int64 × CSt)} {R_30 : Int64 × Int32 × Nat × Int32 × CSt → Option (Int64 × CSt)} {l1 : Int64} {l3 : Int32} {l4 : Nat} {l5 : Int32} {u : CSt} (h_R_4 : ∀ a, KTb (R_4 a) a.2.2) (h_R_30 : ∀ a, KTb (R_30 a) a.2.2.2.2) : KTb (B_X11_sum_30 N R_4 R_30 l1 l3 l4 l5 u) u := by
  unfold B_X11_sum_30
  refine KTb_if ?_ ?_
  · skip
    exact (h_R_4 _).tr jt_rf
  · skip
    refine KTb_bc (kt_F_X2_numberOf.tr jt_rf) (fun _ _ => ?_)
    exact (h_R_30 _).tr jt_rf
theorem kt_LP_X11_sum_30 {N : Nat} {R_4 : Int64 × Int32 × CSt → Option (Int64 × CSt)} (h_R_4 : ∀ a, KTb (R_4 a) a.2.2) (n : Nat) : ∀ a : Int64 × Int32 × Nat × Int32 × CSt, KTb (LP_X11_sum_30 N R_4 n a) a.2.2.2.2 := by
  induction n with
  | zero => exact fun a r z e => by have e : (none : Option _) = some (r, z) := e; cases e
  | succ n ih =>
    intro a
    show KTb (B_X11_sum_30 N R_4 (LP_X11_sum_30 N R_4 n) a.1 a.2.1 a.2.2.1 a.2.2.2.1 a.2.2.2.2) a.2.2.2.2
    exact kt_B_X11_sum_30 h_R_4 ih
theorem kt_B_X11_sum_115 {N : Nat} {R_72 : Int64 × Int32 × CSt → Option (Int64 × CSt)} {R_115 : Int64 × Int32 × Nat × Int32 × Int32 × CSt → Option (Int64 × CSt)} {l1 : Int64} {l3 : Int32} {l4 : Nat} {l5 : Int32} {l6 : Int32} {u : CSt} (h_R_72 : ∀ a, KTb (R_72 a) a.2.2) (h_R_115 : ∀ a, KTb (R_115 a) a.2.2.2.2.2) : KTb (B_X11_sum_115 N R_72 R_115 l1 l3 l4 l5 l6 u) u := by
  unfold B_X11_sum_115
  refine KTb_if ?_ ?_
  · skip
    exact (h_R_72 _).tr jt_rf
  · skip
    refine KTb_bc (kt_F_X2_numberAt.tr jt_rf) (fun _ _ => ?_)
    exact (h_R_115 _).tr jt_rf
theorem kt_LP_X11_sum_115 {N : Nat} {R_72 : Int64 × Int32 × CSt → Option (Int64 × CSt)} (h_R_72 : ∀ a, KTb (R_72 a) a.2.2) (n : Nat) : ∀ a : Int64 × Int32 × Nat × Int32 × Int32 × CSt, KTb (LP_X11_sum_115 N R_72 n a) a.2.2.2.2.2 := by
  induction n with
  | zero => exact fun a r z e => by have e : (none : Option _) = some (r, z) := e; cases e
  | succ n ih =>
    intro a
    show KTb (B_X11_sum_115 N R_72 (LP_X11_sum_115 N R_72 n) a.1 a.2.1 a.2.2.1 a.2.2.2.1 a.2.2.2.2.1 a.2.2.2.2.2) a.2.2.2.2.2
    exact kt_B_X11_sum_115 h_R_72 ih
theorem kt_B_X11_sum_72 {N : Nat} {R_72 : Int64 × Int32 × CSt → Option (Int64 × CSt)} {l1 : Int64} {l3 : Int32} {u : CSt} (h_R_72 : ∀ a, KTb (R_72 a) a.2.2) : KTb (B_X11_sum_72 N R_72 l1 l3 u) u := by
  unfold B_X11_sum_72
  refine KTb_ok ?_
  refine KTb_bc (kt_F_X6_ofSort.tr jt_rf) (fun _ _ => ?_)
  refine KTb_if ?_ ?_
  · skip
    exact KTb_some jt_rf
  · skip
    refine KTb_ok ?_
    refine KTb_bc (kt_F_X6_nth.tr jt_rf) (fun _ _ => ?_)
    refine KTb_ok ?_
    refine KTb_ok ?_
    refine KTb_bc (kt_F_X6_name.tr jt_rf) (fun _ _ => ?_)
    refine KTb_ok ?_
    exact (kt_LP_X11_sum_115 h_R_72 _ _).tr jt_rf
theorem kt_LP_X11_sum_72 {N : Nat}  (n : Nat) : ∀ a : Int64 × Int32 × CSt, KTb (LP_X11_sum_72 N n a) a.2.2 := by
  induction n with
  | zero => exact fun a r z e => by have e : (none : Option _) = some (r, z) := e; cases e
  | succ n ih =>
    intro a
    show KTb (B_X11_sum_72 N (LP_X11_sum_72 N n) a.1 a.2.1 a.2.2) a.2.2
    exact kt_B_X11_sum_72 ih
theorem kt_B_X11_sum_4 {N : Nat} {R_4 : Int64 × Int32 × CSt → Option (Int64 × CSt)} {l1 : Int64} {l3 : Int32} {u : CSt} (h_R_4 : ∀ a, KTb (R_4 a) a.2.2) : KTb (B_X11_sum_4 N R_4 l1 l3 u) u := by
  unfold B_X11_sum_4
  refine KTb_ok ?_
  refine KTb_bc (kt_F_X6_ofSort.tr jt_rf) (fun _ _ => ?_)
  refine KTb_if ?_ ?_
  · skip
    exact (kt_LP_X11_sum_72  _ _).tr jt_rf
  · skip
    refine KTb_ok ?_
    refine KTb_bc (kt_F_X6_nth.tr jt_rf) (fun _ _ => ?_)
    refine KTb_ok ?_
    exact (kt_LP_X11_sum_30 h_R_4 _ _).tr jt_rf
theorem kt_LP_X11_sum_4 {N : Nat}  (n : Nat) : ∀ a : Int64 × Int32 × CSt, KTb (LP_X11_sum_4 N n a) a.2.2 := by
  induction n with
  | zero => exact fun a r z e => by have e : (none : Option _) = some (r, z) := e; cases e
  | succ n ih =>
    intro a
    show KTb (B_X11_sum_4 N (LP_X11_sum_4 N n) a.1 a.2.1 a.2.2) a.2.2
    exact kt_B_X11_sum_4 ih
theorem kt_B_X11_sum_0 {N : Nat} {u : CSt}  : KTb (B_X11_sum_0 N u) u := by
  unfold B_X11_sum_0
  exact (kt_LP_X11_sum_4  _ _).tr jt_rf
theorem kt_F_X11_sum {N : Nat} {u : CSt}  : KTb (F_X11_sum N u) u := by
  unfold F_X11_sum
  exact kt_B_X11_sum_0.tr jt_rf
theorem kt_B_X11_cut_0 {N : Nat} {l1 : Int32} {l2 : Int64} {u : CSt}  : KTb (B_X11_cut_0 N l1 l2 u) u := by
  unfold B_X11_cut_0
  refine KTb_if ?_ ?_
  · skip
    exact KTb_some jt_rf
  · skip
    exact KTb_some jt_rf
theorem kt_F_X11_cut {N : Nat} {l1 : Int32} {l2 : Int64} {u : CSt}  : KTb (F_X11_cut N l1 l2 u) u := by
  unfold F_X11_cut
  exact kt_B_X11_cut_0.tr jt_rf
theorem kt_B_X11_work_68 {N : Nat} {l1 : Int32} {l2 : Int32} {l3 : Int32} {l4 : Int64} {l8 : Int64} {u : CSt}  : KTb (B_X11_work_68 N l1 l2 l3 l4 l8 u) u := by
  unfold B_X11_work_68
  exact KTb_some jt_rf
theorem kt_B_X11_work_0 {N : Nat} {l1 : Int32} {l2 : Int32} {l3 : Int32} {l4 : Int64} {l6 : Int64} {u : CSt}  : KTb (B_X11_work_0 N l1 l2 l3 l4 l6 u) u := by
  unfold B_X11_work_0
  refine KTb_if ?_ ?_
  · skip
    exact KTb_some jt_rf
  · skip
    refine KTb_if ?_ ?_
    · skip
      exact KTb_some jt_rf
    · skip
      refine KTb_if ?_ ?_
      · skip
        exact KTb_some jt_rf
      · skip
        refine KTb_if ?_ ?_
        · skip
          refine KTb_if ?_ ?_
          · skip
            refine KTb_if ?_ ?_
            · skip
              exact kt_B_X11_work_68.tr jt_rf
            · skip
              exact KTb_some jt_rf
          · skip
            exact kt_B_X11_work_68.tr jt_rf
        · skip
          exact KTb_some jt_rf
theorem kt_F_X11_work {N : Nat} {l1 : Int32} {l2 : Int32} {l3 : Int32} {l4 : Int64} {l6 : Int64} {u : CSt}  : KTb (F_X11_work N l1 l2 l3 l4 l6 u) u := by
  unfold F_X11_work
  exact kt_B_X11_work_0.tr jt_rf
theorem kt_B_X11_tell_46 {N : Nat} {l2 : Int32} {l3 : Int32} {l4 : Int64} {l6 : Int64} {s0 : Int32} {s1 : Int32} {u : CSt}  : KTb (B_X11_tell_46 N l2 l3 l4 l6 s0 s1 u) u := by
  unfold B_X11_tell_46
  exact KTb_some jt_rf
theorem kt_B_X11_tell_0 {N : Nat} {l1 : Int32} {l2 : Int32} {l3 : Int32} {l4 : Int64} {l6 : Int64} {u : CSt}  : KTb (B_X11_tell_0 N l1 l2 l3 l4 l6 u) u := by
  unfold B_X11_tell_0
  refine KTb_if ?_ ?_
  · skip
    exact KTb_some jt_rf
  · skip
    refine KTb_if ?_ ?_
    · skip
      exact KTb_some jt_rf
    · skip
      refine KTb_if ?_ ?_
      · skip
        exact KTb_some jt_rf
      · skip
        refine KTb_if ?_ ?_
        · skip
          refine KTb_if ?_ ?_
          · skip
            exact kt_B_X11_tell_46.tr jt_rf
          · skip
            exact kt_B_X11_tell_46.tr jt_rf
        · skip
          exact KTb_some jt_rf
theorem kt_F_X11_tell {N : Nat} {l1 : Int32} {l2 : Int32} {l3 : Int32} {l4 : Int64} {l6 : Int64} {u : CSt}  : KTb (F_X11_tell N l1 l2 l3 l4 l6 u) u := by
  unfold F_X11_tell
  exact kt_B_X11_tell_0.tr jt_rf
def ju (u w : RSt) : Prop := w.1 55 = u.1 55 ∧ (∀ k, k ∈ lA → w.2.2.1 k = u.2.2.1 k) ∧ (∀ k, k ∈ lB → w.2.2.2 k = u.2.2.2 k)
def KU {β : Type} (x : Option (β × RSt)) (u : RSt) : Prop := ∀ r w, x = some (r, w) → ju u w
section KUs
variable {α β γ : Type} {u v w : RSt}
theorem ju_rf : ju u u := ⟨rfl, fun _ _ => rfl, fun _ _ => rfl⟩
theorem ju_tr (h : ju u v) (h2 : ju v w) : ju u w := ⟨h2.1.trans h.1, fun k hk => (h2.2.1 k hk).trans (h.2.1 k hk), fun k hk => (h2.2.2 k hk).trans (h.2.2 k hk)⟩
theorem KU.tr {x : Option (β × RSt)} (hx : KU x w) (h : ju u w) : KU x u := fun r z e => ju_tr h (hx r z e)
theorem fu_sI {k : Nat} {a : Int32} (hk : k ≠ 55) (h : ju u w) : ju u (sI w k a) := by
  refine ju_tr h ⟨?_, fun _ _ => rfl, fun _ _ => rfl⟩
  show (if 55 = k then a else w.1 55) = w.1 55
  rw [if_neg (fun q => hk q.symm)]
theorem fu_sL {k : Nat} {a : Int64} (h : ju u w) : ju u (sL w k a) := h
theorem fu_sA {k i : Nat} {a : Int32} (hk : k ∉ lA) (h : ju u w) : ju u (sA w k i a) := by
  refine ju_tr h ⟨rfl, fun j hj => ?_, fun _ _ => rfl⟩
  show (if j = k then upd (w.2.2.1 k) i a else w.2.2.1 j) = _
  rw [if_neg (fun z => hk (by rw [← z]; exact hj))]
theorem fu_sB {k i : Nat} {a : Int64} (hk : k ∉ lB) (h : ju u w) : ju u (sB w k i a) := by
  refine ju_tr h ⟨rfl, fun _ _ => rfl, fun j hj => ?_⟩
  show (if j = k then vp_updL (w.2.2.2 k) i a else w.2.2.2 j) = _
  rw [if_neg (fun z => hk (by rw [← z]; exact hj))]
theorem KU_some {r : β} (h : ju u w) : KU (some (r, w)) u := fun _ _ e => by cases e; exact h
theorem KU_none : KU (none : Option (β × RSt)) u := fun _ _ e => nomatch e
theorem KU_rd {f : Nat → α} {n : Nat} {i : Int32} {k : α → Option (β × RSt)} (h : ∀ a, KU (k a) u) : KU (rd f n i k) u := by
  intro r z e
  have q : wp (rd f n i k) (fun r' z' => r' = r ∧ z' = z) := ⟨r, z, e, rfl, rfl⟩
  obtain ⟨r1, z1, e1, rfl, rfl⟩ := (wp_rd.mp q).2
  exact h _ _ _ e1
theorem KU_if {c : Prop} {d : Decidable c} {a b : Option (β × RSt)} (ha : KU a u) (hb : KU b u) : KU (if c then a else b) u := by
  by_cases q : c
  · rw [if_pos q]; exact ha
  · rw [if_neg q]; exact hb
theorem KU_zr {v : Int32} {x : Option (β × RSt)} (h : KU x u) : KU (zr v x) u := fun r z e => h r z (zr_of e).2
theorem KU_nz {v : Int32} {x : Option (β × RSt)} (h : KU x u) : KU (nz v x) u := fun r z e => h r z (nz_of e).2
theorem KU_ok {P : Prop} {d : Decidable P} {x : Option (β × RSt)} (h : KU x u) : KU (ok P d x) u := fun r z e => h r z (ok_of e).2
theorem KU_pu {x : RSt} {k : RSt → Option (β × RSt)} (h : KU (k x) u) : KU (pu x k) u := h
theorem KU_wr {n : Nat} {i : Int32} {x : RSt} {k : RSt → Option (β × RSt)} (h : KU (k x) u) : KU (wr n i x k) u := by
  intro r z e
  have q : wp (wr n i x k) (fun r' z' => r' = r ∧ z' = z) := ⟨r, z, e, rfl, rfl⟩
  obtain ⟨r1, z1, e1, rfl, rfl⟩ := (wp_wr.mp q).2
  exact h _ _ e1
theorem KU_bn {x : Option (α × RSt)} {k : α → RSt → Option (β × RSt)} (hx : KU x u) (h : ∀ r w, KU (k r w) w) : KU (bn x k) u := by
  intro r z e
  have q : wp (bn x k) (fun r' z' => r' = r ∧ z' = z) := ⟨r, z, e, rfl, rfl⟩
  obtain ⟨r1, z1, e1, r2, z2, e2, rfl, rfl⟩ := wp_bn.mp q
  exact ju_tr (hx _ _ e1) (h _ _ _ _ e2)
end KUs

theorem ku_B_see_0 {N : Nat} {l1 : Int32} {u : RSt}  : KU (B_see_0 N l1 u) u := by
  unfold B_see_0
  refine KU_if ?_ ?_
  · skip
    exact KU_some ju_rf
  · skip
    refine KU_rd (fun _ => ?_)
    exact KU_some ju_rf
theorem ku_F_see {N : Nat} {l1 : Int32} {u : RSt}  : KU (F_see N l1 u) u := by
  unfold F_see
  exact ku_B_see_0.tr ju_rf
theorem ku_B_read_44 {N : Nat} {R_44 : Int32 × Int32 × Int64 × Int32 × RSt → Option (Int64 × RSt)} {l2 : Int32} {l3 : Int32} {l4 : Int64} {l6 : Int32} {u : RSt} (h_R_44 : ∀ a, KU (R_44 a) a.2.2.2.2) : KU (B_read_44 N R_44 l2 l3 l4 l6 u) u := by
  unfold B_read_44
  refine KU_if ?_ ?_
  · skip
    exact KU_some ju_rf
  · skip
    refine KU_rd (fun _ => ?_)
    exact (h_R_44 _).tr ju_rf
theorem ku_LP_read_44 {N : Nat}  (n : Nat) : ∀ a : Int32 × Int32 × Int64 × Int32 × RSt, KU (LP_read_44 N n a) a.2.2.2.2 := by
  induction n with
  | zero => exact fun a r z e => by have e : (none : Option _) = some (r, z) := e; cases e
  | succ n ih =>
    intro a
    show KU (B_read_44 N (LP_read_44 N n) a.1 a.2.1 a.2.2.1 a.2.2.2.1 a.2.2.2.2) a.2.2.2.2
    exact ku_B_read_44 ih
theorem ku_B_read_37 {N : Nat} {l2 : Int32} {s0 : Int32} {u : RSt}  : KU (B_read_37 N l2 s0 u) u := by
  unfold B_read_37
  exact (ku_LP_read_44  _ _).tr ju_rf
theorem ku_B_read_0 {N : Nat} {l1 : Int32} {l2 : Int32} {u : RSt}  : KU (B_read_0 N l1 l2 u) u := by
  unfold B_read_0
  refine KU_if ?_ ?_
  · skip
    refine KU_if ?_ ?_
    · skip
      exact ku_B_read_37.tr ju_rf
    · skip
      exact ku_B_read_37.tr ju_rf
  · skip
    refine KU_rd (fun _ => ?_)
    exact KU_some ju_rf
theorem ku_F_read {N : Nat} {l1 : Int32} {l2 : Int32} {u : RSt}  : KU (F_read N l1 l2 u) u := by
  unfold F_read
  exact ku_B_read_0.tr ju_rf
theorem ku_B_write_31 {N : Nat} {R_31 : Int32 × Int64 × Int32 × Int32 × RSt → Option (Int32 × RSt)} {l1 : Int32} {l3 : Int64} {l5 : Int32} {l6 : Int32} {u : RSt} (h_R_31 : ∀ a, KU (R_31 a) a.2.2.2.2) : KU (B_write_31 N R_31 l1 l3 l5 l6 u) u := by
  unfold B_write_31
  refine KU_if ?_ ?_
  · skip
    exact KU_some ju_rf
  · skip
    refine KU_wr ?_
    exact (h_R_31 _).tr (fu_sA (by decide) ju_rf)
theorem ku_LP_write_31 {N : Nat}  (n : Nat) : ∀ a : Int32 × Int64 × Int32 × Int32 × RSt, KU (LP_write_31 N n a) a.2.2.2.2 := by
  induction n with
  | zero => exact fun a r z e => by have e : (none : Option _) = some (r, z) := e; cases e
  | succ n ih =>
    intro a
    show KU (B_write_31 N (LP_write_31 N n) a.1 a.2.1 a.2.2.1 a.2.2.2.1 a.2.2.2.2) a.2.2.2.2
    exact ku_B_write_31 ih
theorem ku_B_write_0 {N : Nat} {l1 : Int32} {l2 : Int32} {l3 : Int64} {u : RSt}  : KU (B_write_0 N l1 l2 l3 u) u := by
  unfold B_write_0
  refine KU_if ?_ ?_
  · skip
    exact (ku_LP_write_31  _ _).tr ju_rf
  · skip
    refine KU_wr ?_
    exact KU_some (fu_sB (by decide) ju_rf)
theorem ku_F_write {N : Nat} {l1 : Int32} {l2 : Int32} {l3 : Int64} {u : RSt}  : KU (F_write N l1 l2 l3 u) u := by
  unfold F_write
  exact ku_B_write_0.tr ju_rf
theorem ku_B_stops_0 {N : Nat} {l1 : Int32} {l2 : Int32} {u : RSt}  : KU (B_stops_0 N l1 l2 u) u := by
  unfold B_stops_0
  refine KU_pu ?_
  refine KU_pu ?_
  exact KU_some (fu_sI (by decide) (fu_sI (by decide) ju_rf))
theorem ku_F_stops {N : Nat} {l1 : Int32} {l2 : Int32} {u : RSt}  : KU (F_stops N l1 l2 u) u := by
  unfold F_stops
  exact ku_B_stops_0.tr ju_rf
theorem ku_B_mayCall_0 {N : Nat} {l1 : Int32} {u : RSt}  : KU (B_mayCall_0 N l1 u) u := by
  unfold B_mayCall_0
  refine KU_if ?_ ?_
  · skip
    refine KU_bn (ku_F_stops.tr ju_rf) (fun _ _ => ?_)
    exact KU_some ju_rf
  · skip
    refine KU_wr ?_
    refine KU_wr ?_
    refine KU_wr ?_
    exact KU_some (fu_sA (by decide) (fu_sA (by decide) (fu_sA (by decide) ju_rf)))
theorem ku_F_mayCall {N : Nat} {l1 : Int32} {u : RSt}  : KU (F_mayCall N l1 u) u := by
  unfold F_mayCall
  exact ku_B_mayCall_0.tr ju_rf
theorem ku_B_enter_120 {N : Nat} {R_39 : Int32 × Int32 × Int32 × Int32 × Int32 × RSt → Option (Int32 × RSt)} {R_53 : Int32 × Int32 × Int32 × Int32 × Int32 × Int32 × RSt → Option (Int32 × RSt)} {l1 : Int32} {l2 : Int32} {l3 : Int32} {l4 : Int32} {l5 : Int32} {l6 : Int32} {s1 : Int32} {s2 : Int64} {u : RSt} (h_R_39 : ∀ a, KU (R_39 a) a.2.2.2.2.2) (h_R_53 : ∀ a, KU (R_53 a) a.2.2.2.2.2.2) : KU (B_enter_120 N R_39 R_53 l1 l2 l3 l4 l5 l6 s1 s2 u) u := by
  unfold B_enter_120
  refine KU_wr ?_
  exact (h_R_53 _).tr (fu_sB (by decide) ju_rf)
theorem ku_B_enter_53 {N : Nat} {R_39 : Int32 × Int32 × Int32 × Int32 × Int32 × RSt → Option (Int32 × RSt)} {R_53 : Int32 × Int32 × Int32 × Int32 × Int32 × Int32 × RSt → Option (Int32 × RSt)} {l1 : Int32} {l2 : Int32} {l3 : Int32} {l4 : Int32} {l5 : Int32} {l6 : Int32} {u : RSt} (h_R_39 : ∀ a, KU (R_39 a) a.2.2.2.2.2) (h_R_53 : ∀ a, KU (R_53 a) a.2.2.2.2.2.2) : KU (B_enter_53 N R_39 R_53 l1 l2 l3 l4 l5 l6 u) u := by
  unfold B_enter_53
  refine KU_rd (fun _ => ?_)
  refine KU_if ?_ ?_
  · skip
    exact (h_R_39 _).tr ju_rf
  · skip
    refine KU_rd (fun _ => ?_)
    refine KU_if ?_ ?_
    · skip
      refine KU_rd (fun _ => ?_)
      exact (ku_B_enter_120 h_R_39 h_R_53).tr ju_rf
    · skip
      refine KU_rd (fun _ => ?_)
      exact (ku_B_enter_120 h_R_39 h_R_53).tr ju_rf
theorem ku_LP_enter_53 {N : Nat} {R_39 : Int32 × Int32 × Int32 × Int32 × Int32 × RSt → Option (Int32 × RSt)} (h_R_39 : ∀ a, KU (R_39 a) a.2.2.2.2.2) (n : Nat) : ∀ a : Int32 × Int32 × Int32 × Int32 × Int32 × Int32 × RSt, KU (LP_enter_53 N R_39 n a) a.2.2.2.2.2.2 := by
  induction n with
  | zero => exact fun a r z e => by have e : (none : Option _) = some (r, z) := e; cases e
  | succ n ih =>
    intro a
    show KU (B_enter_53 N R_39 (LP_enter_53 N R_39 n) a.1 a.2.1 a.2.2.1 a.2.2.2.1 a.2.2.2.2.1 a.2.2.2.2.2.1 a.2.2.2.2.2.2) a.2.2.2.2.2.2
    exact ku_B_enter_53 h_R_39 ih
theorem ku_B_enter_39 {N : Nat} {R_39 : Int32 × Int32 × Int32 × Int32 × Int32 × RSt → Option (Int32 × RSt)} {l1 : Int32} {l2 : Int32} {l3 : Int32} {l4 : Int32} {l5 : Int32} {u : RSt} (h_R_39 : ∀ a, KU (R_39 a) a.2.2.2.2.2) : KU (B_enter_39 N R_39 l1 l2 l3 l4 l5 u) u := by
  unfold B_enter_39
  refine KU_rd (fun _ => ?_)
  refine KU_if ?_ ?_
  · skip
    refine KU_pu ?_
    refine KU_wr ?_
    refine KU_pu ?_
    refine KU_pu ?_
    refine KU_rd (fun _ => ?_)
    refine KU_pu ?_
    exact KU_some (fu_sI (by decide) (fu_sI (by decide) (fu_sI (by decide) (fu_sA (by decide) (fu_sI (by decide) ju_rf)))))
  · skip
    exact (ku_LP_enter_53 h_R_39 _ _).tr ju_rf
theorem ku_LP_enter_39 {N : Nat}  (n : Nat) : ∀ a : Int32 × Int32 × Int32 × Int32 × Int32 × RSt, KU (LP_enter_39 N n a) a.2.2.2.2.2 := by
  induction n with
  | zero => exact fun a r z e => by have e : (none : Option _) = some (r, z) := e; cases e
  | succ n ih =>
    intro a
    show KU (B_enter_39 N (LP_enter_39 N n) a.1 a.2.1 a.2.2.1 a.2.2.2.1 a.2.2.2.2.1 a.2.2.2.2.2) a.2.2.2.2.2
    exact ku_B_enter_39 ih
theorem ku_B_enter_0 {N : Nat} {l1 : Int32} {u : RSt}  : KU (B_enter_0 N l1 u) u := by
  unfold B_enter_0
  refine KU_rd (fun _ => ?_)
  refine KU_rd (fun _ => ?_)
  exact (ku_LP_enter_39  _ _).tr ju_rf
theorem ku_F_enter {N : Nat} {l1 : Int32} {u : RSt}  : KU (F_enter N l1 u) u := by
  unfold F_enter
  exact ku_B_enter_0.tr ju_rf
theorem ku_B_leave_0 {N : Nat} {u : RSt}  : KU (B_leave_0 N u) u := by
  unfold B_leave_0
  refine KU_pu ?_
  refine KU_rd (fun _ => ?_)
  refine KU_pu ?_
  refine KU_rd (fun _ => ?_)
  refine KU_pu ?_
  refine KU_rd (fun _ => ?_)
  refine KU_pu ?_
  refine KU_rd (fun _ => ?_)
  refine KU_pu ?_
  exact KU_some (fu_sI (by decide) (fu_sI (by decide) (fu_sI (by decide) (fu_sI (by decide) (fu_sI (by decide) ju_rf)))))
theorem ku_F_leave {N : Nat} {u : RSt}  : KU (F_leave N u) u := by
  unfold F_leave
  exact ku_B_leave_0.tr ju_rf
theorem ku_B_run_1519 {N : Nat} {R_39 : Int32 × RSt → Option (Int32 × RSt)} {l2 : Int32} {u : RSt} (h_R_39 : ∀ a, KU (R_39 a) a.2) : KU (B_run_1519 N R_39 l2 u) u := by
  unfold B_run_1519
  exact (h_R_39 _).tr ju_rf
theorem ku_B_run_483 {N : Nat} {R_39 : Int32 × RSt → Option (Int32 × RSt)} {l2 : Int32} {l5 : Int32} {u : RSt} (h_R_39 : ∀ a, KU (R_39 a) a.2) : KU (B_run_483 N R_39 l2 l5 u) u := by
  unfold B_run_483
  refine KU_bn (ku_F_stops.tr ju_rf) (fun _ _ => ?_)
  exact (ku_B_run_1519 h_R_39).tr ju_rf
theorem ku_B_run_685 {N : Nat} {R_39 : Int32 × RSt → Option (Int32 × RSt)} {l2 : Int32} {s1 : Int32} {s2 : Int32} {s3 : Int64} {u : RSt} (h_R_39 : ∀ a, KU (R_39 a) a.2) : KU (B_run_685 N R_39 l2 s1 s2 s3 u) u := by
  unfold B_run_685
  refine KU_bn (ku_F_write.tr ju_rf) (fun _ _ => ?_)
  exact (ku_B_run_1519 h_R_39).tr ju_rf
theorem ku_B_run_799 {N : Nat} {R_39 : Int32 × RSt → Option (Int32 × RSt)} {l2 : Int32} {s1 : Int32} {s2 : Int32} {s3 : Int32} {u : RSt} (h_R_39 : ∀ a, KU (R_39 a) a.2) : KU (B_run_799 N R_39 l2 s1 s2 s3 u) u := by
  unfold B_run_799
  refine KU_rd (fun _ => ?_)
  refine KU_rd (fun _ => ?_)
  refine KU_ok ?_
  refine KU_wr ?_
  exact (ku_B_run_1519 h_R_39).tr (fu_sB (by decide) ju_rf)
theorem ku_B_run_771 {N : Nat} {R_39 : Int32 × RSt → Option (Int32 × RSt)} {l2 : Int32} {l3 : Int32} {l4 : Int32} {u : RSt} (h_R_39 : ∀ a, KU (R_39 a) a.2) : KU (B_run_771 N R_39 l2 l3 l4 u) u := by
  unfold B_run_771
  refine KU_rd (fun _ => ?_)
  refine KU_if ?_ ?_
  · skip
    exact (ku_B_run_799 h_R_39).tr ju_rf
  · skip
    exact (ku_B_run_799 h_R_39).tr ju_rf
theorem ku_B_run_747 {N : Nat} {R_39 : Int32 × RSt → Option (Int32 × RSt)} {l2 : Int32} {l3 : Int32} {l4 : Int32} {l5 : Int32} {u : RSt} (h_R_39 : ∀ a, KU (R_39 a) a.2) : KU (B_run_747 N R_39 l2 l3 l4 l5 u) u := by
  unfold B_run_747
  refine KU_rd (fun _ => ?_)
  refine KU_if ?_ ?_
  · skip
    refine KU_bn (ku_F_stops.tr ju_rf) (fun _ _ => ?_)
    exact (ku_B_run_1519 h_R_39).tr ju_rf
  · skip
    exact (ku_B_run_771 h_R_39).tr ju_rf
theorem ku_B_run_847 {N : Nat} {R_39 : Int32 × RSt → Option (Int32 × RSt)} {l2 : Int32} {s1 : Int32} {s2 : Int32} {u : RSt} (h_R_39 : ∀ a, KU (R_39 a) a.2) : KU (B_run_847 N R_39 l2 s1 s2 u) u := by
  unfold B_run_847
  refine KU_rd (fun _ => ?_)
  refine KU_wr ?_
  exact (ku_B_run_1519 h_R_39).tr (fu_sB (by decide) ju_rf)
theorem ku_B_run_926 {N : Nat} {R_39 : Int32 × RSt → Option (Int32 × RSt)} {l2 : Int32} {s1 : Int32} {s2 : Int64} {u : RSt} (h_R_39 : ∀ a, KU (R_39 a) a.2) : KU (B_run_926 N R_39 l2 s1 s2 u) u := by
  unfold B_run_926
  refine KU_wr ?_
  exact (ku_B_run_1519 h_R_39).tr (fu_sB (by decide) ju_rf)
theorem ku_B_run_1066 {N : Nat} {R_39 : Int32 × RSt → Option (Int32 × RSt)} {l2 : Int32} {s1 : Int32} {s2 : Int64} {u : RSt} (h_R_39 : ∀ a, KU (R_39 a) a.2) : KU (B_run_1066 N R_39 l2 s1 s2 u) u := by
  unfold B_run_1066
  refine KU_wr ?_
  exact (ku_B_run_1519 h_R_39).tr (fu_sB (by decide) ju_rf)
theorem ku_B_run_1114 {N : Nat} {R_39 : Int32 × RSt → Option (Int32 × RSt)} {l2 : Int32} {s1 : Int32} {s2 : Int32} {s3 : Int32} {u : RSt} (h_R_39 : ∀ a, KU (R_39 a) a.2) : KU (B_run_1114 N R_39 l2 s1 s2 s3 u) u := by
  unfold B_run_1114
  refine KU_rd (fun _ => ?_)
  refine KU_rd (fun _ => ?_)
  refine KU_wr ?_
  exact (ku_B_run_1519 h_R_39).tr (fu_sB (by decide) ju_rf)
theorem ku_B_run_1164 {N : Nat} {R_39 : Int32 × RSt → Option (Int32 × RSt)} {l2 : Int32} {s1 : Int32} {s2 : Int32} {s3 : Int32} {u : RSt} (h_R_39 : ∀ a, KU (R_39 a) a.2) : KU (B_run_1164 N R_39 l2 s1 s2 s3 u) u := by
  unfold B_run_1164
  refine KU_rd (fun _ => ?_)
  refine KU_wr ?_
  exact (ku_B_run_1519 h_R_39).tr (fu_sB (by decide) ju_rf)
theorem ku_B_run_1141 {N : Nat} {R_39 : Int32 × RSt → Option (Int32 × RSt)} {l2 : Int32} {l4 : Int32} {l5 : Int32} {u : RSt} (h_R_39 : ∀ a, KU (R_39 a) a.2) : KU (B_run_1141 N R_39 l2 l4 l5 u) u := by
  unfold B_run_1141
  refine KU_if ?_ ?_
  · skip
    exact (ku_B_run_1164 h_R_39).tr ju_rf
  · skip
    exact (ku_B_run_1164 h_R_39).tr ju_rf
theorem ku_B_run_39 {N : Nat} {R_39 : Int32 × RSt → Option (Int32 × RSt)} {l2 : Int32} {u : RSt} (h_R_39 : ∀ a, KU (R_39 a) a.2) : KU (B_run_39 N R_39 l2 u) u := by
  unfold B_run_39
  refine KU_if ?_ ?_
  · skip
    exact KU_some ju_rf
  · skip
    refine KU_if ?_ ?_
    · skip
      refine KU_pu ?_
      refine KU_rd (fun _ => ?_)
      refine KU_rd (fun _ => ?_)
      refine KU_rd (fun _ => ?_)
      refine KU_if ?_ ?_
      · skip
        refine KU_if ?_ ?_
        · skip
          refine KU_bn (ku_F_stops.tr (fu_sI (by decide) ju_rf)) (fun _ _ => ?_)
          exact (ku_B_run_1519 h_R_39).tr ju_rf
        · skip
          refine KU_pu ?_
          exact (ku_B_run_1519 h_R_39).tr (fu_sI (by decide) (fu_sI (by decide) ju_rf))
      · skip
        refine KU_if ?_ ?_
        · skip
          refine KU_pu ?_
          refine KU_rd (fun _ => ?_)
          refine KU_wr ?_
          exact (ku_B_run_1519 h_R_39).tr (fu_sB (by decide) (fu_sI (by decide) (fu_sI (by decide) ju_rf)))
        · skip
          refine KU_if ?_ ?_
          · skip
            refine KU_pu ?_
            refine KU_wr ?_
            exact (ku_B_run_1519 h_R_39).tr (fu_sB (by decide) (fu_sI (by decide) (fu_sI (by decide) ju_rf)))
          · skip
            refine KU_if ?_ ?_
            · skip
              refine KU_pu ?_
              refine KU_wr ?_
              exact (ku_B_run_1519 h_R_39).tr (fu_sB (by decide) (fu_sI (by decide) (fu_sI (by decide) ju_rf)))
            · skip
              refine KU_if ?_ ?_
              · skip
                refine KU_pu ?_
                refine KU_wr ?_
                exact (ku_B_run_1519 h_R_39).tr (fu_sB (by decide) (fu_sI (by decide) (fu_sI (by decide) ju_rf)))
              · skip
                refine KU_if ?_ ?_
                · skip
                  refine KU_pu ?_
                  refine KU_wr ?_
                  exact (ku_B_run_1519 h_R_39).tr (fu_sB (by decide) (fu_sI (by decide) (fu_sI (by decide) ju_rf)))
                · skip
                  refine KU_if ?_ ?_
                  · skip
                    refine KU_rd (fun _ => ?_)
                    refine KU_rd (fun _ => ?_)
                    refine KU_wr ?_
                    refine KU_pu ?_
                    exact (ku_B_run_1519 h_R_39).tr (fu_sI (by decide) (fu_sB (by decide) (fu_sI (by decide) ju_rf)))
                  · skip
                    refine KU_if ?_ ?_
                    · skip
                      refine KU_rd (fun _ => ?_)
                      refine KU_if ?_ ?_
                      · skip
                        exact (ku_B_run_483 h_R_39).tr (fu_sI (by decide) ju_rf)
                      · skip
                        refine KU_rd (fun _ => ?_)
                        refine KU_if ?_ ?_
                        · skip
                          exact (ku_B_run_1519 h_R_39).tr (fu_sI (by decide) ju_rf)
                        · skip
                          exact (ku_B_run_483 h_R_39).tr (fu_sI (by decide) ju_rf)
                    · skip
                      refine KU_if ?_ ?_
                      · skip
                        refine KU_rd (fun _ => ?_)
                        refine KU_bn (ku_F_read.tr (fu_sI (by decide) ju_rf)) (fun _ _ => ?_)
                        refine KU_wr ?_
                        exact (ku_B_run_1519 h_R_39).tr (fu_sB (by decide) ju_rf)
                      · skip
                        refine KU_if ?_ ?_
                        · skip
                          refine KU_rd (fun _ => ?_)
                          refine KU_bn (ku_F_read.tr (fu_sI (by decide) ju_rf)) (fun _ _ => ?_)
                          refine KU_wr ?_
                          refine KU_pu ?_
                          exact (ku_B_run_1519 h_R_39).tr (fu_sI (by decide) (fu_sB (by decide) ju_rf))
                        · skip
                          refine KU_if ?_ ?_
                          · skip
                            refine KU_pu ?_
                            refine KU_rd (fun _ => ?_)
                            refine KU_rd (fun _ => ?_)
                            refine KU_bn (ku_F_write.tr (fu_sI (by decide) (fu_sI (by decide) ju_rf))) (fun _ _ => ?_)
                            exact (ku_B_run_1519 h_R_39).tr ju_rf
                          · skip
                            refine KU_if ?_ ?_
                            · skip
                              refine KU_pu ?_
                              refine KU_rd (fun _ => ?_)
                              refine KU_bn (ku_F_read.tr (fu_sI (by decide) (fu_sI (by decide) ju_rf))) (fun _ _ => ?_)
                              refine KU_rd (fun _ => ?_)
                              refine KU_rd (fun _ => ?_)
                              refine KU_if ?_ ?_
                              · skip
                                exact (ku_B_run_685 h_R_39).tr ju_rf
                              · skip
                                exact (ku_B_run_685 h_R_39).tr ju_rf
                            · skip
                              refine KU_if ?_ ?_
                              · skip
                                refine KU_rd (fun _ => ?_)
                                refine KU_wr ?_
                                exact (ku_B_run_1519 h_R_39).tr (fu_sB (by decide) (fu_sI (by decide) ju_rf))
                              · skip
                                refine KU_if ?_ ?_
                                · skip
                                  refine KU_pu ?_
                                  refine KU_if ?_ ?_
                                  · skip
                                    exact (ku_B_run_747 h_R_39).tr (fu_sI (by decide) (fu_sI (by decide) ju_rf))
                                  · skip
                                    refine KU_if ?_ ?_
                                    · skip
                                      exact (ku_B_run_747 h_R_39).tr (fu_sI (by decide) (fu_sI (by decide) ju_rf))
                                    · skip
                                      exact (ku_B_run_771 h_R_39).tr (fu_sI (by decide) (fu_sI (by decide) ju_rf))
                                · skip
                                  refine KU_if ?_ ?_
                                  · skip
                                    refine KU_if ?_ ?_
                                    · skip
                                      exact (ku_B_run_847 h_R_39).tr (fu_sI (by decide) ju_rf)
                                    · skip
                                      exact (ku_B_run_847 h_R_39).tr (fu_sI (by decide) ju_rf)
                                  · skip
                                    refine KU_if ?_ ?_
                                    · skip
                                      refine KU_rd (fun _ => ?_)
                                      refine KU_wr ?_
                                      exact (ku_B_run_1519 h_R_39).tr (fu_sB (by decide) (fu_sI (by decide) ju_rf))
                                    · skip
                                      refine KU_if ?_ ?_
                                      · skip
                                        refine KU_rd (fun _ => ?_)
                                        refine KU_if ?_ ?_
                                        · skip
                                          exact (ku_B_run_926 h_R_39).tr (fu_sI (by decide) ju_rf)
                                        · skip
                                          exact (ku_B_run_926 h_R_39).tr (fu_sI (by decide) ju_rf)
                                      · skip
                                        refine KU_if ?_ ?_
                                        · skip
                                          refine KU_rd (fun _ => ?_)
                                          refine KU_wr ?_
                                          exact (ku_B_run_1519 h_R_39).tr (fu_sB (by decide) (fu_sI (by decide) ju_rf))
                                        · skip
                                          refine KU_if ?_ ?_
                                          · skip
                                            refine KU_pu ?_
                                            refine KU_rd (fun _ => ?_)
                                            refine KU_if ?_ ?_
                                            · skip
                                              refine KU_pu ?_
                                              exact (ku_B_run_1519 h_R_39).tr (fu_sI (by decide) (fu_sI (by decide) (fu_sI (by decide) ju_rf)))
                                            · skip
                                              exact (ku_B_run_1519 h_R_39).tr (fu_sI (by decide) (fu_sI (by decide) ju_rf))
                                          · skip
                                            refine KU_if ?_ ?_
                                            · skip
                                              refine KU_pu ?_
                                              refine KU_rd (fun _ => ?_)
                                              refine KU_if ?_ ?_
                                              · skip
                                                exact (ku_B_run_1519 h_R_39).tr (fu_sI (by decide) (fu_sI (by decide) ju_rf))
                                              · skip
                                                refine KU_pu ?_
                                                exact (ku_B_run_1519 h_R_39).tr (fu_sI (by decide) (fu_sI (by decide) (fu_sI (by decide) ju_rf)))
                                            · skip
                                              refine KU_if ?_ ?_
                                              · skip
                                                refine KU_pu ?_
                                                exact (ku_B_run_1519 h_R_39).tr (fu_sI (by decide) (fu_sI (by decide) ju_rf))
                                              · skip
                                                refine KU_if ?_ ?_
                                                · skip
                                                  refine KU_rd (fun _ => ?_)
                                                  refine KU_if ?_ ?_
                                                  · skip
                                                    exact (ku_B_run_1066 h_R_39).tr (fu_sI (by decide) ju_rf)
                                                  · skip
                                                    exact (ku_B_run_1066 h_R_39).tr (fu_sI (by decide) ju_rf)
                                                · skip
                                                  refine KU_if ?_ ?_
                                                  · skip
                                                    refine KU_if ?_ ?_
                                                    · skip
                                                      exact (ku_B_run_1141 h_R_39).tr (fu_sI (by decide) ju_rf)
                                                    · skip
                                                      refine KU_if ?_ ?_
                                                      · skip
                                                        exact (ku_B_run_1141 h_R_39).tr (fu_sI (by decide) ju_rf)
                                                      · skip
                                                        refine KU_pu ?_
                                                        refine KU_if ?_ ?_
                                                        · skip
                                                          exact (ku_B_run_1114 h_R_39).tr (fu_sI (by decide) (fu_sI (by decide) ju_rf))
                                                        · skip
                                                          exact (ku_B_run_1114 h_R_39).tr (fu_sI (by decide) (fu_sI (by decide) ju_rf))
                                                  · skip
                                                    refine KU_if ?_ ?_
                                                    · skip
                                                      refine KU_bn (ku_F_mayCall.tr (fu_sI (by decide) ju_rf)) (fun _ _ => ?_)
                                                      refine KU_if ?_ ?_
                                                      · skip
                                                        exact (ku_B_run_1519 h_R_39).tr ju_rf
                                                      · skip
                                                        refine KU_bn (ku_F_enter.tr ju_rf) (fun _ _ => ?_)
                                                        exact (ku_B_run_1519 h_R_39).tr ju_rf
                                                    · skip
                                                      refine KU_if ?_ ?_
                                                      · skip
                                                        refine KU_bn (ku_F_mayCall.tr (fu_sI (by decide) ju_rf)) (fun _ _ => ?_)
                                                        refine KU_if ?_ ?_
                                                        · skip
                                                          exact (ku_B_run_1519 h_R_39).tr ju_rf
                                                        · skip
                                                          refine KU_wr ?_
                                                          refine KU_pu ?_
                                                          refine KU_rd (fun _ => ?_)
                                                          refine KU_pu ?_
                                                          refine KU_rd (fun _ => ?_)
                                                          refine KU_rd (fun _ => ?_)
                                                          refine KU_pu ?_
                                                          exact (ku_B_run_1519 h_R_39).tr (fu_sI (by decide) (fu_sI (by decide) (fu_sI (by decide) (fu_sA (by decide) ju_rf))))
                                                      · skip
                                                        refine KU_if ?_ ?_
                                                        · skip
                                                          refine KU_if ?_ ?_
                                                          · skip
                                                            exact (ku_B_run_1519 h_R_39).tr (fu_sI (by decide) ju_rf)
                                                          · skip
                                                            refine KU_bn (ku_F_leave.tr (fu_sI (by decide) ju_rf)) (fun _ _ => ?_)
                                                            exact (ku_B_run_1519 h_R_39).tr ju_rf
                                                        · skip
                                                          refine KU_if ?_ ?_
                                                          · skip
                                                            refine KU_rd (fun _ => ?_)
                                                            refine KU_bn (ku_F_leave.tr (fu_sI (by decide) ju_rf)) (fun _ _ => ?_)
                                                            refine KU_pu ?_
                                                            refine KU_wr ?_
                                                            exact (ku_B_run_1519 h_R_39).tr (fu_sB (by decide) (fu_sI (by decide) ju_rf))
                                                          · skip
                                                            refine KU_if ?_ ?_
                                                            · skip
                                                              refine KU_pu ?_
                                                              refine KU_rd (fun _ => ?_)
                                                              refine KU_pu ?_
                                                              refine KU_bn (ku_F_stops.tr (fu_sL (fu_sI (by decide) (fu_sI (by decide) ju_rf)))) (fun _ _ => ?_)
                                                              exact (ku_B_run_1519 h_R_39).tr ju_rf
                                                            · skip
                                                              refine KU_if ?_ ?_
                                                              · skip
                                                                refine KU_rd (fun _ => ?_)
                                                                refine KU_rd (fun _ => ?_)
                                                                refine KU_if ?_ ?_
                                                                · skip
                                                                  exact (ku_B_run_1519 h_R_39).tr (fu_sI (by decide) ju_rf)
                                                                · skip
                                                                  refine KU_rd (fun _ => ?_)
                                                                  refine KU_rd (fun _ => ?_)
                                                                  refine KU_if ?_ ?_
                                                                  · skip
                                                                    exact (ku_B_run_1519 h_R_39).tr (fu_sI (by decide) ju_rf)
                                                                  · skip
                                                                    refine KU_pu ?_
                                                                    refine KU_pu ?_
                                                                    exact (ku_B_run_1519 h_R_39).tr (fu_sI (by decide) (fu_sI (by decide) (fu_sI (by decide) ju_rf)))
                                                              · skip
                                                                refine KU_if ?_ ?_
                                                                · skip
                                                                  refine KU_pu ?_
                                                                  exact (ku_B_run_1519 h_R_39).tr (fu_sI (by decide) (fu_sI (by decide) ju_rf))
                                                                · skip
                                                                  refine KU_if ?_ ?_
                                                                  · skip
                                                                    refine KU_pu ?_
                                                                    refine KU_rd (fun _ => ?_)
                                                                    refine KU_rd (fun _ => ?_)
                                                                    refine KU_if ?_ ?_
                                                                    · skip
                                                                      exact (ku_B_run_1519 h_R_39).tr (fu_sI (by decide) (fu_sI (by decide) ju_rf))
                                                                    · skip
                                                                      refine KU_pu ?_
                                                                      exact (ku_B_run_1519 h_R_39).tr (fu_sI (by decide) (fu_sI (by decide) (fu_sI (by decide) ju_rf)))
                                                                  · skip
                                                                    refine KU_pu ?_
                                                                    refine KU_rd (fun _ => ?_)
                                                                    refine KU_rd (fun _ => ?_)
                                                                    refine KU_if ?_ ?_
                                                                    · skip
                                                                      refine KU_pu ?_
                                                                      exact (ku_B_run_1519 h_R_39).tr (fu_sI (by decide) (fu_sI (by decide) (fu_sI (by decide) ju_rf)))
                                                                    · skip
                                                                      exact (ku_B_run_1519 h_R_39).tr (fu_sI (by decide) (fu_sI (by decide) ju_rf))
    · skip
      exact KU_some ju_rf
theorem ku_LP_run_39 {N : Nat}  (n : Nat) : ∀ a : Int32 × RSt, KU (LP_run_39 N n a) a.2 := by
  induction n with
  | zero => exact fun a r z e => by have e : (none : Option _) = some (r, z) := e; cases e
  | succ n ih =>
    intro a
    show KU (B_run_39 N (LP_run_39 N n) a.1 a.2) a.2
    exact ku_B_run_39 ih
theorem ku_B_run_0 {N : Nat} {l1 : Int32} {u : RSt}  : KU (B_run_0 N l1 u) u := by
  unfold B_run_0
  refine KU_pu ?_
  refine KU_pu ?_
  refine KU_pu ?_
  refine KU_pu ?_
  refine KU_pu ?_
  refine KU_pu ?_
  refine KU_pu ?_
  exact (ku_LP_run_39  _ _).tr (fu_sI (by decide) (fu_sI (by decide) (fu_sI (by decide) (fu_sI (by decide) (fu_sI (by decide) (fu_sI (by decide) (fu_sI (by decide) ju_rf)))))))
theorem ku_F_run {N : Nat} {l1 : Int32} {u : RSt}  : KU (F_run N l1 u) u := by
  unfold F_run
  exact ku_B_run_0.tr ju_rf
theorem ku_B_runTask_0 {N : Nat} {l1 : Int32} {u : RSt}  : KU (B_runTask_0 N l1 u) u := by
  unfold B_runTask_0
  refine KU_rd (fun _ => ?_)
  refine KU_wr ?_
  refine KU_rd (fun _ => ?_)
  refine KU_bn (ku_F_run.tr (fu_sA (by decide) ju_rf)) (fun _ _ => ?_)
  refine KU_wr ?_
  refine KU_if ?_ ?_
  · skip
    exact KU_some (fu_sA (by decide) ju_rf)
  · skip
    refine KU_wr ?_
    refine KU_wr ?_
    refine KU_wr ?_
    refine KU_wr ?_
    refine KU_if ?_ ?_
    · skip
      refine KU_wr ?_
      exact KU_some (fu_sA (by decide) (fu_sA (by decide) (fu_sA (by decide) (fu_sA (by decide) (fu_sA (by decide) (fu_sA (by decide) ju_rf))))))
    · skip
      refine KU_wr ?_
      exact KU_some (fu_sA (by decide) (fu_sA (by decide) (fu_sA (by decide) (fu_sA (by decide) (fu_sA (by decide) (fu_sA (by decide) ju_rf))))))
theorem ku_F_runTask {N : Nat} {l1 : Int32} {u : RSt}  : KU (F_runTask N l1 u) u := by
  unfold F_runTask
  exact ku_B_runTask_0.tr ju_rf
theorem ku_B_forces_2 {N : Nat} {R_2 : Int32 × Int32 × RSt → Option (Int32 × RSt)} {l1 : Int32} {l2 : Int32} {u : RSt} (h_R_2 : ∀ a, KU (R_2 a) a.2.2) : KU (B_forces_2 N R_2 l1 l2 u) u := by
  unfold B_forces_2
  refine KU_if ?_ ?_
  · skip
    exact KU_some ju_rf
  · skip
    refine KU_rd (fun _ => ?_)
    refine KU_rd (fun _ => ?_)
    refine KU_rd (fun _ => ?_)
    refine KU_wr ?_
    exact (h_R_2 _).tr (fu_sA (by decide) ju_rf)
theorem ku_LP_forces_2 {N : Nat}  (n : Nat) : ∀ a : Int32 × Int32 × RSt, KU (LP_forces_2 N n a) a.2.2 := by
  induction n with
  | zero => exact fun a r z e => by have e : (none : Option _) = some (r, z) := e; cases e
  | succ n ih =>
    intro a
    show KU (B_forces_2 N (LP_forces_2 N n) a.1 a.2.1 a.2.2) a.2.2
    exact ku_B_forces_2 ih
theorem ku_B_forces_0 {N : Nat} {l1 : Int32} {u : RSt}  : KU (B_forces_0 N l1 u) u := by
  unfold B_forces_0
  exact (ku_LP_forces_2  _ _).tr ju_rf
theorem ku_F_forces {N : Nat} {l1 : Int32} {u : RSt}  : KU (F_forces N l1 u) u := by
  unfold F_forces
  exact ku_B_forces_0.tr ju_rf
theorem ku_B_numberOf_0 {N : Nat} {l1 : Int32} {l2 : Int32} {u : RSt}  : KU (B_numberOf_0 N l1 l2 u) u := by
  unfold B_numberOf_0
  refine KU_rd (fun _ => ?_)
  refine KU_if ?_ ?_
  · skip
    refine KU_rd (fun _ => ?_)
    refine KU_rd (fun _ => ?_)
    refine KU_bn (ku_F_read.tr ju_rf) (fun _ _ => ?_)
    exact KU_some ju_rf
  · skip
    refine KU_rd (fun _ => ?_)
    refine KU_rd (fun _ => ?_)
    exact KU_some ju_rf
theorem ku_F_numberOf {N : Nat} {l1 : Int32} {l2 : Int32} {u : RSt}  : KU (F_numberOf N l1 l2 u) u := by
  unfold F_numberOf
  exact ku_B_numberOf_0.tr ju_rf
theorem ku_B_ticks_104 {N : Nat} {R_35 : Int32 × Int32 × RSt → Option (Int32 × RSt)} {l1 : Int32} {l2 : Int32} {u : RSt} (h_R_35 : ∀ a, KU (R_35 a) a.2.2) : KU (B_ticks_104 N R_35 l1 l2 u) u := by
  unfold B_ticks_104
  exact (h_R_35 _).tr ju_rf
theorem ku_B_ticks_331 {N : Nat} {R_146 : Int32 × Int32 × RSt → Option (Int32 × RSt)} {l1 : Int32} {l2 : Int32} {u : RSt} (h_R_146 : ∀ a, KU (R_146 a) a.2.2) : KU (B_ticks_331 N R_146 l1 l2 u) u := by
  unfold B_ticks_331
  exact (h_R_146 _).tr ju_rf
theorem ku_B_ticks_196 {N : Nat} {R_146 : Int32 × Int32 × RSt → Option (Int32 × RSt)} {R_196 : Int32 × Int32 × Int64 × Int32 × RSt → Option (Int32 × RSt)} {l1 : Int32} {l2 : Int32} {l3 : Int64} {l5 : Int32} {u : RSt} (h_R_146 : ∀ a, KU (R_146 a) a.2.2) (h_R_196 : ∀ a, KU (R_196 a) a.2.2.2.2) : KU (B_ticks_196 N R_146 R_196 l1 l2 l3 l5 u) u := by
  unfold B_ticks_196
  refine KU_if ?_ ?_
  · skip
    refine KU_wr ?_
    refine KU_rd (fun _ => ?_)
    refine KU_wr ?_
    refine KU_rd (fun _ => ?_)
    refine KU_wr ?_
    refine KU_wr ?_
    refine KU_if ?_ ?_
    · skip
      exact (ku_B_ticks_331 h_R_146).tr (fu_sB (by decide) (fu_sA (by decide) (fu_sA (by decide) (fu_sA (by decide) ju_rf))))
    · skip
      refine KU_pu ?_
      exact (ku_B_ticks_331 h_R_146).tr (fu_sI (by decide) (fu_sB (by decide) (fu_sA (by decide) (fu_sA (by decide) (fu_sA (by decide) ju_rf)))))
  · skip
    refine KU_rd (fun _ => ?_)
    refine KU_wr ?_
    refine KU_rd (fun _ => ?_)
    refine KU_wr ?_
    refine KU_rd (fun _ => ?_)
    refine KU_wr ?_
    refine KU_rd (fun _ => ?_)
    refine KU_wr ?_
    exact (h_R_196 _).tr (fu_sB (by decide) (fu_sA (by decide) (fu_sA (by decide) (fu_sA (by decide) ju_rf))))
theorem ku_LP_ticks_196 {N : Nat} {R_146 : Int32 × Int32 × RSt → Option (Int32 × RSt)} (h_R_146 : ∀ a, KU (R_146 a) a.2.2) (n : Nat) : ∀ a : Int32 × Int32 × Int64 × Int32 × RSt, KU (LP_ticks_196 N R_146 n a) a.2.2.2.2 := by
  induction n with
  | zero => exact fun a r z e => by have e : (none : Option _) = some (r, z) := e; cases e
  | succ n ih =>
    intro a
    show KU (B_ticks_196 N R_146 (LP_ticks_196 N R_146 n) a.1 a.2.1 a.2.2.1 a.2.2.2.1 a.2.2.2.2) a.2.2.2.2
    exact ku_B_ticks_196 h_R_146 ih
theorem ku_B_ticks_146 {N : Nat} {R_146 : Int32 × Int32 × RSt → Option (Int32 × RSt)} {l1 : Int32} {l2 : Int32} {u : RSt} (h_R_146 : ∀ a, KU (R_146 a) a.2.2) : KU (B_ticks_146 N R_146 l1 l2 u) u := by
  unfold B_ticks_146
  refine KU_if ?_ ?_
  · skip
    refine KU_pu ?_
    exact KU_some (fu_sI (by decide) ju_rf)
  · skip
    refine KU_rd (fun _ => ?_)
    refine KU_rd (fun _ => ?_)
    refine KU_bn (ku_F_numberOf.tr ju_rf) (fun _ _ => ?_)
    refine KU_rd (fun _ => ?_)
    refine KU_if ?_ ?_
    · skip
      exact (ku_B_ticks_331 h_R_146).tr ju_rf
    · skip
      refine KU_wr ?_
      exact (ku_LP_ticks_196 h_R_146 _ _).tr (fu_sB (by decide) ju_rf)
theorem ku_LP_ticks_146 {N : Nat}  (n : Nat) : ∀ a : Int32 × Int32 × RSt, KU (LP_ticks_146 N n a) a.2.2 := by
  induction n with
  | zero => exact fun a r z e => by have e : (none : Option _) = some (r, z) := e; cases e
  | succ n ih =>
    intro a
    show KU (B_ticks_146 N (LP_ticks_146 N n) a.1 a.2.1 a.2.2) a.2.2
    exact ku_B_ticks_146 ih
theorem ku_B_ticks_119 {N : Nat} {R_119 : Int32 × Int32 × RSt → Option (Int32 × RSt)} {l1 : Int32} {l2 : Int32} {u : RSt} (h_R_119 : ∀ a, KU (R_119 a) a.2.2) : KU (B_ticks_119 N R_119 l1 l2 u) u := by
  unfold B_ticks_119
  refine KU_if ?_ ?_
  · skip
    exact (ku_LP_ticks_146  _ _).tr ju_rf
  · skip
    refine KU_rd (fun _ => ?_)
    refine KU_wr ?_
    exact (h_R_119 _).tr (fu_sA (by decide) ju_rf)
theorem ku_LP_ticks_119 {N : Nat}  (n : Nat) : ∀ a : Int32 × Int32 × RSt, KU (LP_ticks_119 N n a) a.2.2 := by
  induction n with
  | zero => exact fun a r z e => by have e : (none : Option _) = some (r, z) := e; cases e
  | succ n ih =>
    intro a
    show KU (B_ticks_119 N (LP_ticks_119 N n) a.1 a.2.1 a.2.2) a.2.2
    exact ku_B_ticks_119 ih
theorem ku_B_ticks_35 {N : Nat} {R_35 : Int32 × Int32 × RSt → Option (Int32 × RSt)} {l1 : Int32} {l2 : Int32} {u : RSt} (h_R_35 : ∀ a, KU (R_35 a) a.2.2) : KU (B_ticks_35 N R_35 l1 l2 u) u := by
  unfold B_ticks_35
  refine KU_rd (fun _ => ?_)
  refine KU_if ?_ ?_
  · skip
    refine KU_bn (ku_F_forces.tr ju_rf) (fun _ _ => ?_)
    exact (ku_LP_ticks_119  _ _).tr ju_rf
  · skip
    refine KU_rd (fun _ => ?_)
    refine KU_if ?_ ?_
    · skip
      refine KU_rd (fun _ => ?_)
      refine KU_nz ?_
      refine KU_rd (fun _ => ?_)
      refine KU_if ?_ ?_
      · skip
        refine KU_bn (ku_F_runTask.tr ju_rf) (fun _ _ => ?_)
        exact (ku_B_ticks_104 h_R_35).tr ju_rf
      · skip
        exact (ku_B_ticks_104 h_R_35).tr ju_rf
    · skip
      exact (ku_B_ticks_104 h_R_35).tr ju_rf
theorem ku_LP_ticks_35 {N : Nat}  (n : Nat) : ∀ a : Int32 × Int32 × RSt, KU (LP_ticks_35 N n a) a.2.2 := by
  induction n with
  | zero => exact fun a r z e => by have e : (none : Option _) = some (r, z) := e; cases e
  | succ n ih =>
    intro a
    show KU (B_ticks_35 N (LP_ticks_35 N n) a.1 a.2.1 a.2.2) a.2.2
    exact ku_B_ticks_35 ih
theorem ku_B_ticks_4 {N : Nat} {R_4 : Int32 × Int32 × RSt → Option (Int32 × RSt)} {l1 : Int32} {l2 : Int32} {u : RSt} (h_R_4 : ∀ a, KU (R_4 a) a.2.2) : KU (B_ticks_4 N R_4 l1 l2 u) u := by
  unfold B_ticks_4
  refine KU_if ?_ ?_
  · skip
    refine KU_bn (ku_F_forces.tr ju_rf) (fun _ _ => ?_)
    exact (ku_LP_ticks_35  _ _).tr ju_rf
  · skip
    refine KU_rd (fun _ => ?_)
    refine KU_wr ?_
    exact (h_R_4 _).tr (fu_sA (by decide) ju_rf)
theorem ku_LP_ticks_4 {N : Nat}  (n : Nat) : ∀ a : Int32 × Int32 × RSt, KU (LP_ticks_4 N n a) a.2.2 := by
  induction n with
  | zero => exact fun a r z e => by have e : (none : Option _) = some (r, z) := e; cases e
  | succ n ih =>
    intro a
    show KU (B_ticks_4 N (LP_ticks_4 N n) a.1 a.2.1 a.2.2) a.2.2
    exact ku_B_ticks_4 ih
theorem ku_B_ticks_0 {N : Nat} {u : RSt}  : KU (B_ticks_0 N u) u := by
  unfold B_ticks_0
  exact (ku_LP_ticks_4  _ _).tr ju_rf
theorem ku_F_ticks {N : Nat} {u : RSt}  : KU (F_ticks N u) u := by
  unfold F_ticks
  exact ku_B_ticks_0.tr ju_rf
theorem ku_B_anew_81 {N : Nat} {R_8 : Int32 × RSt → Option (Int32 × RSt)} {R_52 : Int32 × Int32 × Int32 × RSt → Option (Int32 × RSt)} {R_81 : Int32 × Int32 × Int32 × Int32 × RSt → Option (Int32 × RSt)} {l1 : Int32} {l2 : Int32} {l3 : Int32} {l4 : Int32} {u : RSt} (h_R_8 : ∀ a, KU (R_8 a) a.2) (h_R_52 : ∀ a, KU (R_52 a) a.2.2.2) (h_R_81 : ∀ a, KU (R_81 a) a.2.2.2.2) : KU (B_anew_81 N R_8 R_52 R_81 l1 l2 l3 l4 u) u := by
  unfold B_anew_81
  refine KU_rd (fun _ => ?_)
  refine KU_if ?_ ?_
  · skip
    exact (h_R_52 _).tr ju_rf
  · skip
    refine KU_rd (fun _ => ?_)
    refine KU_rd (fun _ => ?_)
    refine KU_rd (fun _ => ?_)
    refine KU_wr ?_
    exact (h_R_81 _).tr (fu_sB (by decide) ju_rf)
theorem ku_LP_anew_81 {N : Nat} {R_8 : Int32 × RSt → Option (Int32 × RSt)} {R_52 : Int32 × Int32 × Int32 × RSt → Option (Int32 × RSt)} (h_R_8 : ∀ a, KU (R_8 a) a.2) (h_R_52 : ∀ a, KU (R_52 a) a.2.2.2) (n : Nat) : ∀ a : Int32 × Int32 × Int32 × Int32 × RSt, KU (LP_anew_81 N R_8 R_52 n a) a.2.2.2.2 := by
  induction n with
  | zero => exact fun a r z e => by have e : (none : Option _) = some (r, z) := e; cases e
  | succ n ih =>
    intro a
    show KU (B_anew_81 N R_8 R_52 (LP_anew_81 N R_8 R_52 n) a.1 a.2.1 a.2.2.1 a.2.2.2.1 a.2.2.2.2) a.2.2.2.2
    exact ku_B_anew_81 h_R_8 h_R_52 ih
theorem ku_B_anew_52 {N : Nat} {R_8 : Int32 × RSt → Option (Int32 × RSt)} {R_52 : Int32 × Int32 × Int32 × RSt → Option (Int32 × RSt)} {l1 : Int32} {l2 : Int32} {l3 : Int32} {u : RSt} (h_R_8 : ∀ a, KU (R_8 a) a.2) (h_R_52 : ∀ a, KU (R_52 a) a.2.2.2) : KU (B_anew_52 N R_8 R_52 l1 l2 l3 u) u := by
  unfold B_anew_52
  refine KU_rd (fun _ => ?_)
  refine KU_rd (fun _ => ?_)
  refine KU_if ?_ ?_
  · skip
    exact (h_R_8 _).tr ju_rf
  · skip
    exact (ku_LP_anew_81 h_R_8 h_R_52 _ _).tr ju_rf
theorem ku_LP_anew_52 {N : Nat} {R_8 : Int32 × RSt → Option (Int32 × RSt)} (h_R_8 : ∀ a, KU (R_8 a) a.2) (n : Nat) : ∀ a : Int32 × Int32 × Int32 × RSt, KU (LP_anew_52 N R_8 n a) a.2.2.2 := by
  induction n with
  | zero => exact fun a r z e => by have e : (none : Option _) = some (r, z) := e; cases e
  | succ n ih =>
    intro a
    show KU (B_anew_52 N R_8 (LP_anew_52 N R_8 n) a.1 a.2.1 a.2.2.1 a.2.2.2) a.2.2.2
    exact ku_B_anew_52 h_R_8 ih
theorem ku_B_anew_139 {N : Nat} {R_139 : Int32 × RSt → Option (Int32 × RSt)} {l1 : Int32} {u : RSt} (h_R_139 : ∀ a, KU (R_139 a) a.2) : KU (B_anew_139 N R_139 l1 u) u := by
  unfold B_anew_139
  refine KU_if ?_ ?_
  · skip
    exact KU_some ju_rf
  · skip
    refine KU_wr ?_
    exact (h_R_139 _).tr (fu_sA (by decide) ju_rf)
theorem ku_LP_anew_139 {N : Nat}  (n : Nat) : ∀ a : Int32 × RSt, KU (LP_anew_139 N n a) a.2 := by
  induction n with
  | zero => exact fun a r z e => by have e : (none : Option _) = some (r, z) := e; cases e
  | succ n ih =>
    intro a
    show KU (B_anew_139 N (LP_anew_139 N n) a.1 a.2) a.2
    exact ku_B_anew_139 ih
theorem ku_B_anew_8 {N : Nat} {R_8 : Int32 × RSt → Option (Int32 × RSt)} {l1 : Int32} {u : RSt} (h_R_8 : ∀ a, KU (R_8 a) a.2) : KU (B_anew_8 N R_8 l1 u) u := by
  unfold B_anew_8
  refine KU_rd (fun _ => ?_)
  refine KU_if ?_ ?_
  · skip
    exact (ku_LP_anew_139  _ _).tr ju_rf
  · skip
    refine KU_rd (fun _ => ?_)
    refine KU_rd (fun _ => ?_)
    exact (ku_LP_anew_52 h_R_8 _ _).tr ju_rf
theorem ku_LP_anew_8 {N : Nat}  (n : Nat) : ∀ a : Int32 × RSt, KU (LP_anew_8 N n a) a.2 := by
  induction n with
  | zero => exact fun a r z e => by have e : (none : Option _) = some (r, z) := e; cases e
  | succ n ih =>
    intro a
    show KU (B_anew_8 N (LP_anew_8 N n) a.1 a.2) a.2
    exact ku_B_anew_8 ih
theorem ku_B_anew_0 {N : Nat} {u : RSt}  : KU (B_anew_0 N u) u := by
  unfold B_anew_0
  exact (ku_LP_anew_8  _ _).tr ju_rf
theorem ku_F_anew {N : Nat} {u : RSt}  : KU (F_anew N u) u := by
  unfold F_anew
  exact ku_B_anew_0.tr ju_rf
theorem ku_B_begin_7 {N : Nat} {R_7 : Int32 × RSt → Option (Int32 × RSt)} {l1 : Int32} {u : RSt} (h_R_7 : ∀ a, KU (R_7 a) a.2) : KU (B_begin_7 N R_7 l1 u) u := by
  unfold B_begin_7
  refine KU_if ?_ ?_
  · skip
    exact KU_some ju_rf
  · skip
    refine KU_wr ?_
    exact (h_R_7 _).tr (fu_sA (by decide) ju_rf)
theorem ku_LP_begin_7 {N : Nat}  (n : Nat) : ∀ a : Int32 × RSt, KU (LP_begin_7 N n a) a.2 := by
  induction n with
  | zero => exact fun a r z e => by have e : (none : Option _) = some (r, z) := e; cases e
  | succ n ih =>
    intro a
    show KU (B_begin_7 N (LP_begin_7 N n) a.1 a.2) a.2
    exact ku_B_begin_7 ih
theorem ku_B_begin_0 {N : Nat} {u : RSt}  : KU (B_begin_0 N u) u := by
  unfold B_begin_0
  refine KU_pu ?_
  exact (ku_LP_begin_7  _ _).tr (fu_sI (by decide) ju_rf)
theorem ku_F_begin {N : Nat} {u : RSt}  : KU (F_begin N u) u := by
  unfold F_begin
  exact ku_B_begin_0.tr ju_rf
theorem ku_B_accept_283 {N : Nat} {R_283 : Int32 × Int32 × RSt → Option (Int32 × RSt)} {l1 : Int32} {l2 : Int32} {u : RSt} (h_R_283 : ∀ a, KU (R_283 a) a.2.2) : KU (B_accept_283 N R_283 l1 l2 u) u := by
  unfold B_accept_283
  refine KU_if ?_ ?_
  · skip
    refine KU_pu ?_
    refine KU_pu ?_
    refine KU_if ?_ ?_
    · skip
      refine KU_bn (ku_F_begin.tr (fu_sI (by decide) (fu_sI (by decide) ju_rf))) (fun _ _ => ?_)
      exact KU_some ju_rf
    · skip
      exact KU_some (fu_sI (by decide) (fu_sI (by decide) ju_rf))
  · skip
    refine KU_wr ?_
    refine KU_wr ?_
    refine KU_wr ?_
    refine KU_wr ?_
    refine KU_wr ?_
    refine KU_wr ?_
    exact (h_R_283 _).tr (fu_sA (by decide) (fu_sA (by decide) (fu_sA (by decide) (fu_sA (by decide) (fu_sA (by decide) (fu_sA (by decide) ju_rf))))))
theorem ku_LP_accept_283 {N : Nat}  (n : Nat) : ∀ a : Int32 × Int32 × RSt, KU (LP_accept_283 N n a) a.2.2 := by
  induction n with
  | zero => exact fun a r z e => by have e : (none : Option _) = some (r, z) := e; cases e
  | succ n ih =>
    intro a
    show KU (B_accept_283 N (LP_accept_283 N n) a.1 a.2.1 a.2.2) a.2.2
    exact ku_B_accept_283 ih
theorem ku_B_scan_23 {N : Nat} {R_23 : Int32 × Int32 × Int32 × RSt → Option (Int32 × RSt)} {l1 : Int32} {l2 : Int32} {l3 : Int32} {u : RSt} (h_R_23 : ∀ a, KU (R_23 a) a.2.2.2) : KU (B_scan_23 N R_23 l1 l2 l3 u) u := by
  unfold B_scan_23
  refine KU_if ?_ ?_
  · skip
    exact KU_some ju_rf
  · skip
    refine KU_if ?_ ?_
    · skip
      refine KU_bn (ku_F_ticks.tr ju_rf) (fun _ _ => ?_)
      exact (h_R_23 _).tr ju_rf
    · skip
      exact KU_some ju_rf
theorem ku_LP_scan_23 {N : Nat}  (n : Nat) : ∀ a : Int32 × Int32 × Int32 × RSt, KU (LP_scan_23 N n a) a.2.2.2 := by
  induction n with
  | zero => exact fun a r z e => by have e : (none : Option _) = some (r, z) := e; cases e
  | succ n ih =>
    intro a
    show KU (B_scan_23 N (LP_scan_23 N n) a.1 a.2.1 a.2.2.1 a.2.2.2) a.2.2.2
    exact ku_B_scan_23 ih
theorem ku_B_scan_16 {N : Nat} {l1 : Int32} {s1 : Int32} {u : RSt}  : KU (B_scan_16 N l1 s1 u) u := by
  unfold B_scan_16
  refine KU_pu ?_
  exact (ku_LP_scan_23  _ _).tr (fu_sI (by decide) ju_rf)
theorem ku_B_scan_0 {N : Nat} {l1 : Int32} {u : RSt}  : KU (B_scan_0 N l1 u) u := by
  unfold B_scan_0
  refine KU_if ?_ ?_
  · skip
    exact ku_B_scan_16.tr ju_rf
  · skip
    exact ku_B_scan_16.tr ju_rf
theorem ku_F_scan {N : Nat} {l1 : Int32} {u : RSt}  : KU (F_scan N l1 u) u := by
  unfold F_scan
  exact ku_B_scan_0.tr ju_rf
theorem ku_B_power_82 {N : Nat} {R_14 : Int32 × RSt → Option (Int32 × RSt)} {l1 : Int32} {u : RSt} (h_R_14 : ∀ a, KU (R_14 a) a.2) : KU (B_power_82 N R_14 l1 u) u := by
  unfold B_power_82
  exact (h_R_14 _).tr ju_rf
theorem ku_B_power_38 {N : Nat} {R_14 : Int32 × RSt → Option (Int32 × RSt)} {R_38 : Int32 × Int32 × RSt → Option (Int32 × RSt)} {l1 : Int32} {l2 : Int32} {u : RSt} (h_R_14 : ∀ a, KU (R_14 a) a.2) (h_R_38 : ∀ a, KU (R_38 a) a.2.2) : KU (B_power_38 N R_14 R_38 l1 l2 u) u := by
  unfold B_power_38
  refine KU_rd (fun _ => ?_)
  refine KU_if ?_ ?_
  · skip
    exact (ku_B_power_82 h_R_14).tr ju_rf
  · skip
    refine KU_rd (fun _ => ?_)
    refine KU_if ?_ ?_
    · skip
      refine KU_rd (fun _ => ?_)
      refine KU_rd (fun _ => ?_)
      refine KU_wr ?_
      exact (h_R_38 _).tr (fu_sB (by decide) ju_rf)
    · skip
      exact (ku_B_power_82 h_R_14).tr ju_rf
theorem ku_LP_power_38 {N : Nat} {R_14 : Int32 × RSt → Option (Int32 × RSt)} (h_R_14 : ∀ a, KU (R_14 a) a.2) (n : Nat) : ∀ a : Int32 × Int32 × RSt, KU (LP_power_38 N R_14 n a) a.2.2 := by
  induction n with
  | zero => exact fun a r z e => by have e : (none : Option _) = some (r, z) := e; cases e
  | succ n ih =>
    intro a
    show KU (B_power_38 N R_14 (LP_power_38 N R_14 n) a.1 a.2.1 a.2.2) a.2.2
    exact ku_B_power_38 h_R_14 ih
theorem ku_B_power_14 {N : Nat} {R_14 : Int32 × RSt → Option (Int32 × RSt)} {l1 : Int32} {u : RSt} (h_R_14 : ∀ a, KU (R_14 a) a.2) : KU (B_power_14 N R_14 l1 u) u := by
  unfold B_power_14
  refine KU_rd (fun _ => ?_)
  refine KU_if ?_ ?_
  · skip
    refine KU_bn (ku_F_anew.tr ju_rf) (fun _ _ => ?_)
    refine KU_bn (ku_F_begin.tr ju_rf) (fun _ _ => ?_)
    exact KU_some ju_rf
  · skip
    exact (ku_LP_power_38 h_R_14 _ _).tr ju_rf
theorem ku_LP_power_14 {N : Nat}  (n : Nat) : ∀ a : Int32 × RSt, KU (LP_power_14 N n a) a.2 := by
  induction n with
  | zero => exact fun a r z e => by have e : (none : Option _) = some (r, z) := e; cases e
  | succ n ih =>
    intro a
    show KU (B_power_14 N (LP_power_14 N n) a.1 a.2) a.2
    exact ku_B_power_14 ih
theorem ku_B_power_0 {N : Nat} {u : RSt}  : KU (B_power_0 N u) u := by
  unfold B_power_0
  refine KU_pu ?_
  exact (ku_LP_power_14  _ _).tr (fu_sI (by decide) ju_rf)
theorem ku_F_power {N : Nat} {u : RSt}  : KU (F_power N u) u := by
  unfold F_power
  exact ku_B_power_0.tr ju_rf
theorem ku_B_hasByte_16 {N : Nat} {s1 : Int32} {u : RSt}  : KU (B_hasByte_16 N s1 u) u := by
  unfold B_hasByte_16
  refine KU_pu ?_
  refine KU_if ?_ ?_
  · skip
    exact KU_some (fu_sI (by decide) ju_rf)
  · skip
    exact KU_some (fu_sI (by decide) ju_rf)
theorem ku_B_hasByte_0 {N : Nat} {l1 : Int32} {l2 : Int32} {u : RSt}  : KU (B_hasByte_0 N l1 l2 u) u := by
  unfold B_hasByte_0
  refine KU_if ?_ ?_
  · skip
    exact ku_B_hasByte_16.tr ju_rf
  · skip
    exact ku_B_hasByte_16.tr ju_rf
theorem ku_F_hasByte {N : Nat} {l1 : Int32} {l2 : Int32} {u : RSt}  : KU (F_hasByte N l1 l2 u) u := by
  unfold F_hasByte
  exact ku_B_hasByte_0.tr ju_rf
theorem ku_B_input_0 {N : Nat} {l1 : Int32} {l2 : Int32} {u : RSt}  : KU (B_input_0 N l1 l2 u) u := by
  unfold B_input_0
  refine KU_bn (ku_F_hasByte.tr ju_rf) (fun _ _ => ?_)
  refine KU_if ?_ ?_
  · skip
    exact KU_some ju_rf
  · skip
    refine KU_wr ?_
    exact KU_some (fu_sA (by decide) ju_rf)
theorem ku_F_input {N : Nat} {l1 : Int32} {l2 : Int32} {u : RSt}  : KU (F_input N l1 l2 u) u := by
  unfold F_input
  exact ku_B_input_0.tr ju_rf
theorem ku_B_look_51 {N : Nat} {l1 : Int32} {s0 : Int32} {u : RSt}  : KU (B_look_51 N l1 s0 u) u := by
  unfold B_look_51
  refine KU_if ?_ ?_
  · skip
    refine KU_if ?_ ?_
    · skip
      refine KU_if ?_ ?_
      · skip
        refine KU_rd (fun _ => ?_)
        exact KU_some ju_rf
      · skip
        refine KU_rd (fun _ => ?_)
        exact KU_some ju_rf
    · skip
      refine KU_rd (fun _ => ?_)
      exact KU_some ju_rf
  · skip
    refine KU_rd (fun _ => ?_)
    exact KU_some ju_rf
theorem ku_B_look_16 {N : Nat} {l1 : Int32} {l2 : Int32} {s1 : Int32} {u : RSt}  : KU (B_look_16 N l1 l2 s1 u) u := by
  unfold B_look_16
  refine KU_pu ?_
  refine KU_if ?_ ?_
  · skip
    exact KU_some (fu_sI (by decide) ju_rf)
  · skip
    refine KU_bn (ku_F_hasByte.tr (fu_sI (by decide) ju_rf)) (fun _ _ => ?_)
    refine KU_if ?_ ?_
    · skip
      exact KU_some ju_rf
    · skip
      refine KU_if ?_ ?_
      · skip
        exact ku_B_look_51.tr ju_rf
      · skip
        exact ku_B_look_51.tr ju_rf
theorem ku_B_look_0 {N : Nat} {l1 : Int32} {l2 : Int32} {u : RSt}  : KU (B_look_0 N l1 l2 u) u := by
  unfold B_look_0
  refine KU_if ?_ ?_
  · skip
    exact ku_B_look_16.tr ju_rf
  · skip
    exact ku_B_look_16.tr ju_rf
theorem ku_F_look {N : Nat} {l1 : Int32} {l2 : Int32} {u : RSt}  : KU (F_look N l1 l2 u) u := by
  unfold F_look
  exact ku_B_look_0.tr ju_rf
theorem ku_B_force_22 {N : Nat} {l3 : Int32} {l4 : Int32} {s0 : Int32} {u : RSt}  : KU (B_force_22 N l3 l4 s0 u) u := by
  unfold B_force_22
  refine KU_wr ?_
  refine KU_wr ?_
  exact KU_some (fu_sA (by decide) (fu_sA (by decide) ju_rf))
theorem ku_B_force_0 {N : Nat} {l1 : Int32} {l2 : Int32} {l3 : Int32} {l4 : Int32} {u : RSt}  : KU (B_force_0 N l1 l2 l3 l4 u) u := by
  unfold B_force_0
  refine KU_bn (ku_F_hasByte.tr ju_rf) (fun _ _ => ?_)
  refine KU_if ?_ ?_
  · skip
    exact KU_some ju_rf
  · skip
    refine KU_if ?_ ?_
    · skip
      exact ku_B_force_22.tr ju_rf
    · skip
      exact ku_B_force_22.tr ju_rf
theorem ku_F_force {N : Nat} {l1 : Int32} {l2 : Int32} {l3 : Int32} {l4 : Int32} {u : RSt}  : KU (F_force N l1 l2 l3 l4 u) u := by
  unfold F_force
  exact ku_B_force_0.tr ju_rf
theorem ku_B_watchdog_17 {N : Nat} {l1 : Int32} {s1 : Int32} {u : RSt}  : KU (B_watchdog_17 N l1 s1 u) u := by
  unfold B_watchdog_17
  refine KU_pu ?_
  refine KU_if ?_ ?_
  · skip
    refine KU_pu ?_
    exact KU_some (fu_sI (by decide) (fu_sI (by decide) ju_rf))
  · skip
    exact KU_some (fu_sI (by decide) ju_rf)
theorem ku_B_watchdog_0 {N : Nat} {l1 : Int32} {u : RSt}  : KU (B_watchdog_0 N l1 u) u := by
  unfold B_watchdog_0
  refine KU_if ?_ ?_
  · skip
    exact ku_B_watchdog_17.tr ju_rf
  · skip
    exact ku_B_watchdog_17.tr ju_rf
theorem ku_F_watchdog {N : Nat} {l1 : Int32} {u : RSt}  : KU (F_watchdog N l1 u) u := by
  unfold F_watchdog
  exact ku_B_watchdog_0.tr ju_rf
theorem ku_B_hasTask_25 {N : Nat} {s1 : Int32} {u : RSt}  : KU (B_hasTask_25 N s1 u) u := by
  unfold B_hasTask_25
  refine KU_pu ?_
  refine KU_if ?_ ?_
  · skip
    exact KU_some (fu_sI (by decide) ju_rf)
  · skip
    exact KU_some (fu_sI (by decide) ju_rf)
theorem ku_B_hasTask_0 {N : Nat} {l1 : Int32} {u : RSt}  : KU (B_hasTask_0 N l1 u) u := by
  unfold B_hasTask_0
  refine KU_rd (fun _ => ?_)
  refine KU_if ?_ ?_
  · skip
    exact ku_B_hasTask_25.tr ju_rf
  · skip
    exact ku_B_hasTask_25.tr ju_rf
theorem ku_F_hasTask {N : Nat} {l1 : Int32} {u : RSt}  : KU (F_hasTask N l1 u) u := by
  unfold F_hasTask
  exact ku_B_hasTask_0.tr ju_rf
theorem ku_B_clear_0 {N : Nat} {l1 : Int32} {u : RSt}  : KU (B_clear_0 N l1 u) u := by
  unfold B_clear_0
  refine KU_bn (ku_F_hasTask.tr ju_rf) (fun _ _ => ?_)
  refine KU_if ?_ ?_
  · skip
    exact KU_some ju_rf
  · skip
    refine KU_rd (fun _ => ?_)
    refine KU_wr ?_
    refine KU_zr ?_
    exact KU_some (fu_sA (by decide) ju_rf)
theorem ku_F_clear {N : Nat} {l1 : Int32} {u : RSt}  : KU (F_clear N l1 u) u := by
  unfold F_clear
  exact ku_B_clear_0.tr ju_rf
theorem ku_B_task_0 {N : Nat} {l1 : Int32} {l2 : Int32} {u : RSt}  : KU (B_task_0 N l1 l2 u) u := by
  unfold B_task_0
  refine KU_bn (ku_F_hasTask.tr ju_rf) (fun _ _ => ?_)
  refine KU_if ?_ ?_
  · skip
    exact KU_some ju_rf
  · skip
    refine KU_if ?_ ?_
    · skip
      refine KU_rd (fun _ => ?_)
      exact KU_some ju_rf
    · skip
      refine KU_if ?_ ?_
      · skip
        refine KU_rd (fun _ => ?_)
        exact KU_some ju_rf
      · skip
        refine KU_if ?_ ?_
        · skip
          refine KU_rd (fun _ => ?_)
          refine KU_if ?_ ?_
          · skip
            exact KU_some ju_rf
          · skip
            exact KU_some ju_rf
        · skip
          refine KU_if ?_ ?_
          · skip
            refine KU_rd (fun _ => ?_)
            exact KU_some ju_rf
          · skip
            refine KU_if ?_ ?_
            · skip
              refine KU_rd (fun _ => ?_)
              exact KU_some ju_rf
            · skip
              refine KU_if ?_ ?_
              · skip
                refine KU_rd (fun _ => ?_)
                exact KU_some ju_rf
              · skip
                refine KU_if ?_ ?_
                · skip
                  refine KU_rd (fun _ => ?_)
                  exact KU_some ju_rf
                · skip
                  refine KU_if ?_ ?_
                  · skip
                    refine KU_rd (fun _ => ?_)
                    exact KU_some ju_rf
                  · skip
                    refine KU_if ?_ ?_
                    · skip
                      refine KU_rd (fun _ => ?_)
                      exact KU_some ju_rf
                    · skip
                      refine KU_pu ?_
                      exact KU_some (fu_sI (by decide) ju_rf)
theorem ku_F_task {N : Nat} {l1 : Int32} {l2 : Int32} {u : RSt}  : KU (F_task N l1 l2 u) u := by
  unfold F_task
  exact ku_B_task_0.tr ju_rf
theorem ku_B_hasVariable_25 {N : Nat} {s1 : Int32} {u : RSt}  : KU (B_hasVariable_25 N s1 u) u := by
  unfold B_hasVariable_25
  refine KU_pu ?_
  refine KU_if ?_ ?_
  · skip
    exact KU_some (fu_sI (by decide) ju_rf)
  · skip
    exact KU_some (fu_sI (by decide) ju_rf)
theorem ku_B_hasVariable_0 {N : Nat} {l1 : Int32} {u : RSt}  : KU (B_hasVariable_0 N l1 u) u := by
  unfold B_hasVariable_0
  refine KU_rd (fun _ => ?_)
  refine KU_if ?_ ?_
  · skip
    exact ku_B_hasVariable_25.tr ju_rf
  · skip
    exact ku_B_hasVariable_25.tr ju_rf
theorem ku_F_hasVariable {N : Nat} {l1 : Int32} {u : RSt}  : KU (F_hasVariable N l1 u) u := by
  unfold F_hasVariable
  exact ku_B_hasVariable_0.tr ju_rf
theorem ku_B_hasPlace_38 {N : Nat} {u : RSt}  : KU (B_hasPlace_38 N u) u := by
  unfold B_hasPlace_38
  refine KU_if ?_ ?_
  · skip
    exact KU_some ju_rf
  · skip
    exact KU_some ju_rf
theorem ku_B_hasPlace_0 {N : Nat} {l1 : Int32} {l2 : Int32} {u : RSt}  : KU (B_hasPlace_0 N l1 l2 u) u := by
  unfold B_hasPlace_0
  refine KU_bn (ku_F_hasVariable.tr ju_rf) (fun _ _ => ?_)
  refine KU_if ?_ ?_
  · skip
    exact ku_B_hasPlace_38.tr ju_rf
  · skip
    refine KU_rd (fun _ => ?_)
    refine KU_if ?_ ?_
    · skip
      refine KU_pu ?_
      exact ku_B_hasPlace_38.tr (fu_sI (by decide) ju_rf)
    · skip
      exact ku_B_hasPlace_38.tr ju_rf
theorem ku_F_hasPlace {N : Nat} {l1 : Int32} {l2 : Int32} {u : RSt}  : KU (F_hasPlace N l1 l2 u) u := by
  unfold F_hasPlace
  exact ku_B_hasPlace_0.tr ju_rf
theorem ku_B_value_0 {N : Nat} {l1 : Int32} {l2 : Int32} {u : RSt}  : KU (B_value_0 N l1 l2 u) u := by
  unfold B_value_0
  refine KU_bn (ku_F_hasPlace.tr ju_rf) (fun _ _ => ?_)
  refine KU_if ?_ ?_
  · skip
    exact KU_some ju_rf
  · skip
    refine KU_bn (ku_F_numberOf.tr ju_rf) (fun _ _ => ?_)
    exact KU_some ju_rf
theorem ku_F_value {N : Nat} {l1 : Int32} {l2 : Int32} {u : RSt}  : KU (F_value N l1 l2 u) u := by
  unfold F_value
  exact ku_B_value_0.tr ju_rf
theorem ku_B_poke_39 {N : Nat} {l1 : Int32} {l2 : Int32} {l3 : Int64} {l5 : Int32} {u : RSt}  : KU (B_poke_39 N l1 l2 l3 l5 u) u := by
  unfold B_poke_39
  refine KU_if ?_ ?_
  · skip
    refine KU_rd (fun _ => ?_)
    refine KU_rd (fun _ => ?_)
    refine KU_bn (ku_F_write.tr ju_rf) (fun _ _ => ?_)
    refine KU_bn (ku_F_numberOf.tr ju_rf) (fun _ _ => ?_)
    exact KU_some ju_rf
  · skip
    exact KU_some ju_rf
theorem ku_B_poke_0 {N : Nat} {l1 : Int32} {l2 : Int32} {l3 : Int64} {u : RSt}  : KU (B_poke_0 N l1 l2 l3 u) u := by
  unfold B_poke_0
  refine KU_bn (ku_F_hasPlace.tr ju_rf) (fun _ _ => ?_)
  refine KU_if ?_ ?_
  · skip
    exact KU_some ju_rf
  · skip
    refine KU_rd (fun _ => ?_)
    refine KU_if ?_ ?_
    · skip
      refine KU_pu ?_
      exact ku_B_poke_39.tr (fu_sI (by decide) ju_rf)
    · skip
      exact ku_B_poke_39.tr ju_rf
theorem ku_F_poke {N : Nat} {l1 : Int32} {l2 : Int32} {l3 : Int64} {u : RSt}  : KU (F_poke N l1 l2 l3 u) u := by
  unfold F_poke
  exact ku_B_poke_0.tr ju_rf
theorem ku_B_variable_0 {N : Nat} {l1 : Int32} {l2 : Int32} {u : RSt}  : KU (B_variable_0 N l1 l2 u) u := by
  unfold B_variable_0
  refine KU_bn (ku_F_hasVariable.tr ju_rf) (fun _ _ => ?_)
  refine KU_if ?_ ?_
  · skip
    exact KU_some ju_rf
  · skip
    refine KU_if ?_ ?_
    · skip
      refine KU_rd (fun _ => ?_)
      exact KU_some ju_rf
    · skip
      refine KU_if ?_ ?_
      · skip
        refine KU_rd (fun _ => ?_)
        exact KU_some ju_rf
      · skip
        refine KU_if ?_ ?_
        · skip
          refine KU_rd (fun _ => ?_)
          exact KU_some ju_rf
        · skip
          refine KU_if ?_ ?_
          · skip
            refine KU_rd (fun _ => ?_)
            refine KU_if ?_ ?_
            · skip
              exact KU_some ju_rf
            · skip
              exact KU_some ju_rf
          · skip
            refine KU_if ?_ ?_
            · skip
              refine KU_rd (fun _ => ?_)
              exact KU_some ju_rf
            · skip
              refine KU_pu ?_
              exact KU_some (fu_sI (by decide) ju_rf)
theorem ku_F_variable {N : Nat} {l1 : Int32} {l2 : Int32} {u : RSt}  : KU (F_variable N l1 l2 u) u := by
  unfold F_variable
  exact ku_B_variable_0.tr ju_rf
theorem ku_B_field_0 {N : Nat} {l1 : Int32} {l2 : Int32} {l3 : Int32} {u : RSt}  : KU (B_field_0 N l1 l2 l3 u) u := by
  unfold B_field_0
  refine KU_pu ?_
  refine KU_rd (fun _ => ?_)
  refine KU_if ?_ ?_
  · skip
    exact KU_some (fu_sI (by decide) ju_rf)
  · skip
    refine KU_rd (fun _ => ?_)
    refine KU_rd (fun _ => ?_)
    refine KU_if ?_ ?_
    · skip
      exact KU_some (fu_sI (by decide) ju_rf)
    · skip
      refine KU_rd (fun _ => ?_)
      refine KU_rd (fun _ => ?_)
      refine KU_if ?_ ?_
      · skip
        exact KU_some (fu_sI (by decide) ju_rf)
      · skip
        refine KU_pu ?_
        refine KU_rd (fun _ => ?_)
        refine KU_rd (fun _ => ?_)
        refine KU_rd (fun _ => ?_)
        exact KU_some (fu_sI (by decide) (fu_sI (by decide) ju_rf))
theorem ku_F_field {N : Nat} {l1 : Int32} {l2 : Int32} {l3 : Int32} {u : RSt}  : KU (F_field N l1 l2 l3 u) u := by
  unfold F_field
  exact ku_B_field_0.tr ju_rf
theorem ku_B_trace_45 {N : Nat} {R_14 : Int32 × Int32 × Int32 × Int32 × RSt → Option (Int32 × RSt)} {l1 : Int32} {l2 : Int32} {l3 : Int32} {l4 : Int32} {u : RSt} (h_R_14 : ∀ a, KU (R_14 a) a.2.2.2.2) : KU (B_trace_45 N R_14 l1 l2 l3 l4 u) u := by
  unfold B_trace_45
  exact (h_R_14 _).tr ju_rf
theorem ku_B_trace_164 {N : Nat} {R_164 : Int32 × RSt → Option (Int32 × RSt)} {l6 : Int32} {u : RSt} (h_R_164 : ∀ a, KU (R_164 a) a.2) : KU (B_trace_164 N R_164 l6 u) u := by
  unfold B_trace_164
  refine KU_if ?_ ?_
  · skip
    exact KU_some ju_rf
  · skip
    refine KU_rd (fun _ => ?_)
    refine KU_wr ?_
    refine KU_rd (fun _ => ?_)
    refine KU_wr ?_
    refine KU_rd (fun _ => ?_)
    refine KU_wr ?_
    exact (h_R_164 _).tr (fu_sB (by decide) (fu_sA (by decide) (fu_sA (by decide) ju_rf)))
theorem ku_LP_trace_164 {N : Nat}  (n : Nat) : ∀ a : Int32 × RSt, KU (LP_trace_164 N n a) a.2 := by
  induction n with
  | zero => exact fun a r z e => by have e : (none : Option _) = some (r, z) := e; cases e
  | succ n ih =>
    intro a
    show KU (B_trace_164 N (LP_trace_164 N n) a.1 a.2) a.2
    exact ku_B_trace_164 ih
theorem ku_B_trace_90 {N : Nat} {l1 : Int32} {l2 : Int32} {l3 : Int32} {l4 : Int32} {l5 : Int32} {u : RSt}  : KU (B_trace_90 N l1 l2 l3 l4 l5 u) u := by
  unfold B_trace_90
  refine KU_if ?_ ?_
  · skip
    exact KU_some ju_rf
  · skip
    refine KU_if ?_ ?_
    · skip
      exact KU_some ju_rf
    · skip
      refine KU_if ?_ ?_
      · skip
        refine KU_pu ?_
        exact (ku_LP_trace_164  _ _).tr (fu_sI (by decide) ju_rf)
      · skip
        refine KU_wr ?_
        refine KU_wr ?_
        refine KU_bn (ku_F_numberOf.tr (fu_sA (by decide) (fu_sA (by decide) ju_rf))) (fun _ _ => ?_)
        refine KU_wr ?_
        refine KU_pu ?_
        exact KU_some (fu_sI (by decide) (fu_sB (by decide) ju_rf))
theorem ku_B_trace_65 {N : Nat} {l1 : Int32} {l2 : Int32} {l3 : Int32} {l4 : Int32} {s0 : Int32} {u : RSt}  : KU (B_trace_65 N l1 l2 l3 l4 s0 u) u := by
  unfold B_trace_65
  refine KU_if ?_ ?_
  · skip
    exact ku_B_trace_90.tr ju_rf
  · skip
    refine KU_if ?_ ?_
    · skip
      refine KU_if ?_ ?_
      · skip
        refine KU_pu ?_
        exact ku_B_trace_90.tr (fu_sI (by decide) ju_rf)
      · skip
        exact ku_B_trace_90.tr ju_rf
    · skip
      exact ku_B_trace_90.tr ju_rf
theorem ku_B_trace_51 {N : Nat} {l1 : Int32} {l2 : Int32} {l3 : Int32} {l4 : Int32} {u : RSt}  : KU (B_trace_51 N l1 l2 l3 l4 u) u := by
  unfold B_trace_51
  refine KU_if ?_ ?_
  · skip
    exact ku_B_trace_65.tr ju_rf
  · skip
    exact ku_B_trace_65.tr ju_rf
theorem ku_B_trace_14 {N : Nat} {R_14 : Int32 × Int32 × Int32 × Int32 × RSt → Option (Int32 × RSt)} {l1 : Int32} {l2 : Int32} {l3 : Int32} {l4 : Int32} {u : RSt} (h_R_14 : ∀ a, KU (R_14 a) a.2.2.2.2) : KU (B_trace_14 N R_14 l1 l2 l3 l4 u) u := by
  unfold B_trace_14
  refine KU_if ?_ ?_
  · skip
    exact ku_B_trace_51.tr ju_rf
  · skip
    refine KU_rd (fun _ => ?_)
    refine KU_if ?_ ?_
    · skip
      refine KU_rd (fun _ => ?_)
      refine KU_if ?_ ?_
      · skip
        exact ku_B_trace_51.tr ju_rf
      · skip
        exact (ku_B_trace_45 h_R_14).tr ju_rf
    · skip
      exact (ku_B_trace_45 h_R_14).tr ju_rf
theorem ku_LP_trace_14 {N : Nat}  (n : Nat) : ∀ a : Int32 × Int32 × Int32 × Int32 × RSt, KU (LP_trace_14 N n a) a.2.2.2.2 := by
  induction n with
  | zero => exact fun a r z e => by have e : (none : Option _) = some (r, z) := e; cases e
  | succ n ih =>
    intro a
    show KU (B_trace_14 N (LP_trace_14 N n) a.1 a.2.1 a.2.2.1 a.2.2.2.1 a.2.2.2.2) a.2.2.2.2
    exact ku_B_trace_14 ih
theorem ku_B_trace_0 {N : Nat} {l1 : Int32} {l2 : Int32} {l3 : Int32} {u : RSt}  : KU (B_trace_0 N l1 l2 l3 u) u := by
  unfold B_trace_0
  refine KU_bn (ku_F_hasPlace.tr ju_rf) (fun _ _ => ?_)
  refine KU_if ?_ ?_
  · skip
    exact KU_some ju_rf
  · skip
    exact (ku_LP_trace_14  _ _).tr ju_rf
theorem ku_F_trace {N : Nat} {l1 : Int32} {l2 : Int32} {l3 : Int32} {u : RSt}  : KU (F_trace N l1 l2 l3 u) u := by
  unfold F_trace
  exact ku_B_trace_0.tr ju_rf
theorem ku_B_event_33 {N : Nat} {l1 : Int32} {l2 : Int32} {s1 : Int32} {u : RSt}  : KU (B_event_33 N l1 l2 s1 u) u := by
  unfold B_event_33
  refine KU_pu ?_
  refine KU_if ?_ ?_
  · skip
    refine KU_if ?_ ?_
    · skip
      refine KU_rd (fun _ => ?_)
      exact KU_some (fu_sI (by decide) ju_rf)
    · skip
      refine KU_if ?_ ?_
      · skip
        refine KU_rd (fun _ => ?_)
        exact KU_some (fu_sI (by decide) ju_rf)
      · skip
        refine KU_if ?_ ?_
        · skip
          refine KU_rd (fun _ => ?_)
          exact KU_some (fu_sI (by decide) ju_rf)
        · skip
          refine KU_rd (fun _ => ?_)
          exact KU_some (fu_sI (by decide) ju_rf)
  · skip
    exact KU_some (fu_sI (by decide) ju_rf)
theorem ku_B_event_0 {N : Nat} {l1 : Int32} {l2 : Int32} {u : RSt}  : KU (B_event_0 N l1 l2 u) u := by
  unfold B_event_0
  refine KU_if ?_ ?_
  · skip
    exact ku_B_event_33.tr ju_rf
  · skip
    refine KU_if ?_ ?_
    · skip
      exact ku_B_event_33.tr ju_rf
    · skip
      exact ku_B_event_33.tr ju_rf
theorem ku_F_event {N : Nat} {l1 : Int32} {l2 : Int32} {u : RSt}  : KU (F_event N l1 l2 u) u := by
  unfold F_event
  exact ku_B_event_0.tr ju_rf
theorem ku_B_count_51 {N : Nat} {R_23 : Int32 × Int32 × Int32 × RSt → Option (Int32 × RSt)} {l1 : Int32} {l3 : Int32} {s0 : Int32} {s1 : Int32} {u : RSt} (h_R_23 : ∀ a, KU (R_23 a) a.2.2.2) : KU (B_count_51 N R_23 l1 l3 s0 s1 u) u := by
  unfold B_count_51
  exact (h_R_23 _).tr ju_rf
theorem ku_B_count_23 {N : Nat} {R_23 : Int32 × Int32 × Int32 × RSt → Option (Int32 × RSt)} {l1 : Int32} {l2 : Int32} {l3 : Int32} {u : RSt} (h_R_23 : ∀ a, KU (R_23 a) a.2.2.2) : KU (B_count_23 N R_23 l1 l2 l3 u) u := by
  unfold B_count_23
  refine KU_rd (fun _ => ?_)
  refine KU_if ?_ ?_
  · skip
    refine KU_if ?_ ?_
    · skip
      refine KU_rd (fun _ => ?_)
      exact KU_some ju_rf
    · skip
      refine KU_if ?_ ?_
      · skip
        refine KU_rd (fun _ => ?_)
        exact KU_some ju_rf
      · skip
        refine KU_if ?_ ?_
        · skip
          refine KU_rd (fun _ => ?_)
          exact KU_some ju_rf
        · skip
          refine KU_if ?_ ?_
          · skip
            refine KU_rd (fun _ => ?_)
            exact KU_some ju_rf
          · skip
            refine KU_if ?_ ?_
            · skip
              refine KU_rd (fun _ => ?_)
              exact KU_some ju_rf
            · skip
              refine KU_if ?_ ?_
              · skip
                exact KU_some ju_rf
              · skip
                refine KU_if ?_ ?_
                · skip
                  exact KU_some ju_rf
                · skip
                  refine KU_if ?_ ?_
                  · skip
                    exact KU_some ju_rf
                  · skip
                    refine KU_if ?_ ?_
                    · skip
                      exact KU_some ju_rf
                    · skip
                      refine KU_if ?_ ?_
                      · skip
                        exact KU_some ju_rf
                      · skip
                        refine KU_if ?_ ?_
                        · skip
                          exact KU_some ju_rf
                        · skip
                          exact KU_some ju_rf
  · skip
    refine KU_rd (fun _ => ?_)
    refine KU_if ?_ ?_
    · skip
      exact (ku_B_count_51 h_R_23).tr ju_rf
    · skip
      exact (ku_B_count_51 h_R_23).tr ju_rf
theorem ku_LP_count_23 {N : Nat}  (n : Nat) : ∀ a : Int32 × Int32 × Int32 × RSt, KU (LP_count_23 N n a) a.2.2.2 := by
  induction n with
  | zero => exact fun a r z e => by have e : (none : Option _) = some (r, z) := e; cases e
  | succ n ih =>
    intro a
    show KU (B_count_23 N (LP_count_23 N n) a.1 a.2.1 a.2.2.1 a.2.2.2) a.2.2.2
    exact ku_B_count_23 ih
theorem ku_B_count_16 {N : Nat} {l1 : Int32} {s1 : Int32} {u : RSt}  : KU (B_count_16 N l1 s1 u) u := by
  unfold B_count_16
  refine KU_pu ?_
  exact (ku_LP_count_23  _ _).tr (fu_sI (by decide) ju_rf)
theorem ku_B_count_0 {N : Nat} {l1 : Int32} {u : RSt}  : KU (B_count_0 N l1 u) u := by
  unfold B_count_0
  refine KU_if ?_ ?_
  · skip
    exact ku_B_count_16.tr ju_rf
  · skip
    exact ku_B_count_16.tr ju_rf
theorem ku_F_count {N : Nat} {l1 : Int32} {u : RSt}  : KU (F_count N l1 u) u := by
  unfold F_count
  exact ku_B_count_0.tr ju_rf
theorem ku_B_sum_25 {N : Nat} {R_9 : Int64 × Int32 × RSt → Option (Int64 × RSt)} {R_25 : Int64 × Int32 × Int32 × RSt → Option (Int64 × RSt)} {l1 : Int64} {l3 : Int32} {l4 : Int32} {u : RSt} (h_R_9 : ∀ a, KU (R_9 a) a.2.2) (h_R_25 : ∀ a, KU (R_25 a) a.2.2.2) : KU (B_sum_25 N R_9 R_25 l1 l3 l4 u) u := by
  unfold B_sum_25
  refine KU_rd (fun _ => ?_)
  refine KU_if ?_ ?_
  · skip
    exact (h_R_9 _).tr ju_rf
  · skip
    refine KU_bn (ku_F_numberOf.tr ju_rf) (fun _ _ => ?_)
    exact (h_R_25 _).tr ju_rf
theorem ku_LP_sum_25 {N : Nat} {R_9 : Int64 × Int32 × RSt → Option (Int64 × RSt)} (h_R_9 : ∀ a, KU (R_9 a) a.2.2) (n : Nat) : ∀ a : Int64 × Int32 × Int32 × RSt, KU (LP_sum_25 N R_9 n a) a.2.2.2 := by
  induction n with
  | zero => exact fun a r z e => by have e : (none : Option _) = some (r, z) := e; cases e
  | succ n ih =>
    intro a
    show KU (B_sum_25 N R_9 (LP_sum_25 N R_9 n) a.1 a.2.1 a.2.2.1 a.2.2.2) a.2.2.2
    exact ku_B_sum_25 h_R_9 ih
theorem ku_B_sum_103 {N : Nat} {R_79 : Int64 × Int32 × RSt → Option (Int64 × RSt)} {R_103 : Int64 × Int32 × Int32 × RSt → Option (Int64 × RSt)} {l1 : Int64} {l3 : Int32} {l4 : Int32} {u : RSt} (h_R_79 : ∀ a, KU (R_79 a) a.2.2) (h_R_103 : ∀ a, KU (R_103 a) a.2.2.2) : KU (B_sum_103 N R_79 R_103 l1 l3 l4 u) u := by
  unfold B_sum_103
  refine KU_rd (fun _ => ?_)
  refine KU_rd (fun _ => ?_)
  refine KU_if ?_ ?_
  · skip
    exact (h_R_79 _).tr ju_rf
  · skip
    refine KU_rd (fun _ => ?_)
    refine KU_rd (fun _ => ?_)
    exact (h_R_103 _).tr ju_rf
theorem ku_LP_sum_103 {N : Nat} {R_79 : Int64 × Int32 × RSt → Option (Int64 × RSt)} (h_R_79 : ∀ a, KU (R_79 a) a.2.2) (n : Nat) : ∀ a : Int64 × Int32 × Int32 × RSt, KU (LP_sum_103 N R_79 n a) a.2.2.2 := by
  induction n with
  | zero => exact fun a r z e => by have e : (none : Option _) = some (r, z) := e; cases e
  | succ n ih =>
    intro a
    show KU (B_sum_103 N R_79 (LP_sum_103 N R_79 n) a.1 a.2.1 a.2.2.1 a.2.2.2) a.2.2.2
    exact ku_B_sum_103 h_R_79 ih
theorem ku_B_sum_79 {N : Nat} {R_79 : Int64 × Int32 × RSt → Option (Int64 × RSt)} {l1 : Int64} {l3 : Int32} {u : RSt} (h_R_79 : ∀ a, KU (R_79 a) a.2.2) : KU (B_sum_79 N R_79 l1 l3 u) u := by
  unfold B_sum_79
  refine KU_rd (fun _ => ?_)
  refine KU_if ?_ ?_
  · skip
    exact KU_some ju_rf
  · skip
    exact (ku_LP_sum_103 h_R_79 _ _).tr ju_rf
theorem ku_LP_sum_79 {N : Nat}  (n : Nat) : ∀ a : Int64 × Int32 × RSt, KU (LP_sum_79 N n a) a.2.2 := by
  induction n with
  | zero => exact fun a r z e => by have e : (none : Option _) = some (r, z) := e; cases e
  | succ n ih =>
    intro a
    show KU (B_sum_79 N (LP_sum_79 N n) a.1 a.2.1 a.2.2) a.2.2
    exact ku_B_sum_79 ih
theorem ku_B_sum_9 {N : Nat} {R_9 : Int64 × Int32 × RSt → Option (Int64 × RSt)} {l1 : Int64} {l3 : Int32} {u : RSt} (h_R_9 : ∀ a, KU (R_9 a) a.2.2) : KU (B_sum_9 N R_9 l1 l3 u) u := by
  unfold B_sum_9
  refine KU_rd (fun _ => ?_)
  refine KU_if ?_ ?_
  · skip
    exact (ku_LP_sum_79  _ _).tr ju_rf
  · skip
    exact (ku_LP_sum_25 h_R_9 _ _).tr ju_rf
theorem ku_LP_sum_9 {N : Nat}  (n : Nat) : ∀ a : Int64 × Int32 × RSt, KU (LP_sum_9 N n a) a.2.2 := by
  induction n with
  | zero => exact fun a r z e => by have e : (none : Option _) = some (r, z) := e; cases e
  | succ n ih =>
    intro a
    show KU (B_sum_9 N (LP_sum_9 N n) a.1 a.2.1 a.2.2) a.2.2
    exact ku_B_sum_9 ih
theorem ku_B_sum_0 {N : Nat} {u : RSt}  : KU (B_sum_0 N u) u := by
  unfold B_sum_0
  refine KU_pu ?_
  exact (ku_LP_sum_9  _ _).tr (fu_sI (by decide) ju_rf)
theorem ku_F_sum {N : Nat} {u : RSt}  : KU (F_sum N u) u := by
  unfold F_sum
  exact ku_B_sum_0.tr ju_rf
theorem ku_B_areKinds_28 {N : Nat} {s1 : Int32} {u : RSt}  : KU (B_areKinds_28 N s1 u) u := by
  unfold B_areKinds_28
  refine KU_pu ?_
  refine KU_if ?_ ?_
  · skip
    exact KU_some (fu_sI (by decide) ju_rf)
  · skip
    exact KU_some (fu_sI (by decide) ju_rf)
theorem ku_B_areKinds_27 {N : Nat} {u : RSt}  : KU (B_areKinds_27 N u) u := by
  unfold B_areKinds_27
  exact ku_B_areKinds_28.tr ju_rf
theorem ku_B_areKinds_0 {N : Nat} {l1 : Int32} {l2 : Int32} {l3 : Int32} {u : RSt}  : KU (B_areKinds_0 N l1 l2 l3 u) u := by
  unfold B_areKinds_0
  refine KU_if ?_ ?_
  · skip
    exact ku_B_areKinds_27.tr ju_rf
  · skip
    refine KU_if ?_ ?_
    · skip
      exact ku_B_areKinds_27.tr ju_rf
    · skip
      refine KU_if ?_ ?_
      · skip
        exact ku_B_areKinds_27.tr ju_rf
      · skip
        exact ku_B_areKinds_28.tr ju_rf
theorem ku_F_areKinds {N : Nat} {l1 : Int32} {l2 : Int32} {l3 : Int32} {u : RSt}  : KU (F_areKinds N l1 l2 l3 u) u := by
  unfold F_areKinds
  exact ku_B_areKinds_0.tr ju_rf
theorem ku_B_cut_0 {N : Nat} {l1 : Int32} {l2 : Int64} {u : RSt}  : KU (B_cut_0 N l1 l2 u) u := by
  unfold B_cut_0
  refine KU_bn (ku_F_areKinds.tr ju_rf) (fun _ _ => ?_)
  refine KU_if ?_ ?_
  · skip
    exact KU_some ju_rf
  · skip
    exact KU_some ju_rf
theorem ku_F_cut {N : Nat} {l1 : Int32} {l2 : Int64} {u : RSt}  : KU (F_cut N l1 l2 u) u := by
  unfold F_cut
  exact ku_B_cut_0.tr ju_rf
theorem ku_B_work_195 {N : Nat} {l2 : Int32} {l8 : Int32} {l9 : Int64} {l11 : Int64} {s0 : Int32} {u : RSt}  : KU (B_work_195 N l2 l8 l9 l11 s0 u) u := by
  unfold B_work_195
  refine KU_if ?_ ?_
  · skip
    refine KU_ok ?_
    exact KU_some ju_rf
  · skip
    exact KU_some ju_rf
theorem ku_B_work_190 {N : Nat} {l2 : Int32} {l8 : Int32} {l9 : Int64} {l11 : Int64} {u : RSt}  : KU (B_work_190 N l2 l8 l9 l11 u) u := by
  unfold B_work_190
  exact ku_B_work_195.tr ju_rf
theorem ku_B_work_194 {N : Nat} {l2 : Int32} {l8 : Int32} {l9 : Int64} {l11 : Int64} {u : RSt}  : KU (B_work_194 N l2 l8 l9 l11 u) u := by
  unfold B_work_194
  exact ku_B_work_195.tr ju_rf
theorem ku_B_work_174 {N : Nat} {l1 : Int32} {l2 : Int32} {l3 : Int32} {l8 : Int32} {l9 : Int64} {l11 : Int64} {u : RSt}  : KU (B_work_174 N l1 l2 l3 l8 l9 l11 u) u := by
  unfold B_work_174
  refine KU_if ?_ ?_
  · skip
    exact ku_B_work_190.tr ju_rf
  · skip
    refine KU_if ?_ ?_
    · skip
      exact ku_B_work_194.tr ju_rf
    · skip
      refine KU_if ?_ ?_
      · skip
        exact ku_B_work_190.tr ju_rf
      · skip
        exact ku_B_work_194.tr ju_rf
theorem ku_B_work_162 {N : Nat} {l1 : Int32} {l2 : Int32} {l3 : Int32} {l8 : Int32} {l9 : Int64} {l11 : Int64} {u : RSt}  : KU (B_work_162 N l1 l2 l3 l8 l9 l11 u) u := by
  unfold B_work_162
  refine KU_if ?_ ?_
  · skip
    refine KU_pu ?_
    exact ku_B_work_174.tr (fu_sI (by decide) ju_rf)
  · skip
    exact ku_B_work_174.tr ju_rf
theorem ku_B_work_134 {N : Nat} {l1 : Int32} {l2 : Int32} {l3 : Int32} {l4 : Int64} {l6 : Int64} {s0 : Int32} {u : RSt}  : KU (B_work_134 N l1 l2 l3 l4 l6 s0 u) u := by
  unfold B_work_134
  refine KU_if ?_ ?_
  · skip
    exact ku_B_work_162.tr ju_rf
  · skip
    refine KU_if ?_ ?_
    · skip
      exact ku_B_work_162.tr ju_rf
    · skip
      exact ku_B_work_174.tr ju_rf
theorem ku_B_work_0 {N : Nat} {l1 : Int32} {l2 : Int32} {l3 : Int32} {l4 : Int64} {l6 : Int64} {u : RSt}  : KU (B_work_0 N l1 l2 l3 l4 l6 u) u := by
  unfold B_work_0
  refine KU_bn (ku_F_areKinds.tr ju_rf) (fun _ _ => ?_)
  refine KU_if ?_ ?_
  · skip
    exact KU_some ju_rf
  · skip
    refine KU_if ?_ ?_
    · skip
      exact ku_B_work_134.tr ju_rf
    · skip
      refine KU_if ?_ ?_
      · skip
        exact ku_B_work_134.tr ju_rf
      · skip
        refine KU_if ?_ ?_
        · skip
          exact ku_B_work_134.tr ju_rf
        · skip
          refine KU_if ?_ ?_
          · skip
            exact ku_B_work_134.tr ju_rf
          · skip
            refine KU_if ?_ ?_
            · skip
              exact ku_B_work_134.tr ju_rf
            · skip
              refine KU_if ?_ ?_
              · skip
                exact ku_B_work_134.tr ju_rf
              · skip
                refine KU_if ?_ ?_
                · skip
                  exact ku_B_work_134.tr ju_rf
                · skip
                  refine KU_if ?_ ?_
                  · skip
                    exact ku_B_work_134.tr ju_rf
                  · skip
                    refine KU_if ?_ ?_
                    · skip
                      exact ku_B_work_134.tr ju_rf
                    · skip
                      refine KU_if ?_ ?_
                      · skip
                        exact ku_B_work_134.tr ju_rf
                      · skip
                        exact ku_B_work_134.tr ju_rf
theorem ku_F_work {N : Nat} {l1 : Int32} {l2 : Int32} {l3 : Int32} {l4 : Int64} {l6 : Int64} {u : RSt}  : KU (F_work N l1 l2 l3 l4 l6 u) u := by
  unfold F_work
  exact ku_B_work_0.tr ju_rf
theorem ku_B_tell_109 {N : Nat} {l8 : Int64} {l10 : Int64} {s0 : Int32} {u : RSt}  : KU (B_tell_109 N l8 l10 s0 u) u := by
  unfold B_tell_109
  refine KU_ok ?_
  exact KU_some ju_rf
theorem ku_B_tell_44 {N : Nat} {l1 : Int32} {l8 : Int64} {l10 : Int64} {s0 : Int32} {u : RSt}  : KU (B_tell_44 N l1 l8 l10 s0 u) u := by
  unfold B_tell_44
  refine KU_if ?_ ?_
  · skip
    refine KU_if ?_ ?_
    · skip
      refine KU_if ?_ ?_
      · skip
        refine KU_if ?_ ?_
        · skip
          exact KU_some ju_rf
        · skip
          refine KU_if ?_ ?_
          · skip
            refine KU_if ?_ ?_
            · skip
              exact KU_some ju_rf
            · skip
              refine KU_if ?_ ?_
              · skip
                exact KU_some ju_rf
              · skip
                refine KU_if ?_ ?_
                · skip
                  exact KU_some ju_rf
                · skip
                  exact KU_some ju_rf
          · skip
            exact KU_some ju_rf
      · skip
        exact KU_some ju_rf
    · skip
      exact KU_some ju_rf
  · skip
    refine KU_if ?_ ?_
    · skip
      exact ku_B_tell_109.tr ju_rf
    · skip
      refine KU_if ?_ ?_
      · skip
        exact ku_B_tell_109.tr ju_rf
      · skip
        refine KU_if ?_ ?_
        · skip
          exact ku_B_tell_109.tr ju_rf
        · skip
          refine KU_if ?_ ?_
          · skip
            exact ku_B_tell_109.tr ju_rf
          · skip
            refine KU_if ?_ ?_
            · skip
              exact ku_B_tell_109.tr ju_rf
            · skip
              exact ku_B_tell_109.tr ju_rf
theorem ku_B_tell_0 {N : Nat} {l1 : Int32} {l2 : Int32} {l3 : Int32} {l4 : Int64} {l6 : Int64} {u : RSt}  : KU (B_tell_0 N l1 l2 l3 l4 l6 u) u := by
  unfold B_tell_0
  refine KU_bn (ku_F_areKinds.tr ju_rf) (fun _ _ => ?_)
  refine KU_if ?_ ?_
  · skip
    exact KU_some ju_rf
  · skip
    refine KU_if ?_ ?_
    · skip
      exact ku_B_tell_44.tr ju_rf
    · skip
      exact ku_B_tell_44.tr ju_rf
theorem ku_F_tell {N : Nat} {l1 : Int32} {l2 : Int32} {l3 : Int32} {l4 : Int64} {l6 : Int64} {u : RSt}  : KU (F_tell N l1 l2 l3 l4 l6 u) u := by
  unfold F_tell
  exact ku_B_tell_0.tr ju_rf
theorem ku_B_feed_77 {N : Nat} {R_23 : Int32 × Int32 × Int32 × Int32 × Int32 × Int32 × RSt → Option (Int32 × RSt)} {R_77 : Int32 × Int32 × Int32 × Int32 × Int32 × Int32 × Int32 × Int32 × RSt → Option (Int32 × RSt)} {l1 : Int32} {l2 : Int32} {l3 : Int32} {l4 : Int32} {l5 : Int32} {l6 : Int32} {l7 : Int32} {l8 : Int32} {u : RSt} (h_R_23 : ∀ a, KU (R_23 a) a.2.2.2.2.2.2) (h_R_77 : ∀ a, KU (R_77 a) a.2.2.2.2.2.2.2.2) : KU (B_feed_77 N R_23 R_77 l1 l2 l3 l4 l5 l6 l7 l8 u) u := by
  unfold B_feed_77
  refine KU_if ?_ ?_
  · skip
    exact (h_R_23 _).tr ju_rf
  · skip
    refine KU_pu ?_
    refine KU_wr ?_
    exact (h_R_77 _).tr (fu_sA (by decide) (fu_sI (by decide) ju_rf))
theorem ku_LP_feed_77 {N : Nat} {R_23 : Int32 × Int32 × Int32 × Int32 × Int32 × Int32 × RSt → Option (Int32 × RSt)} (h_R_23 : ∀ a, KU (R_23 a) a.2.2.2.2.2.2) (n : Nat) : ∀ a : Int32 × Int32 × Int32 × Int32 × Int32 × Int32 × Int32 × Int32 × RSt, KU (LP_feed_77 N R_23 n a) a.2.2.2.2.2.2.2.2 := by
  induction n with
  | zero => exact fun a r z e => by have e : (none : Option _) = some (r, z) := e; cases e
  | succ n ih =>
    intro a
    show KU (B_feed_77 N R_23 (LP_feed_77 N R_23 n) a.1 a.2.1 a.2.2.1 a.2.2.2.1 a.2.2.2.2.1 a.2.2.2.2.2.1 a.2.2.2.2.2.2.1 a.2.2.2.2.2.2.2.1 a.2.2.2.2.2.2.2.2) a.2.2.2.2.2.2.2.2
    exact ku_B_feed_77 h_R_23 ih
theorem ku_B_feed_71 {N : Nat} {R_23 : Int32 × Int32 × Int32 × Int32 × Int32 × Int32 × RSt → Option (Int32 × RSt)} {l1 : Int32} {l2 : Int32} {l3 : Int32} {l4 : Int32} {l5 : Int32} {l6 : Int32} {s0 : Int32} {u : RSt} (h_R_23 : ∀ a, KU (R_23 a) a.2.2.2.2.2.2) : KU (B_feed_71 N R_23 l1 l2 l3 l4 l5 l6 s0 u) u := by
  unfold B_feed_71
  exact (ku_LP_feed_77 h_R_23 _ _).tr ju_rf
theorem ku_B_feed_23 {N : Nat} {R_23 : Int32 × Int32 × Int32 × Int32 × Int32 × Int32 × RSt → Option (Int32 × RSt)} {l1 : Int32} {l2 : Int32} {l3 : Int32} {l4 : Int32} {l5 : Int32} {l6 : Int32} {u : RSt} (h_R_23 : ∀ a, KU (R_23 a) a.2.2.2.2.2.2) : KU (B_feed_23 N R_23 l1 l2 l3 l4 l5 l6 u) u := by
  unfold B_feed_23
  refine KU_if ?_ ?_
  · skip
    exact KU_some ju_rf
  · skip
    refine KU_if ?_ ?_
    · skip
      exact (ku_B_feed_71 h_R_23).tr ju_rf
    · skip
      refine KU_if ?_ ?_
      · skip
        exact (ku_B_feed_71 h_R_23).tr ju_rf
      · skip
        refine KU_if ?_ ?_
        · skip
          exact (ku_B_feed_71 h_R_23).tr ju_rf
        · skip
          refine KU_if ?_ ?_
          · skip
            exact (ku_B_feed_71 h_R_23).tr ju_rf
          · skip
            exact (ku_B_feed_71 h_R_23).tr ju_rf
theorem ku_LP_feed_23 {N : Nat}  (n : Nat) : ∀ a : Int32 × Int32 × Int32 × Int32 × Int32 × Int32 × RSt, KU (LP_feed_23 N n a) a.2.2.2.2.2.2 := by
  induction n with
  | zero => exact fun a r z e => by have e : (none : Option _) = some (r, z) := e; cases e
  | succ n ih =>
    intro a
    show KU (B_feed_23 N (LP_feed_23 N n) a.1 a.2.1 a.2.2.1 a.2.2.2.1 a.2.2.2.2.1 a.2.2.2.2.2.1 a.2.2.2.2.2.2) a.2.2.2.2.2.2
    exact ku_B_feed_23 ih
theorem ku_B_feed_0 {N : Nat} {l1 : Int32} {l2 : Int32} {l3 : Int32} {l4 : Int32} {l5 : Int32} {u : RSt}  : KU (B_feed_0 N l1 l2 l3 l4 l5 u) u := by
  unfold B_feed_0
  refine KU_pu ?_
  refine KU_if ?_ ?_
  · skip
    exact (ku_LP_feed_23  _ _).tr (fu_sI (by decide) ju_rf)
  · skip
    exact KU_some (fu_sI (by decide) ju_rf)
theorem ku_F_feed {N : Nat} {l1 : Int32} {l2 : Int32} {l3 : Int32} {l4 : Int32} {l5 : Int32} {u : RSt}  : KU (F_feed N l1 l2 l3 l4 l5 u) u := by
  unfold F_feed
  exact ku_B_feed_0.tr ju_rf
theorem ku_B_end_0 {N : Nat} {l1 : Int32} {u : RSt}  : KU (B_end_0 N l1 u) u := by
  unfold B_end_0
  refine KU_pu ?_
  refine KU_if ?_ ?_
  · skip
    exact KU_some (fu_sI (by decide) ju_rf)
  · skip
    refine KU_if ?_ ?_
    · skip
      refine KU_pu ?_
      exact KU_some (fu_sI (by decide) (fu_sI (by decide) ju_rf))
    · skip
      exact KU_some (fu_sI (by decide) ju_rf)
theorem ku_F_end {N : Nat} {l1 : Int32} {u : RSt}  : KU (F_end N l1 u) u := by
  unfold F_end
  exact ku_B_end_0.tr ju_rf
theorem ku_B_place_0 {N : Nat} {u : RSt}  : KU (B_place_0 N u) u := by
  unfold B_place_0
  refine KU_pu ?_
  exact KU_some (fu_sI (by decide) ju_rf)
theorem ku_F_place {N : Nat} {u : RSt}  : KU (F_place N u) u := by
  unfold F_place
  exact ku_B_place_0.tr ju_rf
theorem ku_B_packed_8 {N : Nat} {R_8 : Int32 × Int32 × Int32 × Int64 × Int32 × RSt → Option (Int64 × RSt)} {l1 : Int32} {l2 : Int32} {l3 : Int32} {l4 : Int64} {l6 : Int32} {u : RSt} (h_R_8 : ∀ a, KU (R_8 a) a.2.2.2.2.2) : KU (B_packed_8 N R_8 l1 l2 l3 l4 l6 u) u := by
  unfold B_packed_8
  refine KU_if ?_ ?_
  · skip
    exact KU_some ju_rf
  · skip
    refine KU_if ?_ ?_
    · skip
      exact KU_some ju_rf
    · skip
      refine KU_bn (ku_F_see.tr ju_rf) (fun _ _ => ?_)
      exact (h_R_8 _).tr ju_rf
theorem ku_LP_packed_8 {N : Nat}  (n : Nat) : ∀ a : Int32 × Int32 × Int32 × Int64 × Int32 × RSt, KU (LP_packed_8 N n a) a.2.2.2.2.2 := by
  induction n with
  | zero => exact fun a r z e => by have e : (none : Option _) = some (r, z) := e; cases e
  | succ n ih =>
    intro a
    show KU (B_packed_8 N (LP_packed_8 N n) a.1 a.2.1 a.2.2.1 a.2.2.2.1 a.2.2.2.2.1 a.2.2.2.2.2) a.2.2.2.2.2
    exact ku_B_packed_8 ih
theorem ku_B_packed_0 {N : Nat} {l1 : Int32} {l2 : Int32} {l3 : Int32} {u : RSt}  : KU (B_packed_0 N l1 l2 l3 u) u := by
  unfold B_packed_0
  exact (ku_LP_packed_8  _ _).tr ju_rf
theorem ku_F_packed {N : Nat} {l1 : Int32} {l2 : Int32} {l3 : Int32} {u : RSt}  : KU (F_packed N l1 l2 l3 u) u := by
  unfold F_packed
  exact ku_B_packed_0.tr ju_rf
theorem ku_B_find_75 {N : Nat} {R_49 : Int32 × Int32 × Int32 × RSt → Option (Int32 × RSt)} {l1 : Int32} {l3 : Int32} {s0 : Int32} {u : RSt} (h_R_49 : ∀ a, KU (R_49 a) a.2.2.2) : KU (B_find_75 N R_49 l1 l3 s0 u) u := by
  unfold B_find_75
  exact (h_R_49 _).tr ju_rf
theorem ku_B_find_453 {N : Nat} {R_204 : Int32 × Int64 × Int64 × Int32 × Int32 × RSt → Option (Int32 × RSt)} {l1 : Int32} {l3 : Int64} {l5 : Int64} {l7 : Int32} {l8 : Int32} {u : RSt} (h_R_204 : ∀ a, KU (R_204 a) a.2.2.2.2.2) : KU (B_find_453 N R_204 l1 l3 l5 l7 l8 u) u := by
  unfold B_find_453
  exact (h_R_204 _).tr ju_rf
theorem ku_B_find_433 {N : Nat} {R_204 : Int32 × Int64 × Int64 × Int32 × Int32 × RSt → Option (Int32 × RSt)} {l1 : Int32} {l3 : Int64} {l5 : Int64} {l7 : Int32} {l8 : Int32} {l9 : Int64} {s0 : Int64} {u : RSt} (h_R_204 : ∀ a, KU (R_204 a) a.2.2.2.2.2) : KU (B_find_433 N R_204 l1 l3 l5 l7 l8 l9 s0 u) u := by
  unfold B_find_433
  refine KU_if ?_ ?_
  · skip
    refine KU_if ?_ ?_
    · skip
      exact KU_some ju_rf
    · skip
      exact (ku_B_find_453 h_R_204).tr ju_rf
  · skip
    exact (ku_B_find_453 h_R_204).tr ju_rf
theorem ku_B_find_321 {N : Nat} {R_204 : Int32 × Int64 × Int64 × Int32 × Int32 × RSt → Option (Int32 × RSt)} {l1 : Int32} {l3 : Int64} {l5 : Int64} {l7 : Int32} {l8 : Int32} {s0 : Int64} {u : RSt} (h_R_204 : ∀ a, KU (R_204 a) a.2.2.2.2.2) : KU (B_find_321 N R_204 l1 l3 l5 l7 l8 s0 u) u := by
  unfold B_find_321
  refine KU_if ?_ ?_
  · skip
    refine KU_rd (fun _ => ?_)
    exact (ku_B_find_433 h_R_204).tr ju_rf
  · skip
    refine KU_if ?_ ?_
    · skip
      refine KU_rd (fun _ => ?_)
      exact (ku_B_find_433 h_R_204).tr ju_rf
    · skip
      refine KU_if ?_ ?_
      · skip
        refine KU_rd (fun _ => ?_)
        exact (ku_B_find_433 h_R_204).tr ju_rf
      · skip
        refine KU_if ?_ ?_
        · skip
          refine KU_rd (fun _ => ?_)
          exact (ku_B_find_433 h_R_204).tr ju_rf
        · skip
          refine KU_rd (fun _ => ?_)
          exact (ku_B_find_433 h_R_204).tr ju_rf
theorem ku_B_find_204 {N : Nat} {R_204 : Int32 × Int64 × Int64 × Int32 × Int32 × RSt → Option (Int32 × RSt)} {l1 : Int32} {l3 : Int64} {l5 : Int64} {l7 : Int32} {l8 : Int32} {u : RSt} (h_R_204 : ∀ a, KU (R_204 a) a.2.2.2.2.2) : KU (B_find_204 N R_204 l1 l3 l5 l7 l8 u) u := by
  unfold B_find_204
  refine KU_if ?_ ?_
  · skip
    exact KU_some ju_rf
  · skip
    refine KU_if ?_ ?_
    · skip
      refine KU_rd (fun _ => ?_)
      exact (ku_B_find_321 h_R_204).tr ju_rf
    · skip
      refine KU_if ?_ ?_
      · skip
        refine KU_rd (fun _ => ?_)
        exact (ku_B_find_321 h_R_204).tr ju_rf
      · skip
        refine KU_if ?_ ?_
        · skip
          refine KU_rd (fun _ => ?_)
          exact (ku_B_find_321 h_R_204).tr ju_rf
        · skip
          refine KU_if ?_ ?_
          · skip
            refine KU_rd (fun _ => ?_)
            exact (ku_B_find_321 h_R_204).tr ju_rf
          · skip
            refine KU_rd (fun _ => ?_)
            exact (ku_B_find_321 h_R_204).tr ju_rf
theorem ku_LP_find_204 {N : Nat}  (n : Nat) : ∀ a : Int32 × Int64 × Int64 × Int32 × Int32 × RSt, KU (LP_find_204 N n a) a.2.2.2.2.2 := by
  induction n with
  | zero => exact fun a r z e => by have e : (none : Option _) = some (r, z) := e; cases e
  | succ n ih =>
    intro a
    show KU (B_find_204 N (LP_find_204 N n) a.1 a.2.1 a.2.2.1 a.2.2.2.1 a.2.2.2.2.1 a.2.2.2.2.2) a.2.2.2.2.2
    exact ku_B_find_204 ih
theorem ku_B_find_199 {N : Nat} {l1 : Int32} {l3 : Int64} {l5 : Int64} {s0 : Int32} {u : RSt}  : KU (B_find_199 N l1 l3 l5 s0 u) u := by
  unfold B_find_199
  exact (ku_LP_find_204  _ _).tr ju_rf
theorem ku_B_find_82 {N : Nat} {l1 : Int32} {l2 : Int32} {u : RSt}  : KU (B_find_82 N l1 l2 u) u := by
  unfold B_find_82
  refine KU_if ?_ ?_
  · skip
    refine KU_if ?_ ?_
    · skip
      exact KU_some ju_rf
    · skip
      exact KU_some ju_rf
  · skip
    refine KU_bn (ku_F_packed.tr ju_rf) (fun _ _ => ?_)
    refine KU_bn (ku_F_packed.tr ju_rf) (fun _ _ => ?_)
    refine KU_if ?_ ?_
    · skip
      refine KU_rd (fun _ => ?_)
      exact ku_B_find_199.tr ju_rf
    · skip
      refine KU_if ?_ ?_
      · skip
        refine KU_rd (fun _ => ?_)
        exact ku_B_find_199.tr ju_rf
      · skip
        refine KU_if ?_ ?_
        · skip
          refine KU_rd (fun _ => ?_)
          exact ku_B_find_199.tr ju_rf
        · skip
          refine KU_if ?_ ?_
          · skip
            refine KU_rd (fun _ => ?_)
            exact ku_B_find_199.tr ju_rf
          · skip
            refine KU_rd (fun _ => ?_)
            exact ku_B_find_199.tr ju_rf
theorem ku_B_find_49 {N : Nat} {R_49 : Int32 × Int32 × Int32 × RSt → Option (Int32 × RSt)} {l1 : Int32} {l2 : Int32} {l3 : Int32} {u : RSt} (h_R_49 : ∀ a, KU (R_49 a) a.2.2.2) : KU (B_find_49 N R_49 l1 l2 l3 u) u := by
  unfold B_find_49
  refine KU_if ?_ ?_
  · skip
    exact ku_B_find_82.tr ju_rf
  · skip
    refine KU_if ?_ ?_
    · skip
      exact ku_B_find_82.tr ju_rf
    · skip
      refine KU_rd (fun _ => ?_)
      refine KU_if ?_ ?_
      · skip
        exact (ku_B_find_75 h_R_49).tr ju_rf
      · skip
        exact (ku_B_find_75 h_R_49).tr ju_rf
theorem ku_LP_find_49 {N : Nat}  (n : Nat) : ∀ a : Int32 × Int32 × Int32 × RSt, KU (LP_find_49 N n a) a.2.2.2 := by
  induction n with
  | zero => exact fun a r z e => by have e : (none : Option _) = some (r, z) := e; cases e
  | succ n ih =>
    intro a
    show KU (B_find_49 N (LP_find_49 N n) a.1 a.2.1 a.2.2.1 a.2.2.2) a.2.2.2
    exact ku_B_find_49 ih
theorem ku_B_find_46 {N : Nat} {l1 : Int32} {s0 : Int32} {u : RSt}  : KU (B_find_46 N l1 s0 u) u := by
  unfold B_find_46
  exact (ku_LP_find_49  _ _).tr ju_rf
theorem ku_B_find_45 {N : Nat} {l1 : Int32} {u : RSt}  : KU (B_find_45 N l1 u) u := by
  unfold B_find_45
  exact ku_B_find_46.tr ju_rf
theorem ku_B_find_15 {N : Nat} {l1 : Int32} {s1 : Int32} {u : RSt}  : KU (B_find_15 N l1 s1 u) u := by
  unfold B_find_15
  refine KU_pu ?_
  refine KU_if ?_ ?_
  · skip
    exact ku_B_find_45.tr (fu_sI (by decide) ju_rf)
  · skip
    refine KU_if ?_ ?_
    · skip
      exact ku_B_find_45.tr (fu_sI (by decide) ju_rf)
    · skip
      refine KU_if ?_ ?_
      · skip
        exact ku_B_find_46.tr (fu_sI (by decide) ju_rf)
      · skip
        exact ku_B_find_45.tr (fu_sI (by decide) ju_rf)
theorem ku_B_find_0 {N : Nat} {l1 : Int32} {u : RSt}  : KU (B_find_0 N l1 u) u := by
  unfold B_find_0
  refine KU_if ?_ ?_
  · skip
    exact ku_B_find_15.tr ju_rf
  · skip
    exact ku_B_find_15.tr ju_rf
theorem ku_F_find {N : Nat} {l1 : Int32} {u : RSt}  : KU (F_find N l1 u) u := by
  unfold F_find
  exact ku_B_find_0.tr ju_rf
