/-! What the class's calls (but feed, end, load) leave as it is: the bytes fed, the place, the words, the names. -/
def jc (u w : CSt) : Prop := w.1 0 = u.1 0 ∧ w.1 7 = u.1 7 ∧ cA w 201 = cA u 201 ∧ cB w 207 = cB u 207 ∧ mI w = mI u ∧ mL w = mL u
def KJ {β : Type} (x : Option (β × CSt)) (u : CSt) : Prop := ∀ r w, x = some (r, w) → jc u w
section KJs
variable {α β γ : Type} {u v w : CSt}
theorem jc_rf : jc u u := ⟨rfl, rfl, rfl, rfl, rfl, rfl⟩
theorem jc_tr (h : jc u v) (h2 : jc v w) : jc u w := ⟨h2.1.trans h.1, h2.2.1.trans h.2.1, h2.2.2.1.trans h.2.2.1, h2.2.2.2.1.trans h.2.2.2.1, h2.2.2.2.2.1.trans h.2.2.2.2.1, h2.2.2.2.2.2.trans h.2.2.2.2.2⟩
theorem KJ.tr {x : Option (β × CSt)} (hx : KJ x w) (h : jc u w) : KJ x u := fun r z e => jc_tr h (hx r z e)
theorem fj_xI {k : Nat} {a : Int32} (hk : k ≠ 0 ∧ k ≠ 7) (h : jc u w) : jc u (xI w k a) := by
  refine jc_tr h ⟨?_, ?_, rfl, rfl, rfl, rfl⟩
  · show (if 0 = k then a else w.1 0) = w.1 0
    rw [if_neg (fun q => hk.1 q.symm)]
  · show (if 7 = k then a else w.1 7) = w.1 7
    rw [if_neg (fun q => hk.2 q.symm)]
theorem fj_xL {k : Nat} {a : Int64} (h : jc u w) : jc u (xL w k a) := jc_tr h ⟨rfl, rfl, rfl, rfl, rfl, rfl⟩
theorem fj_xA {k i : Nat} {a : Int32} (hk : k ≠ 201) (h : jc u w) : jc u (xA w k i a) := by
  refine jc_tr h ⟨rfl, rfl, ?_, rfl, rfl, rfl⟩
  show (if 201 = k then upd (cA w k) i a else cA w 201) = cA w 201
  rw [if_neg (fun q => hk q.symm)]
theorem fj_xF {k : Nat} {g : Nat → Int32} (hk : k ≠ 201) (h : jc u w) : jc u (xF w k g) := by
  refine jc_tr h ⟨rfl, rfl, ?_, rfl, rfl, rfl⟩
  show (if 201 = k then g else cA w 201) = cA w 201
  rw [if_neg (fun q => hk q.symm)]
theorem fj_xB {k i : Nat} {a : Int64} (hk : k ≠ 207) (h : jc u w) : jc u (xB w k i a) := by
  refine jc_tr h ⟨rfl, rfl, rfl, ?_, rfl, rfl⟩
  show (if 207 = k then vp_updL (cB w k) i a else cB w 207) = cB w 207
  rw [if_neg (fun q => hk q.symm)]
theorem fj_xG {k : Nat} {g : Nat → Int64} (hk : k ≠ 207) (h : jc u w) : jc u (xG w k g) := by
  refine jc_tr h ⟨rfl, rfl, rfl, ?_, rfl, rfl⟩
  show (if 207 = k then g else cB w 207) = cB w 207
  rw [if_neg (fun q => hk q.symm)]
theorem fj_xpI {q k : Nat} {a : Int32} (h : jc u w) : jc u (xpI w q k a) := jc_tr h ⟨rfl, rfl, rfl, rfl, rfl, rfl⟩
theorem fj_xpA {q k i : Nat} {a : Int32} (h : jc u w) : jc u (xpA w q k i a) := jc_tr h ⟨rfl, rfl, rfl, rfl, rfl, rfl⟩
theorem fj_xpF {q k : Nat} {g : Nat → Int32} (h : jc u w) : jc u (xpF w q k g) := jc_tr h ⟨rfl, rfl, rfl, rfl, rfl, rfl⟩
theorem fj_xpB {q k i : Nat} {a : Int64} (h : jc u w) : jc u (xpB w q k i a) := jc_tr h ⟨rfl, rfl, rfl, rfl, rfl, rfl⟩
theorem fj_xtI {q k : Nat} {a : Int32} (h : jc u w) : jc u (xtI w q k a) := jc_tr h ⟨rfl, rfl, rfl, rfl, rfl, rfl⟩
theorem fj_xR {k a : Nat} (h : jc u w) : jc u (xR w k a) := jc_tr h ⟨rfl, rfl, rfl, rfl, rfl, rfl⟩
theorem KJ_some {r : β} (h : jc u w) : KJ (some (r, w)) u := fun _ _ e => by cases e; exact h
theorem KJ_none : KJ (none : Option (β × CSt)) u := fun _ _ e => nomatch e
theorem KJ_rd {f : Nat → α} {n : Nat} {i : Int32} {k : α → Option (β × CSt)} (h : ∀ a, KJ (k a) u) : KJ (rd f n i k) u := by
  intro r z e
  have q : wq (rd f n i k) (fun r' z' => r' = r ∧ z' = z) := ⟨r, z, e, rfl, rfl⟩
  obtain ⟨r1, z1, e1, rfl, rfl⟩ := (wq_rd.mp q).2
  exact h _ _ _ e1
theorem KJ_if {c : Prop} {d : Decidable c} {a b : Option (β × CSt)} (ha : KJ a u) (hb : KJ b u) : KJ (if c then a else b) u := by
  by_cases q : c
  · rw [if_pos q]; exact ha
  · rw [if_neg q]; exact hb
theorem KJ_zr {v : Int32} {x : Option (β × CSt)} (h : KJ x u) : KJ (zr v x) u := fun r z e => h r z (zr_of e).2
theorem KJ_nz {v : Int32} {x : Option (β × CSt)} (h : KJ x u) : KJ (nz v x) u := fun r z e => h r z (nz_of e).2
theorem KJ_ok {P : Prop} {d : Decidable P} {x : Option (β × CSt)} (h : KJ x u) : KJ (ok P d x) u := fun r z e => h r z (ok_of e).2
theorem KJ_pc {x : CSt} {k : CSt → Option (β × CSt)} (h : KJ (k x) u) : KJ (pc x k) u := h
theorem KJ_wc {n : Nat} {i : Int32} {x : CSt} {k : CSt → Option (β × CSt)} (h : KJ (k x) u) : KJ (wc n i x k) u := by
  intro r z e
  have q : wq (wc n i x k) (fun r' z' => r' = r ∧ z' = z) := ⟨r, z, e, rfl, rfl⟩
  obtain ⟨r1, z1, e1, rfl, rfl⟩ := (wq_wc.mp q).2
  exact h _ _ e1
theorem KJ_bc {x : Option (α × CSt)} {k : α → CSt → Option (β × CSt)} (hx : KJ x u) (h : ∀ r w, KJ (k r w) w) : KJ (bc x k) u := by
  intro r z e
  have q : wq (bc x k) (fun r' z' => r' = r ∧ z' = z) := ⟨r, z, e, rfl, rfl⟩
  obtain ⟨r1, z1, e1, r2, z2, e2, rfl, rfl⟩ := wq_bc.mp q
  exact jc_tr (hx _ _ e1) (h _ _ _ _ e2)
theorem KJ_pb {x : Option α} {k : α → Option (β × CSt)} (h : ∀ a, KJ (k a) u) : KJ (pb x k) u := by
  intro r z e
  have q : wq (pb x k) (fun r' z' => r' = r ∧ z' = z) := ⟨r, z, e, rfl, rfl⟩
  obtain ⟨a, -, r1, z1, e1, rfl, rfl⟩ := wq_pb.mp q
  exact h _ _ _ e1
theorem KJ_bt {x : Option (Sum Nat α × CSt)} {k : α → CSt → Option (Sum Nat γ × CSt)} (hx : KJ x u) (h : ∀ r w, KJ (k r w) w) : KJ (bt x k) u := by
  intro r z e
  unfold bt at e
  cases hq : x with
  | none => rw [hq] at e; cases e
  | some a =>
    obtain ⟨y, v⟩ := a
    rw [hq] at e
    cases y with
    | inl n => cases e; exact hx _ _ hq
    | inr b => exact jc_tr (hx _ _ hq) (h _ _ _ _ e)
theorem KJ_ix {n : Nat} {i : Int32} {x : Option (β × CSt)} (h : KJ x u) : KJ (ix n i x) u := by
  intro r z e
  have q : wq (ix n i x) (fun r' z' => r' = r ∧ z' = z) := ⟨r, z, e, rfl, rfl⟩
  obtain ⟨r1, z1, e1, rfl, rfl⟩ := (wq_ix.mp q).2
  exact h _ _ e1
theorem KJ_bh {x : Option (Sum Nat α × CSt)} {kc : CSt → Option (β × CSt)} {k : α → CSt → Option (β × CSt)} (hx : KJ x u) (h0 : ∀ w, KJ (kc w) w) (h : ∀ r w, KJ (k r w) w) : KJ (bh x kc k) u := by
  intro r z e
  obtain ⟨y1, w1, e1, ⟨-, e2⟩ | ⟨q, -, e2⟩⟩ := bh_of e
  · exact jc_tr (hx _ _ e1) (h0 _ _ _ e2)
  · exact jc_tr (hx _ _ e1) (h _ _ _ _ e2)
end KJs

theorem kj_B_X4_isPlaced_23 {N : Nat} {u : CSt}  : KJ (B_X4_isPlaced_23 N u) u := by
  unfold B_X4_isPlaced_23
  exact KJ_some jc_rf
theorem kj_B_X4_isPlaced_0 {N : Nat} {l0 : Nat} {u : CSt}  : KJ (B_X4_isPlaced_0 N l0 u) u := by
  unfold B_X4_isPlaced_0
  refine KJ_if ?_ ?_
  · skip
    refine KJ_if ?_ ?_
    · skip
      exact kj_B_X4_isPlaced_23.tr jc_rf
    · skip
      refine KJ_if ?_ ?_
      · skip
        exact kj_B_X4_isPlaced_23.tr jc_rf
      · skip
        exact KJ_some jc_rf
  · skip
    exact KJ_some jc_rf
theorem kj_F_X4_isPlaced {N : Nat} {l0 : Nat} {u : CSt}  : KJ (F_X4_isPlaced N l0 u) u := by
  unfold F_X4_isPlaced
  exact kj_B_X4_isPlaced_0.tr jc_rf
theorem kj_B_X4_isInput_0 {N : Nat} {l0 : Nat} {u : CSt}  : KJ (B_X4_isInput_0 N l0 u) u := by
  unfold B_X4_isInput_0
  refine KJ_if ?_ ?_
  · skip
    refine KJ_if ?_ ?_
    · skip
      exact KJ_some jc_rf
    · skip
      exact KJ_some jc_rf
  · skip
    exact KJ_some jc_rf
theorem kj_F_X4_isInput {N : Nat} {l0 : Nat} {u : CSt}  : KJ (F_X4_isInput N l0 u) u := by
  unfold F_X4_isInput
  exact kj_B_X4_isInput_0.tr jc_rf
theorem kj_B_X10_forget_0 {N : Nat} {u : CSt}  : KJ (B_X10_forget_0 N u) u := by
  unfold B_X10_forget_0
  refine KJ_pc ?_
  refine KJ_pc ?_
  refine KJ_pc ?_
  exact KJ_some (fj_xI (by first | decide | omega) (fj_xI (by first | decide | omega) (fj_xI (by first | decide | omega) jc_rf)))
theorem kj_F_X10_forget {N : Nat} {u : CSt}  : KJ (F_X10_forget N u) u := by
  unfold F_X10_forget
  exact kj_B_X10_forget_0.tr jc_rf
theorem kj_B_X10_indexOf_32 {N : Nat} {R_2 : Int32 × Int32 × Int32 × CSt → Option (Int32 × CSt)} {l1 : Int32} {l2 : Int32} {l3 : Int32} {u : CSt} (h_R_2 : ∀ a, KJ (R_2 a) a.2.2.2) : KJ (B_X10_indexOf_32 N R_2 l1 l2 l3 u) u := by
  unfold B_X10_indexOf_32
  exact (h_R_2 _).tr jc_rf
theorem kj_B_X10_indexOf_2 {N : Nat} {R_2 : Int32 × Int32 × Int32 × CSt → Option (Int32 × CSt)} {l1 : Int32} {l2 : Int32} {l3 : Int32} {u : CSt} (h_R_2 : ∀ a, KJ (R_2 a) a.2.2.2) : KJ (B_X10_indexOf_2 N R_2 l1 l2 l3 u) u := by
  unfold B_X10_indexOf_2
  refine KJ_if ?_ ?_
  · skip
    exact KJ_some jc_rf
  · skip
    refine KJ_rd (fun _ => ?_)
    refine KJ_if ?_ ?_
    · skip
      refine KJ_rd (fun _ => ?_)
      refine KJ_if ?_ ?_
      · skip
        exact KJ_some jc_rf
      · skip
        exact (kj_B_X10_indexOf_32 h_R_2).tr jc_rf
    · skip
      exact (kj_B_X10_indexOf_32 h_R_2).tr jc_rf
theorem kj_LP_X10_indexOf_2 {N : Nat}  (n : Nat) : ∀ a : Int32 × Int32 × Int32 × CSt, KJ (LP_X10_indexOf_2 N n a) a.2.2.2 := by
  induction n with
  | zero => exact fun a r z e => by have e : (none : Option _) = some (r, z) := e; cases e
  | succ n ih =>
    intro a
    show KJ (B_X10_indexOf_2 N (LP_X10_indexOf_2 N n) a.1 a.2.1 a.2.2.1 a.2.2.2) a.2.2.2
    exact kj_B_X10_indexOf_2 ih
theorem kj_B_X10_indexOf_0 {N : Nat} {l1 : Int32} {l2 : Int32} {u : CSt}  : KJ (B_X10_indexOf_0 N l1 l2 u) u := by
  unfold B_X10_indexOf_0
  exact (kj_LP_X10_indexOf_2  _ _).tr jc_rf
theorem kj_F_X10_indexOf {N : Nat} {l1 : Int32} {l2 : Int32} {u : CSt}  : KJ (F_X10_indexOf N l1 l2 u) u := by
  unfold F_X10_indexOf
  exact kj_B_X10_indexOf_0.tr jc_rf
theorem kj_B_X10_begin_0 {N : Nat} {l1 : Int32} {l2 : Int32} {l3 : Int64} {u : CSt}  : KJ (B_X10_begin_0 N l1 l2 l3 u) u := by
  unfold B_X10_begin_0
  refine KJ_if ?_ ?_
  · skip
    exact KJ_some jc_rf
  · skip
    refine KJ_wc ?_
    refine KJ_wc ?_
    refine KJ_wc ?_
    refine KJ_pc ?_
    exact KJ_some (fj_xI (by first | decide | omega) (fj_xB (by first | decide | omega) (fj_xA (by first | decide | omega) (fj_xA (by first | decide | omega) jc_rf))))
theorem kj_F_X10_begin {N : Nat} {l1 : Int32} {l2 : Int32} {l3 : Int64} {u : CSt}  : KJ (F_X10_begin N l1 l2 l3 u) u := by
  unfold F_X10_begin
  exact kj_B_X10_begin_0.tr jc_rf
theorem kj_B_X10_leave_64 {N : Nat} {u : CSt}  : KJ (B_X10_leave_64 N u) u := by
  unfold B_X10_leave_64
  refine KJ_pc ?_
  exact KJ_some (fj_xI (by first | decide | omega) jc_rf)
theorem kj_B_X10_leave_2 {N : Nat} {R_2 : Int32 × CSt → Option (Int32 × CSt)} {l2 : Int32} {u : CSt} (h_R_2 : ∀ a, KJ (R_2 a) a.2) : KJ (B_X10_leave_2 N R_2 l2 u) u := by
  unfold B_X10_leave_2
  refine KJ_if ?_ ?_
  · skip
    exact kj_B_X10_leave_64.tr jc_rf
  · skip
    refine KJ_if ?_ ?_
    · skip
      exact kj_B_X10_leave_64.tr jc_rf
    · skip
      refine KJ_rd (fun _ => ?_)
      refine KJ_wc ?_
      refine KJ_rd (fun _ => ?_)
      refine KJ_wc ?_
      refine KJ_rd (fun _ => ?_)
      refine KJ_wc ?_
      exact (h_R_2 _).tr (fj_xB (by first | decide | omega) (fj_xA (by first | decide | omega) (fj_xA (by first | decide | omega) jc_rf)))
theorem kj_LP_X10_leave_2 {N : Nat}  (n : Nat) : ∀ a : Int32 × CSt, KJ (LP_X10_leave_2 N n a) a.2 := by
  induction n with
  | zero => exact fun a r z e => by have e : (none : Option _) = some (r, z) := e; cases e
  | succ n ih =>
    intro a
    show KJ (B_X10_leave_2 N (LP_X10_leave_2 N n) a.1 a.2) a.2
    exact kj_B_X10_leave_2 ih
theorem kj_B_X10_leave_0 {N : Nat} {l1 : Int32} {u : CSt}  : KJ (B_X10_leave_0 N l1 u) u := by
  unfold B_X10_leave_0
  exact (kj_LP_X10_leave_2  _ _).tr jc_rf
theorem kj_F_X10_leave {N : Nat} {l1 : Int32} {u : CSt}  : KJ (F_X10_leave N l1 u) u := by
  unfold F_X10_leave
  exact kj_B_X10_leave_0.tr jc_rf
theorem kj_B_X10_see_0 {N : Nat} {l1 : Int32} {l2 : Int32} {l3 : Int64} {u : CSt}  : KJ (B_X10_see_0 N l1 l2 l3 u) u := by
  unfold B_X10_see_0
  refine KJ_rd (fun _ => ?_)
  refine KJ_if ?_ ?_
  · skip
    exact KJ_some jc_rf
  · skip
    refine KJ_wc ?_
    refine KJ_wc ?_
    refine KJ_rd (fun _ => ?_)
    refine KJ_wc ?_
    refine KJ_rd (fun _ => ?_)
    refine KJ_wc ?_
    refine KJ_wc ?_
    refine KJ_pc ?_
    refine KJ_if ?_ ?_
    · skip
      refine KJ_pc ?_
      exact KJ_some (fj_xI (by first | decide | omega) (fj_xI (by first | decide | omega) (fj_xB (by first | decide | omega) (fj_xA (by first | decide | omega) (fj_xA (by first | decide | omega) (fj_xA (by first | decide | omega) (fj_xB (by first | decide | omega) jc_rf)))))))
    · skip
      refine KJ_pc ?_
      exact KJ_some (fj_xI (by first | decide | omega) (fj_xI (by first | decide | omega) (fj_xB (by first | decide | omega) (fj_xA (by first | decide | omega) (fj_xA (by first | decide | omega) (fj_xA (by first | decide | omega) (fj_xB (by first | decide | omega) jc_rf)))))))
theorem kj_F_X10_see {N : Nat} {l1 : Int32} {l2 : Int32} {l3 : Int64} {u : CSt}  : KJ (F_X10_see N l1 l2 l3 u) u := by
  unfold F_X10_see
  exact kj_B_X10_see_0.tr jc_rf
theorem kj_B_X6_ofSort_0 {N : Nat} {l0 : Nat} {l1 : Int32} {u : CSt}  : KJ (B_X6_ofSort_0 N l0 l1 u) u := by
  unfold B_X6_ofSort_0
  refine KJ_rd (fun _ => ?_)
  exact KJ_some jc_rf
theorem kj_F_X6_ofSort {N : Nat} {l0 : Nat} {l1 : Int32} {u : CSt}  : KJ (F_X6_ofSort N l0 l1 u) u := by
  unfold F_X6_ofSort
  exact kj_B_X6_ofSort_0.tr jc_rf
theorem kj_B_X6_has_0 {N : Nat} {l0 : Nat} {l1 : Int32} {l2 : Int32} {u : CSt}  : KJ (B_X6_has_0 N l0 l1 l2 u) u := by
  unfold B_X6_has_0
  refine KJ_if ?_ ?_
  · skip
    exact KJ_some jc_rf
  · skip
    refine KJ_rd (fun _ => ?_)
    refine KJ_if ?_ ?_
    · skip
      exact KJ_some jc_rf
    · skip
      exact KJ_some jc_rf
theorem kj_F_X6_has {N : Nat} {l0 : Nat} {l1 : Int32} {l2 : Int32} {u : CSt}  : KJ (F_X6_has N l0 l1 l2 u) u := by
  unfold F_X6_has
  exact kj_B_X6_has_0.tr jc_rf
theorem kj_B_X6_name_0 {N : Nat} {l0 : Nat} {l1 : Int32} {u : CSt}  : KJ (B_X6_name_0 N l0 l1 u) u := by
  unfold B_X6_name_0
  refine KJ_if ?_ ?_
  · skip
    exact KJ_some jc_rf
  · skip
    refine KJ_if ?_ ?_
    · skip
      exact KJ_some jc_rf
    · skip
      refine KJ_ix ?_
      exact KJ_some jc_rf
theorem kj_F_X6_name {N : Nat} {l0 : Nat} {l1 : Int32} {u : CSt}  : KJ (F_X6_name N l0 l1 u) u := by
  unfold F_X6_name
  exact kj_B_X6_name_0.tr jc_rf
theorem kj_B_X6_nth_0 {N : Nat} {l0 : Nat} {l1 : Int32} {l2 : Int32} {u : CSt}  : KJ (B_X6_nth_0 N l0 l1 l2 u) u := by
  unfold B_X6_nth_0
  refine KJ_bc (kj_F_X6_has.tr jc_rf) (fun _ _ => ?_)
  refine KJ_if ?_ ?_
  · skip
    exact KJ_some jc_rf
  · skip
    refine KJ_ix ?_
    refine KJ_rd (fun _ => ?_)
    refine KJ_bc (kj_F_X6_name.tr jc_rf) (fun _ _ => ?_)
    refine KJ_ok ?_
    exact KJ_some jc_rf
theorem kj_F_X6_nth {N : Nat} {l0 : Nat} {l1 : Int32} {l2 : Int32} {u : CSt}  : KJ (F_X6_nth N l0 l1 l2 u) u := by
  unfold F_X6_nth
  exact kj_B_X6_nth_0.tr jc_rf
theorem kj_B_X6_local_0 {N : Nat} {l0 : Nat} {l1 : Nat} {l2 : Int32} {u : CSt}  : KJ (B_X6_local_0 N l0 l1 l2 u) u := by
  unfold B_X6_local_0
  refine KJ_if ?_ ?_
  · skip
    exact KJ_some jc_rf
  · skip
    refine KJ_if ?_ ?_
    · skip
      exact KJ_some jc_rf
    · skip
      refine KJ_bc (kj_F_X6_name.tr jc_rf) (fun _ _ => ?_)
      refine KJ_ok ?_
      exact KJ_some jc_rf
theorem kj_F_X6_local {N : Nat} {l0 : Nat} {l1 : Nat} {l2 : Int32} {u : CSt}  : KJ (F_X6_local N l0 l1 l2 u) u := by
  unfold F_X6_local
  exact kj_B_X6_local_0.tr jc_rf
theorem kj_B_X6_ofText_52 {N : Nat} {R_3 : Nat × Int64 × Int32 × Int32 × CSt → Option (Nat × CSt)} {l0 : Nat} {l1 : Int64} {l3 : Int32} {l4 : Int32} {u : CSt} (h_R_3 : ∀ a, KJ (R_3 a) a.2.2.2.2) : KJ (B_X6_ofText_52 N R_3 l0 l1 l3 l4 u) u := by
  unfold B_X6_ofText_52
  exact (h_R_3 _).tr jc_rf
theorem kj_B_X6_ofText_61 {N : Nat} {R_61 : Nat × Int64 × Int32 × Int32 × CSt → Option (Nat × CSt)} {l0 : Nat} {l1 : Int64} {l3 : Int32} {l4 : Int32} {u : CSt} (h_R_61 : ∀ a, KJ (R_61 a) a.2.2.2.2) : KJ (B_X6_ofText_61 N R_61 l0 l1 l3 l4 u) u := by
  unfold B_X6_ofText_61
  refine KJ_if ?_ ?_
  · skip
    exact KJ_some jc_rf
  · skip
    refine KJ_if ?_ ?_
    · skip
      refine KJ_ix ?_
      refine KJ_if ?_ ?_
      · skip
        refine KJ_ix ?_
        exact KJ_some jc_rf
      · skip
        exact (h_R_61 _).tr jc_rf
    · skip
      exact KJ_some jc_rf
theorem kj_LP_X6_ofText_61 {N : Nat}  (n : Nat) : ∀ a : Nat × Int64 × Int32 × Int32 × CSt, KJ (LP_X6_ofText_61 N n a) a.2.2.2.2 := by
  induction n with
  | zero => exact fun a r z e => by have e : (none : Option _) = some (r, z) := e; cases e
  | succ n ih =>
    intro a
    show KJ (B_X6_ofText_61 N (LP_X6_ofText_61 N n) a.1 a.2.1 a.2.2.1 a.2.2.2.1 a.2.2.2.2) a.2.2.2.2
    exact kj_B_X6_ofText_61 ih
theorem kj_B_X6_ofText_3 {N : Nat} {R_3 : Nat × Int64 × Int32 × Int32 × CSt → Option (Nat × CSt)} {l0 : Nat} {l1 : Int64} {l3 : Int32} {l4 : Int32} {u : CSt} (h_R_3 : ∀ a, KJ (R_3 a) a.2.2.2.2) : KJ (B_X6_ofText_3 N R_3 l0 l1 l3 l4 u) u := by
  unfold B_X6_ofText_3
  refine KJ_if ?_ ?_
  · skip
    exact (kj_LP_X6_ofText_61  _ _).tr jc_rf
  · skip
    refine KJ_ix ?_
    refine KJ_if ?_ ?_
    · skip
      refine KJ_if ?_ ?_
      · skip
        refine KJ_if ?_ ?_
        · skip
          exact (kj_B_X6_ofText_52 h_R_3).tr jc_rf
        · skip
          exact KJ_some jc_rf
      · skip
        exact (kj_B_X6_ofText_52 h_R_3).tr jc_rf
    · skip
      exact (kj_B_X6_ofText_52 h_R_3).tr jc_rf
theorem kj_LP_X6_ofText_3 {N : Nat}  (n : Nat) : ∀ a : Nat × Int64 × Int32 × Int32 × CSt, KJ (LP_X6_ofText_3 N n a) a.2.2.2.2 := by
  induction n with
  | zero => exact fun a r z e => by have e : (none : Option _) = some (r, z) := e; cases e
  | succ n ih =>
    intro a
    show KJ (B_X6_ofText_3 N (LP_X6_ofText_3 N n) a.1 a.2.1 a.2.2.1 a.2.2.2.1 a.2.2.2.2) a.2.2.2.2
    exact kj_B_X6_ofText_3 ih
theorem kj_B_X6_ofText_0 {N : Nat} {l0 : Nat} {l1 : Int64} {l3 : Int32} {u : CSt}  : KJ (B_X6_ofText_0 N l0 l1 l3 u) u := by
  unfold B_X6_ofText_0
  exact (kj_LP_X6_ofText_3  _ _).tr jc_rf
theorem kj_F_X6_ofText {N : Nat} {l0 : Nat} {l1 : Int64} {l3 : Int32} {u : CSt}  : KJ (F_X6_ofText N l0 l1 l3 u) u := by
  unfold F_X6_ofText
  exact kj_B_X6_ofText_0.tr jc_rf
theorem kj_B_X6_stoppedTasks_32 {N : Nat} {R_4 : Nat × Int32 × Int32 × CSt → Option (Int32 × CSt)} {l0 : Nat} {l2 : Int32} {s0 : Int32} {s1 : Int32} {u : CSt} (h_R_4 : ∀ a, KJ (R_4 a) a.2.2.2) : KJ (B_X6_stoppedTasks_32 N R_4 l0 l2 s0 s1 u) u := by
  unfold B_X6_stoppedTasks_32
  exact (h_R_4 _).tr jc_rf
theorem kj_B_X6_stoppedTasks_4 {N : Nat} {R_4 : Nat × Int32 × Int32 × CSt → Option (Int32 × CSt)} {l0 : Nat} {l1 : Int32} {l2 : Int32} {u : CSt} (h_R_4 : ∀ a, KJ (R_4 a) a.2.2.2) : KJ (B_X6_stoppedTasks_4 N R_4 l0 l1 l2 u) u := by
  unfold B_X6_stoppedTasks_4
  refine KJ_rd (fun _ => ?_)
  refine KJ_if ?_ ?_
  · skip
    exact KJ_some jc_rf
  · skip
    refine KJ_ix ?_
    refine KJ_if ?_ ?_
    · skip
      exact (kj_B_X6_stoppedTasks_32 h_R_4).tr jc_rf
    · skip
      exact (kj_B_X6_stoppedTasks_32 h_R_4).tr jc_rf
theorem kj_LP_X6_stoppedTasks_4 {N : Nat}  (n : Nat) : ∀ a : Nat × Int32 × Int32 × CSt, KJ (LP_X6_stoppedTasks_4 N n a) a.2.2.2 := by
  induction n with
  | zero => exact fun a r z e => by have e : (none : Option _) = some (r, z) := e; cases e
  | succ n ih =>
    intro a
    show KJ (B_X6_stoppedTasks_4 N (LP_X6_stoppedTasks_4 N n) a.1 a.2.1 a.2.2.1 a.2.2.2) a.2.2.2
    exact kj_B_X6_stoppedTasks_4 ih
theorem kj_B_X6_stoppedTasks_0 {N : Nat} {l0 : Nat} {u : CSt}  : KJ (B_X6_stoppedTasks_0 N l0 u) u := by
  unfold B_X6_stoppedTasks_0
  exact (kj_LP_X6_stoppedTasks_4  _ _).tr jc_rf
theorem kj_F_X6_stoppedTasks {N : Nat} {l0 : Nat} {u : CSt}  : KJ (F_X6_stoppedTasks N l0 u) u := by
  unfold F_X6_stoppedTasks
  exact kj_B_X6_stoppedTasks_0.tr jc_rf
theorem kj_B_X6_liesIn_52 {N : Nat} {R_3 : Nat × Int64 × Int32 × Int32 × Int32 × CSt → Option (Int32 × CSt)} {l0 : Nat} {l1 : Int64} {l3 : Int32} {l4 : Int32} {l5 : Int32} {u : CSt} (h_R_3 : ∀ a, KJ (R_3 a) a.2.2.2.2.2) : KJ (B_X6_liesIn_52 N R_3 l0 l1 l3 l4 l5 u) u := by
  unfold B_X6_liesIn_52
  exact (h_R_3 _).tr jc_rf
theorem kj_B_X6_liesIn_3 {N : Nat} {R_3 : Nat × Int64 × Int32 × Int32 × Int32 × CSt → Option (Int32 × CSt)} {l0 : Nat} {l1 : Int64} {l3 : Int32} {l4 : Int32} {l5 : Int32} {u : CSt} (h_R_3 : ∀ a, KJ (R_3 a) a.2.2.2.2.2) : KJ (B_X6_liesIn_3 N R_3 l0 l1 l3 l4 l5 u) u := by
  unfold B_X6_liesIn_3
  refine KJ_if ?_ ?_
  · skip
    exact KJ_some jc_rf
  · skip
    refine KJ_if ?_ ?_
    · skip
      exact KJ_some jc_rf
    · skip
      refine KJ_if ?_ ?_
      · skip
        exact KJ_some jc_rf
      · skip
        refine KJ_rd (fun _ => ?_)
        refine KJ_if ?_ ?_
        · skip
          exact (kj_B_X6_liesIn_52 h_R_3).tr jc_rf
        · skip
          refine KJ_rd (fun _ => ?_)
          refine KJ_if ?_ ?_
          · skip
            exact (kj_B_X6_liesIn_52 h_R_3).tr jc_rf
          · skip
            exact KJ_some jc_rf
theorem kj_LP_X6_liesIn_3 {N : Nat}  (n : Nat) : ∀ a : Nat × Int64 × Int32 × Int32 × Int32 × CSt, KJ (LP_X6_liesIn_3 N n a) a.2.2.2.2.2 := by
  induction n with
  | zero => exact fun a r z e => by have e : (none : Option _) = some (r, z) := e; cases e
  | succ n ih =>
    intro a
    show KJ (B_X6_liesIn_3 N (LP_X6_liesIn_3 N n) a.1 a.2.1 a.2.2.1 a.2.2.2.1 a.2.2.2.2.1 a.2.2.2.2.2) a.2.2.2.2.2
    exact kj_B_X6_liesIn_3 ih
theorem kj_B_X6_liesIn_0 {N : Nat} {l0 : Nat} {l1 : Int64} {l3 : Int32} {l4 : Int32} {u : CSt}  : KJ (B_X6_liesIn_0 N l0 l1 l3 l4 u) u := by
  unfold B_X6_liesIn_0
  exact (kj_LP_X6_liesIn_3  _ _).tr jc_rf
theorem kj_F_X6_liesIn {N : Nat} {l0 : Nat} {l1 : Int64} {l3 : Int32} {l4 : Int32} {u : CSt}  : KJ (F_X6_liesIn N l0 l1 l3 l4 u) u := by
  unfold F_X6_liesIn
  exact kj_B_X6_liesIn_0.tr jc_rf
theorem kj_B_X9_byteAt_0 {N : Nat} {l1 : Int32} {u : CSt}  : KJ (B_X9_byteAt_0 N l1 u) u := by
  unfold B_X9_byteAt_0
  refine KJ_if ?_ ?_
  · skip
    exact KJ_some jc_rf
  · skip
    refine KJ_if ?_ ?_
    · skip
      exact KJ_some jc_rf
    · skip
      refine KJ_if ?_ ?_
      · skip
        exact KJ_some jc_rf
      · skip
        refine KJ_rd (fun _ => ?_)
        exact KJ_some jc_rf
theorem kj_F_X9_byteAt {N : Nat} {l1 : Int32} {u : CSt}  : KJ (F_X9_byteAt N l1 u) u := by
  unfold F_X9_byteAt
  exact kj_B_X9_byteAt_0.tr jc_rf
theorem kj_B_X9_isWord_20 {N : Nat} {R_20 : Int32 × Int32 × CSt → Option (Int32 × CSt)} {l1 : Int32} {l2 : Int32} {u : CSt} (h_R_20 : ∀ a, KJ (R_20 a) a.2.2) : KJ (B_X9_isWord_20 N R_20 l1 l2 u) u := by
  unfold B_X9_isWord_20
  refine KJ_if ?_ ?_
  · skip
    exact KJ_some jc_rf
  · skip
    refine KJ_bc (kj_F_X9_byteAt.tr jc_rf) (fun _ _ => ?_)
    refine KJ_pb (fun _ => ?_)
    refine KJ_if ?_ ?_
    · skip
      exact KJ_some jc_rf
    · skip
      exact (h_R_20 _).tr jc_rf
theorem kj_LP_X9_isWord_20 {N : Nat}  (n : Nat) : ∀ a : Int32 × Int32 × CSt, KJ (LP_X9_isWord_20 N n a) a.2.2 := by
  induction n with
  | zero => exact fun a r z e => by have e : (none : Option _) = some (r, z) := e; cases e
  | succ n ih =>
    intro a
    show KJ (B_X9_isWord_20 N (LP_X9_isWord_20 N n) a.1 a.2.1 a.2.2) a.2.2
    exact kj_B_X9_isWord_20 ih
theorem kj_B_X9_isWord_0 {N : Nat} {l1 : Int32} {u : CSt}  : KJ (B_X9_isWord_0 N l1 u) u := by
  unfold B_X9_isWord_0
  refine KJ_pc ?_
  refine KJ_if ?_ ?_
  · skip
    exact KJ_some (fj_xI (by first | decide | omega) jc_rf)
  · skip
    refine KJ_if ?_ ?_
    · skip
      exact (kj_LP_X9_isWord_20  _ _).tr (fj_xI (by first | decide | omega) jc_rf)
    · skip
      exact KJ_some (fj_xI (by first | decide | omega) jc_rf)
theorem kj_F_X9_isWord {N : Nat} {l1 : Int32} {u : CSt}  : KJ (F_X9_isWord N l1 u) u := by
  unfold F_X9_isWord
  exact kj_B_X9_isWord_0.tr jc_rf
theorem kj_B_X9_wordHead_5 {N : Nat} {R_5 : Int32 × Int32 × Int64 × Int32 × CSt → Option (Int64 × CSt)} {l1 : Int32} {l2 : Int32} {l3 : Int64} {l5 : Int32} {u : CSt} (h_R_5 : ∀ a, KJ (R_5 a) a.2.2.2.2) : KJ (B_X9_wordHead_5 N R_5 l1 l2 l3 l5 u) u := by
  unfold B_X9_wordHead_5
  refine KJ_if ?_ ?_
  · skip
    exact KJ_some jc_rf
  · skip
    refine KJ_if ?_ ?_
    · skip
      exact KJ_some jc_rf
    · skip
      refine KJ_bc (kj_F_X9_byteAt.tr jc_rf) (fun _ _ => ?_)
      exact (h_R_5 _).tr jc_rf
theorem kj_LP_X9_wordHead_5 {N : Nat}  (n : Nat) : ∀ a : Int32 × Int32 × Int64 × Int32 × CSt, KJ (LP_X9_wordHead_5 N n a) a.2.2.2.2 := by
  induction n with
  | zero => exact fun a r z e => by have e : (none : Option _) = some (r, z) := e; cases e
  | succ n ih =>
    intro a
    show KJ (B_X9_wordHead_5 N (LP_X9_wordHead_5 N n) a.1 a.2.1 a.2.2.1 a.2.2.2.1 a.2.2.2.2) a.2.2.2.2
    exact kj_B_X9_wordHead_5 ih
theorem kj_B_X9_wordHead_0 {N : Nat} {l1 : Int32} {l2 : Int32} {u : CSt}  : KJ (B_X9_wordHead_0 N l1 l2 u) u := by
  unfold B_X9_wordHead_0
  exact (kj_LP_X9_wordHead_5  _ _).tr jc_rf
theorem kj_F_X9_wordHead {N : Nat} {l1 : Int32} {l2 : Int32} {u : CSt}  : KJ (F_X9_wordHead N l1 l2 u) u := by
  unfold F_X9_wordHead
  exact kj_B_X9_wordHead_0.tr jc_rf
theorem kj_B_X9_wordTail_8 {N : Nat} {R_8 : Int32 × Int32 × Int32 × CSt → Option (Int32 × CSt)} {l2 : Int32} {l3 : Int32} {l4 : Int32} {u : CSt} (h_R_8 : ∀ a, KJ (R_8 a) a.2.2.2) : KJ (B_X9_wordTail_8 N R_8 l2 l3 l4 u) u := by
  unfold B_X9_wordTail_8
  refine KJ_if ?_ ?_
  · skip
    exact KJ_some jc_rf
  · skip
    refine KJ_bc (kj_F_X9_byteAt.tr jc_rf) (fun _ _ => ?_)
    exact (h_R_8 _).tr jc_rf
theorem kj_LP_X9_wordTail_8 {N : Nat}  (n : Nat) : ∀ a : Int32 × Int32 × Int32 × CSt, KJ (LP_X9_wordTail_8 N n a) a.2.2.2 := by
  induction n with
  | zero => exact fun a r z e => by have e : (none : Option _) = some (r, z) := e; cases e
  | succ n ih =>
    intro a
    show KJ (B_X9_wordTail_8 N (LP_X9_wordTail_8 N n) a.1 a.2.1 a.2.2.1 a.2.2.2) a.2.2.2
    exact kj_B_X9_wordTail_8 ih
theorem kj_B_X9_wordTail_0 {N : Nat} {l1 : Int32} {l2 : Int32} {u : CSt}  : KJ (B_X9_wordTail_0 N l1 l2 u) u := by
  unfold B_X9_wordTail_0
  exact (kj_LP_X9_wordTail_8  _ _).tr jc_rf
theorem kj_F_X9_wordTail {N : Nat} {l1 : Int32} {l2 : Int32} {u : CSt}  : KJ (F_X9_wordTail N l1 l2 u) u := by
  unfold F_X9_wordTail
  exact kj_B_X9_wordTail_0.tr jc_rf
theorem kj_B_X7_isDue_0 {N : Nat} {l0 : Nat} {l1 : Int32} {u : CSt}  : KJ (B_X7_isDue_0 N l0 l1 u) u := by
  unfold B_X7_isDue_0
  refine KJ_if ?_ ?_
  · skip
    exact KJ_some jc_rf
  · skip
    refine KJ_pb (fun _ => ?_)
    refine KJ_if ?_ ?_
    · skip
      exact KJ_some jc_rf
    · skip
      exact KJ_some jc_rf
theorem kj_F_X7_isDue {N : Nat} {l0 : Nat} {l1 : Int32} {u : CSt}  : KJ (F_X7_isDue N l0 l1 u) u := by
  unfold F_X7_isDue
  exact kj_B_X7_isDue_0.tr jc_rf
theorem kj_B_X10_latest_0 {N : Nat} {l1 : Int32} {u : CSt}  : KJ (B_X10_latest_0 N l1 u) u := by
  unfold B_X10_latest_0
  refine KJ_pb (fun _ => ?_)
  exact KJ_some jc_rf
theorem kj_F_X10_latest {N : Nat} {l1 : Int32} {u : CSt}  : KJ (F_X10_latest N l1 u) u := by
  unfold F_X10_latest
  exact kj_B_X10_latest_0.tr jc_rf
theorem kj_B_X1_takeInputs_2 {N : Nat} {R_2 : Int32 × CSt → Option (Int32 × CSt)} {l1 : Int32} {u : CSt} (h_R_2 : ∀ a, KJ (R_2 a) a.2) : KJ (B_X1_takeInputs_2 N R_2 l1 u) u := by
  unfold B_X1_takeInputs_2
  refine KJ_if ?_ ?_
  · skip
    exact KJ_some jc_rf
  · skip
    refine KJ_ix ?_
    refine KJ_rd (fun _ => ?_)
    refine KJ_ix ?_
    refine KJ_rd (fun _ => ?_)
    refine KJ_ix ?_
    refine KJ_ix ?_
    refine KJ_rd (fun _ => ?_)
    refine KJ_wc ?_
    exact (h_R_2 _).tr (fj_xA (by first | decide | omega) jc_rf)
theorem kj_LP_X1_takeInputs_2 {N : Nat}  (n : Nat) : ∀ a : Int32 × CSt, KJ (LP_X1_takeInputs_2 N n a) a.2 := by
  induction n with
  | zero => exact fun a r z e => by have e : (none : Option _) = some (r, z) := e; cases e
  | succ n ih =>
    intro a
    show KJ (B_X1_takeInputs_2 N (LP_X1_takeInputs_2 N n) a.1 a.2) a.2
    exact kj_B_X1_takeInputs_2 ih
theorem kj_B_X1_takeInputs_0 {N : Nat} {u : CSt}  : KJ (B_X1_takeInputs_0 N u) u := by
  unfold B_X1_takeInputs_0
  exact (kj_LP_X1_takeInputs_2  _ _).tr jc_rf
theorem kj_F_X1_takeInputs {N : Nat} {u : CSt}  : KJ (F_X1_takeInputs N u) u := by
  unfold F_X1_takeInputs
  exact kj_B_X1_takeInputs_0.tr jc_rf
theorem kj_B_X1_giveOutputs_2 {N : Nat} {R_2 : Int32 × CSt → Option (Int32 × CSt)} {l1 : Int32} {u : CSt} (h_R_2 : ∀ a, KJ (R_2 a) a.2) : KJ (B_X1_giveOutputs_2 N R_2 l1 u) u := by
  unfold B_X1_giveOutputs_2
  refine KJ_if ?_ ?_
  · skip
    exact KJ_some jc_rf
  · skip
    refine KJ_ix ?_
    refine KJ_rd (fun _ => ?_)
    refine KJ_ix ?_
    refine KJ_rd (fun _ => ?_)
    refine KJ_ix ?_
    refine KJ_ix ?_
    refine KJ_rd (fun _ => ?_)
    refine KJ_wc ?_
    refine KJ_ix ?_
    refine KJ_ix ?_
    refine KJ_rd (fun _ => ?_)
    refine KJ_wc ?_
    exact (h_R_2 _).tr (fj_xA (by first | decide | omega) (fj_xA (by first | decide | omega) jc_rf))
theorem kj_LP_X1_giveOutputs_2 {N : Nat}  (n : Nat) : ∀ a : Int32 × CSt, KJ (LP_X1_giveOutputs_2 N n a) a.2 := by
  induction n with
  | zero => exact fun a r z e => by have e : (none : Option _) = some (r, z) := e; cases e
  | succ n ih =>
    intro a
    show KJ (B_X1_giveOutputs_2 N (LP_X1_giveOutputs_2 N n) a.1 a.2) a.2
    exact kj_B_X1_giveOutputs_2 ih
theorem kj_B_X1_giveOutputs_0 {N : Nat} {u : CSt}  : KJ (B_X1_giveOutputs_0 N u) u := by
  unfold B_X1_giveOutputs_0
  exact (kj_LP_X1_giveOutputs_2  _ _).tr jc_rf
theorem kj_F_X1_giveOutputs {N : Nat} {u : CSt}  : KJ (F_X1_giveOutputs N u) u := by
  unfold F_X1_giveOutputs
  exact kj_B_X1_giveOutputs_0.tr jc_rf
theorem kj_B_X1_wipe_0 {N : Nat} {u : CSt}  : KJ (B_X1_wipe_0 N u) u := by
  unfold B_X1_wipe_0
  refine KJ_ix ?_
  refine KJ_pc ?_
  refine KJ_ix ?_
  refine KJ_pc ?_
  exact KJ_some (fj_xF (by first | decide | omega) (fj_xF (by first | decide | omega) jc_rf))
theorem kj_F_X1_wipe {N : Nat} {u : CSt}  : KJ (F_X1_wipe N u) u := by
  unfold F_X1_wipe
  exact kj_B_X1_wipe_0.tr jc_rf
theorem kj_B_X1_get_57 {N : Nat} {l3 : Int32} {l4 : Int64} {u : CSt}  : KJ (B_X1_get_57 N l3 l4 u) u := by
  unfold B_X1_get_57
  exact KJ_some jc_rf
theorem kj_B_X1_get_6 {N : Nat} {R_6 : Int32 × Int32 × Int32 × Int64 × Int32 × CSt → Option (Int64 × CSt)} {l1 : Int32} {l2 : Int32} {l3 : Int32} {l4 : Int64} {l6 : Int32} {u : CSt} (h_R_6 : ∀ a, KJ (R_6 a) a.2.2.2.2.2) : KJ (B_X1_get_6 N R_6 l1 l2 l3 l4 l6 u) u := by
  unfold B_X1_get_6
  refine KJ_rd (fun _ => ?_)
  refine KJ_if ?_ ?_
  · skip
    exact kj_B_X1_get_57.tr jc_rf
  · skip
    refine KJ_if ?_ ?_
    · skip
      exact kj_B_X1_get_57.tr jc_rf
    · skip
      refine KJ_if ?_ ?_
      · skip
        exact kj_B_X1_get_57.tr jc_rf
      · skip
        refine KJ_ix ?_
        refine KJ_rd (fun _ => ?_)
        exact (h_R_6 _).tr jc_rf
theorem kj_LP_X1_get_6 {N : Nat}  (n : Nat) : ∀ a : Int32 × Int32 × Int32 × Int64 × Int32 × CSt, KJ (LP_X1_get_6 N n a) a.2.2.2.2.2 := by
  induction n with
  | zero => exact fun a r z e => by have e : (none : Option _) = some (r, z) := e; cases e
  | succ n ih =>
    intro a
    show KJ (B_X1_get_6 N (LP_X1_get_6 N n) a.1 a.2.1 a.2.2.1 a.2.2.2.1 a.2.2.2.2.1 a.2.2.2.2.2) a.2.2.2.2.2
    exact kj_B_X1_get_6 ih
theorem kj_B_X1_get_0 {N : Nat} {l1 : Int32} {l2 : Int32} {l3 : Int32} {u : CSt}  : KJ (B_X1_get_0 N l1 l2 l3 u) u := by
  unfold B_X1_get_0
  exact (kj_LP_X1_get_6  _ _).tr jc_rf
theorem kj_F_X1_get {N : Nat} {l1 : Int32} {l2 : Int32} {l3 : Int32} {u : CSt}  : KJ (F_X1_get N l1 l2 l3 u) u := by
  unfold F_X1_get
  exact kj_B_X1_get_0.tr jc_rf
theorem kj_B_X1_set_13 {N : Nat} {R_13 : Int64 × Int32 × Int32 × CSt → Option (Int32 × CSt)} {l3 : Int64} {l5 : Int32} {l6 : Int32} {u : CSt} (h_R_13 : ∀ a, KJ (R_13 a) a.2.2.2) : KJ (B_X1_set_13 N R_13 l3 l5 l6 u) u := by
  unfold B_X1_set_13
  refine KJ_if ?_ ?_
  · skip
    exact KJ_some jc_rf
  · skip
    refine KJ_if ?_ ?_
    · skip
      exact KJ_some jc_rf
    · skip
      refine KJ_if ?_ ?_
      · skip
        exact KJ_some jc_rf
      · skip
        refine KJ_ix ?_
        refine KJ_wc ?_
        exact (h_R_13 _).tr (fj_xA (by first | decide | omega) jc_rf)
theorem kj_LP_X1_set_13 {N : Nat}  (n : Nat) : ∀ a : Int64 × Int32 × Int32 × CSt, KJ (LP_X1_set_13 N n a) a.2.2.2 := by
  induction n with
  | zero => exact fun a r z e => by have e : (none : Option _) = some (r, z) := e; cases e
  | succ n ih =>
    intro a
    show KJ (B_X1_set_13 N (LP_X1_set_13 N n) a.1 a.2.1 a.2.2.1 a.2.2.2) a.2.2.2
    exact kj_B_X1_set_13 ih
theorem kj_B_X1_set_0 {N : Nat} {l1 : Int32} {l2 : Int32} {l3 : Int64} {u : CSt}  : KJ (B_X1_set_0 N l1 l2 l3 u) u := by
  unfold B_X1_set_0
  refine KJ_rd (fun _ => ?_)
  exact (kj_LP_X1_set_13  _ _).tr jc_rf
theorem kj_F_X1_set {N : Nat} {l1 : Int32} {l2 : Int32} {l3 : Int64} {u : CSt}  : KJ (F_X1_set N l1 l2 l3 u) u := by
  unfold F_X1_set
  exact kj_B_X1_set_0.tr jc_rf
theorem kj_B_X2_numberAt_0 {N : Nat} {l1 : Int32} {u : CSt}  : KJ (B_X2_numberAt_0 N l1 u) u := by
  unfold B_X2_numberAt_0
  refine KJ_if ?_ ?_
  · skip
    exact KJ_some jc_rf
  · skip
    refine KJ_if ?_ ?_
    · skip
      exact KJ_some jc_rf
    · skip
      refine KJ_rd (fun _ => ?_)
      exact KJ_some jc_rf
theorem kj_F_X2_numberAt {N : Nat} {l1 : Int32} {u : CSt}  : KJ (F_X2_numberAt N l1 u) u := by
  unfold F_X2_numberAt
  exact kj_B_X2_numberAt_0.tr jc_rf
theorem kj_B_X2_put_0 {N : Nat} {l1 : Int32} {l2 : Int64} {u : CSt}  : KJ (B_X2_put_0 N l1 l2 u) u := by
  unfold B_X2_put_0
  refine KJ_if ?_ ?_
  · skip
    exact KJ_some jc_rf
  · skip
    refine KJ_if ?_ ?_
    · skip
      exact KJ_some jc_rf
    · skip
      refine KJ_wc ?_
      exact KJ_some (fj_xB (by first | decide | omega) jc_rf)
theorem kj_F_X2_put {N : Nat} {l1 : Int32} {l2 : Int64} {u : CSt}  : KJ (F_X2_put N l1 l2 u) u := by
  unfold F_X2_put
  exact kj_B_X2_put_0.tr jc_rf
theorem kj_B_X2_fill_3 {N : Nat} {R_3 : Int32 × Int32 × Int64 × Int32 × CSt → Option (Int32 × CSt)} {l1 : Int32} {l2 : Int32} {l3 : Int64} {l5 : Int32} {u : CSt} (h_R_3 : ∀ a, KJ (R_3 a) a.2.2.2.2) : KJ (B_X2_fill_3 N R_3 l1 l2 l3 l5 u) u := by
  unfold B_X2_fill_3
  refine KJ_if ?_ ?_
  · skip
    exact KJ_some jc_rf
  · skip
    refine KJ_bc (kj_F_X2_put.tr jc_rf) (fun _ _ => ?_)
    exact (h_R_3 _).tr jc_rf
theorem kj_LP_X2_fill_3 {N : Nat}  (n : Nat) : ∀ a : Int32 × Int32 × Int64 × Int32 × CSt, KJ (LP_X2_fill_3 N n a) a.2.2.2.2 := by
  induction n with
  | zero => exact fun a r z e => by have e : (none : Option _) = some (r, z) := e; cases e
  | succ n ih =>
    intro a
    show KJ (B_X2_fill_3 N (LP_X2_fill_3 N n) a.1 a.2.1 a.2.2.1 a.2.2.2.1 a.2.2.2.2) a.2.2.2.2
    exact kj_B_X2_fill_3 ih
theorem kj_B_X2_fill_0 {N : Nat} {l1 : Int32} {l2 : Int32} {l3 : Int64} {u : CSt}  : KJ (B_X2_fill_0 N l1 l2 l3 u) u := by
  unfold B_X2_fill_0
  exact (kj_LP_X2_fill_3  _ _).tr jc_rf
theorem kj_F_X2_fill {N : Nat} {l1 : Int32} {l2 : Int32} {l3 : Int64} {u : CSt}  : KJ (F_X2_fill N l1 l2 l3 u) u := by
  unfold F_X2_fill
  exact kj_B_X2_fill_0.tr jc_rf
theorem kj_B_X2_numberOf_23 {N : Nat} {l1 : Nat} {s1 : Int32} {u : CSt}  : KJ (B_X2_numberOf_23 N l1 s1 u) u := by
  unfold B_X2_numberOf_23
  refine KJ_bc (kj_F_X1_get.tr jc_rf) (fun _ _ => ?_)
  exact KJ_some jc_rf
theorem kj_B_X2_numberOf_0 {N : Nat} {l1 : Nat} {l2 : Int32} {u : CSt}  : KJ (B_X2_numberOf_0 N l1 l2 u) u := by
  unfold B_X2_numberOf_0
  refine KJ_bc (kj_F_X4_isPlaced.tr jc_rf) (fun _ _ => ?_)
  refine KJ_if ?_ ?_
  · skip
    refine KJ_bc (kj_F_X2_numberAt.tr jc_rf) (fun _ _ => ?_)
    exact KJ_some jc_rf
  · skip
    refine KJ_bc (kj_F_X4_isInput.tr jc_rf) (fun _ _ => ?_)
    refine KJ_if ?_ ?_
    · skip
      exact kj_B_X2_numberOf_23.tr jc_rf
    · skip
      exact kj_B_X2_numberOf_23.tr jc_rf
theorem kj_F_X2_numberOf {N : Nat} {l1 : Nat} {l2 : Int32} {u : CSt}  : KJ (F_X2_numberOf N l1 l2 u) u := by
  unfold F_X2_numberOf
  exact kj_B_X2_numberOf_0.tr jc_rf
theorem kj_B_X2_change_0 {N : Nat} {l1 : Nat} {l2 : Int32} {l3 : Int64} {u : CSt}  : KJ (B_X2_change_0 N l1 l2 l3 u) u := by
  unfold B_X2_change_0
  refine KJ_bc (kj_F_X4_isPlaced.tr jc_rf) (fun _ _ => ?_)
  refine KJ_if ?_ ?_
  · skip
    refine KJ_bc (kj_F_X2_put.tr jc_rf) (fun _ _ => ?_)
    exact KJ_some jc_rf
  · skip
    refine KJ_bc (kj_F_X1_set.tr jc_rf) (fun _ _ => ?_)
    exact KJ_some jc_rf
theorem kj_F_X2_change {N : Nat} {l1 : Nat} {l2 : Int32} {l3 : Int64} {u : CSt}  : KJ (F_X2_change N l1 l2 l3 u) u := by
  unfold F_X2_change
  exact kj_B_X2_change_0.tr jc_rf
theorem kj_B_X2_keep_17 {N : Nat} {R_17 : Nat × Nat × Int32 × CSt → Option (Int32 × CSt)} {l1 : Nat} {l2 : Nat} {l3 : Int32} {u : CSt} (h_R_17 : ∀ a, KJ (R_17 a) a.2.2.2) : KJ (B_X2_keep_17 N R_17 l1 l2 l3 u) u := by
  unfold B_X2_keep_17
  refine KJ_if ?_ ?_
  · skip
    exact KJ_some jc_rf
  · skip
    refine KJ_if ?_ ?_
    · skip
      exact KJ_some jc_rf
    · skip
      refine KJ_if ?_ ?_
      · skip
        exact KJ_some jc_rf
      · skip
        refine KJ_rd (fun _ => ?_)
        refine KJ_bc (kj_F_X2_put.tr jc_rf) (fun _ _ => ?_)
        exact (h_R_17 _).tr jc_rf
theorem kj_LP_X2_keep_17 {N : Nat}  (n : Nat) : ∀ a : Nat × Nat × Int32 × CSt, KJ (LP_X2_keep_17 N n a) a.2.2.2 := by
  induction n with
  | zero => exact fun a r z e => by have e : (none : Option _) = some (r, z) := e; cases e
  | succ n ih =>
    intro a
    show KJ (B_X2_keep_17 N (LP_X2_keep_17 N n) a.1 a.2.1 a.2.2.1 a.2.2.2) a.2.2.2
    exact kj_B_X2_keep_17 ih
theorem kj_B_X2_keep_0 {N : Nat} {l1 : Nat} {l2 : Nat} {u : CSt}  : KJ (B_X2_keep_0 N l1 l2 u) u := by
  unfold B_X2_keep_0
  refine KJ_if ?_ ?_
  · skip
    refine KJ_bc (kj_F_X4_isPlaced.tr jc_rf) (fun _ _ => ?_)
    refine KJ_if ?_ ?_
    · skip
      exact (kj_LP_X2_keep_17  _ _).tr jc_rf
    · skip
      exact KJ_some jc_rf
  · skip
    exact KJ_some jc_rf
theorem kj_F_X2_keep {N : Nat} {l1 : Nat} {l2 : Nat} {u : CSt}  : KJ (F_X2_keep N l1 l2 u) u := by
  unfold F_X2_keep
  exact kj_B_X2_keep_0.tr jc_rf
theorem kj_B_X2_resetInstances_31 {N : Nat} {R_2 : Nat × Int32 × CSt → Option (Int32 × CSt)} {R_31 : Nat × Int32 × Nat × Nat × Int32 × CSt → Option (Int32 × CSt)} {l1 : Nat} {l2 : Int32} {l3 : Nat} {l4 : Nat} {l5 : Int32} {u : CSt} (h_R_2 : ∀ a, KJ (R_2 a) a.2.2) (h_R_31 : ∀ a, KJ (R_31 a) a.2.2.2.2.2) : KJ (B_X2_resetInstances_31 N R_2 R_31 l1 l2 l3 l4 l5 u) u := by
  unfold B_X2_resetInstances_31
  refine KJ_if ?_ ?_
  · skip
    exact (h_R_2 _).tr jc_rf
  · skip
    refine KJ_bc (kj_F_X6_local.tr jc_rf) (fun _ _ => ?_)
    refine KJ_ok ?_
    refine KJ_bc (kj_F_X2_fill.tr jc_rf) (fun _ _ => ?_)
    exact (h_R_31 _).tr jc_rf
theorem kj_LP_X2_resetInstances_31 {N : Nat} {R_2 : Nat × Int32 × CSt → Option (Int32 × CSt)} (h_R_2 : ∀ a, KJ (R_2 a) a.2.2) (n : Nat) : ∀ a : Nat × Int32 × Nat × Nat × Int32 × CSt, KJ (LP_X2_resetInstances_31 N R_2 n a) a.2.2.2.2.2 := by
  induction n with
  | zero => exact fun a r z e => by have e : (none : Option _) = some (r, z) := e; cases e
  | succ n ih =>
    intro a
    show KJ (B_X2_resetInstances_31 N R_2 (LP_X2_resetInstances_31 N R_2 n) a.1 a.2.1 a.2.2.1 a.2.2.2.1 a.2.2.2.2.1 a.2.2.2.2.2) a.2.2.2.2.2
    exact kj_B_X2_resetInstances_31 h_R_2 ih
theorem kj_B_X2_resetInstances_2 {N : Nat} {R_2 : Nat × Int32 × CSt → Option (Int32 × CSt)} {l1 : Nat} {l2 : Int32} {u : CSt} (h_R_2 : ∀ a, KJ (R_2 a) a.2.2) : KJ (B_X2_resetInstances_2 N R_2 l1 l2 u) u := by
  unfold B_X2_resetInstances_2
  refine KJ_bc (kj_F_X6_ofSort.tr jc_rf) (fun _ _ => ?_)
  refine KJ_if ?_ ?_
  · skip
    exact KJ_some jc_rf
  · skip
    refine KJ_bc (kj_F_X6_nth.tr jc_rf) (fun _ _ => ?_)
    refine KJ_ok ?_
    refine KJ_bc (kj_F_X6_name.tr jc_rf) (fun _ _ => ?_)
    refine KJ_ok ?_
    exact (kj_LP_X2_resetInstances_31 h_R_2 _ _).tr jc_rf
theorem kj_LP_X2_resetInstances_2 {N : Nat}  (n : Nat) : ∀ a : Nat × Int32 × CSt, KJ (LP_X2_resetInstances_2 N n a) a.2.2 := by
  induction n with
  | zero => exact fun a r z e => by have e : (none : Option _) = some (r, z) := e; cases e
  | succ n ih =>
    intro a
    show KJ (B_X2_resetInstances_2 N (LP_X2_resetInstances_2 N n) a.1 a.2.1 a.2.2) a.2.2
    exact kj_B_X2_resetInstances_2 ih
theorem kj_B_X2_resetInstances_0 {N : Nat} {l1 : Nat} {u : CSt}  : KJ (B_X2_resetInstances_0 N l1 u) u := by
  unfold B_X2_resetInstances_0
  exact (kj_LP_X2_resetInstances_2  _ _).tr jc_rf
theorem kj_F_X2_resetInstances {N : Nat} {l1 : Nat} {u : CSt}  : KJ (F_X2_resetInstances N l1 u) u := by
  unfold F_X2_resetInstances
  exact kj_B_X2_resetInstances_0.tr jc_rf
theorem kj_B_X2_install_89 {N : Nat} {R_19 : Nat × Nat × Int32 × Int32 × CSt → Option (Int32 × CSt)} {l1 : Nat} {l2 : Nat} {l3 : Int32} {l4 : Int32} {u : CSt} (h_R_19 : ∀ a, KJ (R_19 a) a.2.2.2.2) : KJ (B_X2_install_89 N R_19 l1 l2 l3 l4 u) u := by
  unfold B_X2_install_89
  exact (h_R_19 _).tr jc_rf
theorem kj_B_X2_install_19 {N : Nat} {R_19 : Nat × Nat × Int32 × Int32 × CSt → Option (Int32 × CSt)} {l1 : Nat} {l2 : Nat} {l3 : Int32} {l4 : Int32} {u : CSt} (h_R_19 : ∀ a, KJ (R_19 a) a.2.2.2.2) : KJ (B_X2_install_19 N R_19 l1 l2 l3 l4 u) u := by
  unfold B_X2_install_19
  refine KJ_bc (kj_F_X6_ofSort.tr jc_rf) (fun _ _ => ?_)
  refine KJ_if ?_ ?_
  · skip
    refine KJ_bc (kj_F_X2_resetInstances.tr jc_rf) (fun _ _ => ?_)
    exact KJ_some jc_rf
  · skip
    refine KJ_bc (kj_F_X6_nth.tr jc_rf) (fun _ _ => ?_)
    refine KJ_ok ?_
    refine KJ_bc (kj_F_X4_isPlaced.tr jc_rf) (fun _ _ => ?_)
    refine KJ_if ?_ ?_
    · skip
      refine KJ_bc (kj_F_X2_fill.tr jc_rf) (fun _ _ => ?_)
      refine KJ_if ?_ ?_
      · skip
        exact (kj_B_X2_install_89 h_R_19).tr jc_rf
      · skip
        refine KJ_bc (kj_F_X6_ofText.tr jc_rf) (fun _ _ => ?_)
        refine KJ_ok ?_
        refine KJ_bc (kj_F_X2_keep.tr jc_rf) (fun _ _ => ?_)
        exact (kj_B_X2_install_89 h_R_19).tr jc_rf
    · skip
      exact (kj_B_X2_install_89 h_R_19).tr jc_rf
theorem kj_LP_X2_install_19 {N : Nat}  (n : Nat) : ∀ a : Nat × Nat × Int32 × Int32 × CSt, KJ (LP_X2_install_19 N n a) a.2.2.2.2 := by
  induction n with
  | zero => exact fun a r z e => by have e : (none : Option _) = some (r, z) := e; cases e
  | succ n ih =>
    intro a
    show KJ (B_X2_install_19 N (LP_X2_install_19 N n) a.1 a.2.1 a.2.2.1 a.2.2.2.1 a.2.2.2.2) a.2.2.2.2
    exact kj_B_X2_install_19 ih
theorem kj_B_X2_install_0 {N : Nat} {l1 : Nat} {l2 : Nat} {l3 : Int32} {u : CSt}  : KJ (B_X2_install_0 N l1 l2 l3 u) u := by
  unfold B_X2_install_0
  refine KJ_pc ?_
  exact (kj_LP_X2_install_19  _ _).tr (fj_xG (by first | decide | omega) jc_rf)
theorem kj_F_X2_install {N : Nat} {l1 : Nat} {l2 : Nat} {l3 : Int32} {u : CSt}  : KJ (F_X2_install N l1 l2 l3 u) u := by
  unfold F_X2_install
  exact kj_B_X2_install_0.tr jc_rf
theorem kj_B_X2_stop_0 {N : Nat} {l1 : Int32} {l2 : Int32} {u : CSt}  : KJ (B_X2_stop_0 N l1 l2 u) u := by
  unfold B_X2_stop_0
  refine KJ_pc ?_
  refine KJ_pc ?_
  refine KJ_pc ?_
  exact KJ_some (fj_xI (by first | decide | omega) (fj_xI (by first | decide | omega) (fj_xI (by first | decide | omega) jc_rf)))
theorem kj_F_X2_stop {N : Nat} {l1 : Int32} {l2 : Int32} {u : CSt}  : KJ (F_X2_stop N l1 l2 u) u := by
  unfold F_X2_stop
  exact kj_B_X2_stop_0.tr jc_rf
theorem kj_B_X2_push_0 {N : Nat} {l1 : Int64} {u : CSt}  : KJ (B_X2_push_0 N l1 u) u := by
  unfold B_X2_push_0
  refine KJ_bc (kj_F_X2_put.tr jc_rf) (fun _ _ => ?_)
  refine KJ_pc ?_
  exact KJ_some (fj_xI (by first | decide | omega) jc_rf)
theorem kj_F_X2_push {N : Nat} {l1 : Int64} {u : CSt}  : KJ (F_X2_push N l1 u) u := by
  unfold F_X2_push
  exact kj_B_X2_push_0.tr jc_rf
theorem kj_B_X2_pop_0 {N : Nat} {u : CSt}  : KJ (B_X2_pop_0 N u) u := by
  unfold B_X2_pop_0
  refine KJ_pc ?_
  refine KJ_bc (kj_F_X2_numberAt.tr (fj_xI (by first | decide | omega) jc_rf)) (fun _ _ => ?_)
  exact KJ_some jc_rf
theorem kj_F_X2_pop {N : Nat} {u : CSt}  : KJ (F_X2_pop N u) u := by
  unfold F_X2_pop
  exact kj_B_X2_pop_0.tr jc_rf
theorem kj_B_X2_address_21 {N : Nat} {l3 : Int32} {u : CSt}  : KJ (B_X2_address_21 N l3 u) u := by
  unfold B_X2_address_21
  refine KJ_bc (kj_F_X2_stop.tr jc_rf) (fun _ _ => ?_)
  exact KJ_some jc_rf
theorem kj_B_X2_address_0 {N : Nat} {l1 : Int32} {l2 : Int32} {l3 : Int32} {u : CSt}  : KJ (B_X2_address_0 N l1 l2 l3 u) u := by
  unfold B_X2_address_0
  refine KJ_bc (kj_F_X2_pop.tr jc_rf) (fun _ _ => ?_)
  refine KJ_if ?_ ?_
  · skip
    exact kj_B_X2_address_21.tr jc_rf
  · skip
    refine KJ_if ?_ ?_
    · skip
      refine KJ_bc (kj_F_X2_push.tr jc_rf) (fun _ _ => ?_)
      exact KJ_some jc_rf
    · skip
      exact kj_B_X2_address_21.tr jc_rf
theorem kj_F_X2_address {N : Nat} {l1 : Int32} {l2 : Int32} {l3 : Int32} {u : CSt}  : KJ (F_X2_address N l1 l2 l3 u) u := by
  unfold F_X2_address
  exact kj_B_X2_address_0.tr jc_rf
theorem kj_B_X2_assign_0 {N : Nat} {l1 : Int32} {u : CSt}  : KJ (B_X2_assign_0 N l1 u) u := by
  unfold B_X2_assign_0
  refine KJ_bc (kj_F_X2_pop.tr jc_rf) (fun _ _ => ?_)
  refine KJ_bc (kj_F_X2_pop.tr jc_rf) (fun _ _ => ?_)
  refine KJ_bc (kj_F_X2_put.tr jc_rf) (fun _ _ => ?_)
  exact KJ_some jc_rf
theorem kj_F_X2_assign {N : Nat} {l1 : Int32} {u : CSt}  : KJ (F_X2_assign N l1 u) u := by
  unfold F_X2_assign
  exact kj_B_X2_assign_0.tr jc_rf
theorem kj_B_X2_move_0 {N : Nat} {l1 : Int32} {l2 : Int32} {l3 : Int32} {l4 : Int32} {u : CSt}  : KJ (B_X2_move_0 N l1 l2 l3 l4 u) u := by
  unfold B_X2_move_0
  refine KJ_if ?_ ?_
  · skip
    refine KJ_bc (kj_F_X2_push.tr jc_rf) (fun _ _ => ?_)
    exact KJ_some jc_rf
  · skip
    refine KJ_if ?_ ?_
    · skip
      refine KJ_bc (kj_F_X2_push.tr jc_rf) (fun _ _ => ?_)
      exact KJ_some jc_rf
    · skip
      refine KJ_if ?_ ?_
      · skip
        refine KJ_bc (kj_F_X2_numberAt.tr jc_rf) (fun _ _ => ?_)
        refine KJ_bc (kj_F_X2_push.tr jc_rf) (fun _ _ => ?_)
        exact KJ_some jc_rf
      · skip
        refine KJ_if ?_ ?_
        · skip
          refine KJ_bc (kj_F_X2_numberAt.tr jc_rf) (fun _ _ => ?_)
          refine KJ_bc (kj_F_X2_push.tr jc_rf) (fun _ _ => ?_)
          exact KJ_some jc_rf
        · skip
          refine KJ_if ?_ ?_
          · skip
            refine KJ_bc (kj_F_X1_get.tr jc_rf) (fun _ _ => ?_)
            refine KJ_bc (kj_F_X2_push.tr jc_rf) (fun _ _ => ?_)
            exact KJ_some jc_rf
          · skip
            refine KJ_if ?_ ?_
            · skip
              refine KJ_bc (kj_F_X1_get.tr jc_rf) (fun _ _ => ?_)
              refine KJ_bc (kj_F_X2_push.tr jc_rf) (fun _ _ => ?_)
              exact KJ_some jc_rf
            · skip
              refine KJ_if ?_ ?_
              · skip
                refine KJ_bc (kj_F_X2_pop.tr jc_rf) (fun _ _ => ?_)
                refine KJ_bc (kj_F_X2_put.tr jc_rf) (fun _ _ => ?_)
                exact KJ_some jc_rf
              · skip
                refine KJ_if ?_ ?_
                · skip
                  refine KJ_bc (kj_F_X2_pop.tr jc_rf) (fun _ _ => ?_)
                  refine KJ_bc (kj_F_X2_put.tr jc_rf) (fun _ _ => ?_)
                  exact KJ_some jc_rf
                · skip
                  refine KJ_if ?_ ?_
                  · skip
                    refine KJ_bc (kj_F_X2_pop.tr jc_rf) (fun _ _ => ?_)
                    refine KJ_bc (kj_F_X1_set.tr jc_rf) (fun _ _ => ?_)
                    exact KJ_some jc_rf
                  · skip
                    refine KJ_if ?_ ?_
                    · skip
                      refine KJ_bc (kj_F_X2_address.tr jc_rf) (fun _ _ => ?_)
                      exact KJ_some jc_rf
                    · skip
                      refine KJ_if ?_ ?_
                      · skip
                        refine KJ_bc (kj_F_X2_address.tr jc_rf) (fun _ _ => ?_)
                        exact KJ_some jc_rf
                      · skip
                        refine KJ_if ?_ ?_
                        · skip
                          refine KJ_bc (kj_F_X2_pop.tr jc_rf) (fun _ _ => ?_)
                          refine KJ_bc (kj_F_X2_numberAt.tr jc_rf) (fun _ _ => ?_)
                          refine KJ_bc (kj_F_X2_push.tr jc_rf) (fun _ _ => ?_)
                          exact KJ_some jc_rf
                        · skip
                          refine KJ_if ?_ ?_
                          · skip
                            refine KJ_bc (kj_F_X2_numberAt.tr jc_rf) (fun _ _ => ?_)
                            refine KJ_bc (kj_F_X2_numberAt.tr jc_rf) (fun _ _ => ?_)
                            refine KJ_bc (kj_F_X2_push.tr jc_rf) (fun _ _ => ?_)
                            exact KJ_some jc_rf
                          · skip
                            refine KJ_if ?_ ?_
                            · skip
                              refine KJ_bc (kj_F_X2_numberAt.tr jc_rf) (fun _ _ => ?_)
                              refine KJ_bc (kj_F_X2_numberAt.tr jc_rf) (fun _ _ => ?_)
                              refine KJ_bc (kj_F_X2_push.tr jc_rf) (fun _ _ => ?_)
                              exact KJ_some jc_rf
                            · skip
                              refine KJ_if ?_ ?_
                              · skip
                                refine KJ_bc (kj_F_X2_assign.tr jc_rf) (fun _ _ => ?_)
                                exact KJ_some jc_rf
                              · skip
                                refine KJ_if ?_ ?_
                                · skip
                                  refine KJ_bc (kj_F_X2_pop.tr jc_rf) (fun _ _ => ?_)
                                  exact KJ_some jc_rf
                                · skip
                                  exact KJ_some jc_rf
theorem kj_F_X2_move {N : Nat} {l1 : Int32} {l2 : Int32} {l3 : Int32} {l4 : Int32} {u : CSt}  : KJ (F_X2_move N l1 l2 l3 l4 u) u := by
  unfold F_X2_move
  exact kj_B_X2_move_0.tr jc_rf
theorem kj_B_X2_reckon_98 {N : Nat} {l5 : Int64} {s1 : Int32} {s2 : Int32} {u : CSt}  : KJ (B_X2_reckon_98 N l5 s1 s2 u) u := by
  unfold B_X2_reckon_98
  refine KJ_bc (kj_F_X2_pop.tr jc_rf) (fun _ _ => ?_)
  refine KJ_bc (kj_F_X2_push.tr jc_rf) (fun _ _ => ?_)
  exact KJ_some jc_rf
theorem kj_B_X2_reckon_124 {N : Nat} {l5 : Int64} {s1 : Int32} {s2 : Int32} {u : CSt}  : KJ (B_X2_reckon_124 N l5 s1 s2 u) u := by
  unfold B_X2_reckon_124
  refine KJ_bc (kj_F_X2_push.tr jc_rf) (fun _ _ => ?_)
  exact KJ_some jc_rf
theorem kj_B_X2_reckon_162 {N : Nat} {s1 : Int64} {u : CSt}  : KJ (B_X2_reckon_162 N s1 u) u := by
  unfold B_X2_reckon_162
  refine KJ_bc (kj_F_X2_push.tr jc_rf) (fun _ _ => ?_)
  exact KJ_some jc_rf
theorem kj_B_X2_reckon_203 {N : Nat} {l5 : Int64} {s1 : Int32} {s2 : Int32} {u : CSt}  : KJ (B_X2_reckon_203 N l5 s1 s2 u) u := by
  unfold B_X2_reckon_203
  refine KJ_bc (kj_F_X2_pop.tr jc_rf) (fun _ _ => ?_)
  refine KJ_bc (kj_F_X2_push.tr jc_rf) (fun _ _ => ?_)
  exact KJ_some jc_rf
theorem kj_B_X2_reckon_192 {N : Nat} {l2 : Int32} {l3 : Int32} {l5 : Int64} {u : CSt}  : KJ (B_X2_reckon_192 N l2 l3 l5 u) u := by
  unfold B_X2_reckon_192
  refine KJ_if ?_ ?_
  · skip
    exact kj_B_X2_reckon_203.tr jc_rf
  · skip
    exact kj_B_X2_reckon_203.tr jc_rf
theorem kj_B_X2_reckon_0 {N : Nat} {l1 : Int32} {l2 : Int32} {l3 : Int32} {l4 : Int32} {u : CSt}  : KJ (B_X2_reckon_0 N l1 l2 l3 l4 u) u := by
  unfold B_X2_reckon_0
  refine KJ_bc (kj_F_X2_pop.tr jc_rf) (fun _ _ => ?_)
  refine KJ_if ?_ ?_
  · skip
    refine KJ_bc (kj_F_X2_push.tr jc_rf) (fun _ _ => ?_)
    exact KJ_some jc_rf
  · skip
    refine KJ_if ?_ ?_
    · skip
      refine KJ_bc (kj_F_X2_pop.tr jc_rf) (fun _ _ => ?_)
      refine KJ_bc (kj_F_X2_push.tr jc_rf) (fun _ _ => ?_)
      exact KJ_some jc_rf
    · skip
      refine KJ_if ?_ ?_
      · skip
        refine KJ_if ?_ ?_
        · skip
          exact kj_B_X2_reckon_98.tr jc_rf
        · skip
          exact kj_B_X2_reckon_98.tr jc_rf
      · skip
        refine KJ_if ?_ ?_
        · skip
          refine KJ_if ?_ ?_
          · skip
            exact kj_B_X2_reckon_124.tr jc_rf
          · skip
            exact kj_B_X2_reckon_124.tr jc_rf
        · skip
          refine KJ_if ?_ ?_
          · skip
            refine KJ_bc (kj_F_X2_push.tr jc_rf) (fun _ _ => ?_)
            exact KJ_some jc_rf
          · skip
            refine KJ_if ?_ ?_
            · skip
              refine KJ_if ?_ ?_
              · skip
                exact kj_B_X2_reckon_162.tr jc_rf
              · skip
                exact kj_B_X2_reckon_162.tr jc_rf
            · skip
              refine KJ_if ?_ ?_
              · skip
                refine KJ_if ?_ ?_
                · skip
                  exact kj_B_X2_reckon_192.tr jc_rf
                · skip
                  refine KJ_bc (kj_F_X2_stop.tr jc_rf) (fun _ _ => ?_)
                  exact KJ_some jc_rf
              · skip
                exact kj_B_X2_reckon_192.tr jc_rf
theorem kj_F_X2_reckon {N : Nat} {l1 : Int32} {l2 : Int32} {l3 : Int32} {l4 : Int32} {u : CSt}  : KJ (F_X2_reckon N l1 l2 l3 l4 u) u := by
  unfold F_X2_reckon
  exact kj_B_X2_reckon_0.tr jc_rf
theorem kj_B_X2_decide_28 {N : Nat} {l2 : Int32} {s1 : Int64} {u : CSt}  : KJ (B_X2_decide_28 N l2 s1 u) u := by
  unfold B_X2_decide_28
  refine KJ_bc (kj_F_X2_push.tr jc_rf) (fun _ _ => ?_)
  refine KJ_pc ?_
  exact KJ_some (fj_xI (by first | decide | omega) jc_rf)
theorem kj_B_X2_decide_14 {N : Nat} {l1 : Int32} {l2 : Int32} {s0 : Int32} {u : CSt}  : KJ (B_X2_decide_14 N l1 l2 s0 u) u := by
  unfold B_X2_decide_14
  refine KJ_if ?_ ?_
  · skip
    refine KJ_if ?_ ?_
    · skip
      exact kj_B_X2_decide_28.tr jc_rf
    · skip
      exact kj_B_X2_decide_28.tr jc_rf
  · skip
    exact KJ_some jc_rf
theorem kj_B_X2_decide_0 {N : Nat} {l1 : Int32} {l2 : Int32} {u : CSt}  : KJ (B_X2_decide_0 N l1 l2 u) u := by
  unfold B_X2_decide_0
  refine KJ_bc (kj_F_X2_pop.tr jc_rf) (fun _ _ => ?_)
  refine KJ_if ?_ ?_
  · skip
    exact kj_B_X2_decide_14.tr jc_rf
  · skip
    exact kj_B_X2_decide_14.tr jc_rf
theorem kj_F_X2_decide {N : Nat} {l1 : Int32} {l2 : Int32} {u : CSt}  : KJ (F_X2_decide N l1 l2 u) u := by
  unfold F_X2_decide
  exact kj_B_X2_decide_0.tr jc_rf
theorem kj_B_X2_turn_66 {N : Nat} {s1 : Int32} {u : CSt}  : KJ (B_X2_turn_66 N s1 u) u := by
  unfold B_X2_turn_66
  refine KJ_pc ?_
  exact KJ_some (fj_xI (by first | decide | omega) jc_rf)
theorem kj_B_X2_turn_117 {N : Nat} {s1 : Int32} {u : CSt}  : KJ (B_X2_turn_117 N s1 u) u := by
  unfold B_X2_turn_117
  refine KJ_pc ?_
  exact KJ_some (fj_xI (by first | decide | omega) jc_rf)
theorem kj_B_X2_turn_150 {N : Nat} {s1 : Int32} {u : CSt}  : KJ (B_X2_turn_150 N s1 u) u := by
  unfold B_X2_turn_150
  refine KJ_pc ?_
  exact KJ_some (fj_xI (by first | decide | omega) jc_rf)
theorem kj_B_X2_turn_0 {N : Nat} {l1 : Int32} {l2 : Int32} {l3 : Int32} {u : CSt}  : KJ (B_X2_turn_0 N l1 l2 l3 u) u := by
  unfold B_X2_turn_0
  refine KJ_if ?_ ?_
  · skip
    refine KJ_pc ?_
    exact KJ_some (fj_xI (by first | decide | omega) jc_rf)
  · skip
    refine KJ_if ?_ ?_
    · skip
      refine KJ_bc (kj_F_X2_pop.tr jc_rf) (fun _ _ => ?_)
      refine KJ_if ?_ ?_
      · skip
        exact kj_B_X2_turn_66.tr jc_rf
      · skip
        exact kj_B_X2_turn_66.tr jc_rf
    · skip
      refine KJ_if ?_ ?_
      · skip
        refine KJ_bc (kj_F_X2_decide.tr jc_rf) (fun _ _ => ?_)
        exact KJ_some jc_rf
      · skip
        refine KJ_if ?_ ?_
        · skip
          refine KJ_bc (kj_F_X2_decide.tr jc_rf) (fun _ _ => ?_)
          exact KJ_some jc_rf
        · skip
          refine KJ_if ?_ ?_
          · skip
            refine KJ_bc (kj_F_X2_pop.tr jc_rf) (fun _ _ => ?_)
            refine KJ_bc (kj_F_X2_numberAt.tr jc_rf) (fun _ _ => ?_)
            refine KJ_if ?_ ?_
            · skip
              exact kj_B_X2_turn_117.tr jc_rf
            · skip
              exact kj_B_X2_turn_117.tr jc_rf
          · skip
            refine KJ_if ?_ ?_
            · skip
              refine KJ_bc (kj_F_X2_pop.tr jc_rf) (fun _ _ => ?_)
              refine KJ_bc (kj_F_X2_numberAt.tr jc_rf) (fun _ _ => ?_)
              refine KJ_if ?_ ?_
              · skip
                exact kj_B_X2_turn_150.tr jc_rf
              · skip
                exact kj_B_X2_turn_150.tr jc_rf
            · skip
              refine KJ_ok ?_
              refine KJ_bc (kj_F_X2_numberAt.tr jc_rf) (fun _ _ => ?_)
              refine KJ_bc (kj_F_X6_liesIn.tr jc_rf) (fun _ _ => ?_)
              refine KJ_if ?_ ?_
              · skip
                refine KJ_pc ?_
                exact KJ_some (fj_xI (by first | decide | omega) jc_rf)
              · skip
                refine KJ_pc ?_
                exact KJ_some (fj_xI (by first | decide | omega) jc_rf)
theorem kj_F_X2_turn {N : Nat} {l1 : Int32} {l2 : Int32} {l3 : Int32} {u : CSt}  : KJ (F_X2_turn N l1 l2 l3 u) u := by
  unfold F_X2_turn
  exact kj_B_X2_turn_0.tr jc_rf
theorem kj_B_X2_remember_0 {N : Nat} {l1 : Int32} {u : CSt}  : KJ (B_X2_remember_0 N l1 u) u := by
  unfold B_X2_remember_0
  refine KJ_wc ?_
  refine KJ_wc ?_
  refine KJ_wc ?_
  refine KJ_pc ?_
  exact KJ_some (fj_xI (by first | decide | omega) (fj_xA (by first | decide | omega) (fj_xA (by first | decide | omega) (fj_xA (by first | decide | omega) jc_rf))))
theorem kj_F_X2_remember {N : Nat} {l1 : Int32} {u : CSt}  : KJ (F_X2_remember N l1 u) u := by
  unfold F_X2_remember
  exact kj_B_X2_remember_0.tr jc_rf
theorem kj_B_X2_comeBack_0 {N : Nat} {u : CSt}  : KJ (B_X2_comeBack_0 N u) u := by
  unfold B_X2_comeBack_0
  refine KJ_if ?_ ?_
  · skip
    refine KJ_pc ?_
    refine KJ_rd (fun _ => ?_)
    refine KJ_pc ?_
    refine KJ_rd (fun _ => ?_)
    refine KJ_pc ?_
    refine KJ_rd (fun _ => ?_)
    refine KJ_pc ?_
    exact KJ_some (fj_xI (by first | decide | omega) (fj_xI (by first | decide | omega) (fj_xI (by first | decide | omega) (fj_xI (by first | decide | omega) jc_rf))))
  · skip
    refine KJ_pc ?_
    exact KJ_some (fj_xI (by first | decide | omega) jc_rf)
theorem kj_F_X2_comeBack {N : Nat} {u : CSt}  : KJ (F_X2_comeBack N u) u := by
  unfold F_X2_comeBack
  exact kj_B_X2_comeBack_0.tr jc_rf
theorem kj_B_X2_enterFunction_52 {N : Nat} {R_52 : Nat × Int32 × Int32 × CSt → Option (Int32 × CSt)} {l1 : Nat} {l3 : Int32} {l4 : Int32} {u : CSt} (h_R_52 : ∀ a, KJ (R_52 a) a.2.2.2) : KJ (B_X2_enterFunction_52 N R_52 l1 l3 l4 u) u := by
  unfold B_X2_enterFunction_52
  refine KJ_if ?_ ?_
  · skip
    refine KJ_pc ?_
    exact KJ_some (fj_xI (by first | decide | omega) jc_rf)
  · skip
    refine KJ_ok ?_
    refine KJ_bc (kj_F_X6_local.tr jc_rf) (fun _ _ => ?_)
    refine KJ_ok ?_
    refine KJ_bc (kj_F_X2_fill.tr jc_rf) (fun _ _ => ?_)
    exact (h_R_52 _).tr jc_rf
theorem kj_LP_X2_enterFunction_52 {N : Nat}  (n : Nat) : ∀ a : Nat × Int32 × Int32 × CSt, KJ (LP_X2_enterFunction_52 N n a) a.2.2.2 := by
  induction n with
  | zero => exact fun a r z e => by have e : (none : Option _) = some (r, z) := e; cases e
  | succ n ih =>
    intro a
    show KJ (B_X2_enterFunction_52 N (LP_X2_enterFunction_52 N n) a.1 a.2.1 a.2.2.1 a.2.2.2) a.2.2.2
    exact kj_B_X2_enterFunction_52 ih
theorem kj_B_X2_enterFunction_0 {N : Nat} {l1 : Nat} {l2 : Int32} {u : CSt}  : KJ (B_X2_enterFunction_0 N l1 l2 u) u := by
  unfold B_X2_enterFunction_0
  refine KJ_if ?_ ?_
  · skip
    refine KJ_bc (kj_F_X2_remember.tr jc_rf) (fun _ _ => ?_)
    refine KJ_pc ?_
    refine KJ_pc ?_
    exact (kj_LP_X2_enterFunction_52  _ _).tr (fj_xI (by first | decide | omega) (fj_xI (by first | decide | omega) jc_rf))
  · skip
    refine KJ_bc (kj_F_X2_stop.tr jc_rf) (fun _ _ => ?_)
    exact KJ_some jc_rf
theorem kj_F_X2_enterFunction {N : Nat} {l1 : Nat} {l2 : Int32} {u : CSt}  : KJ (F_X2_enterFunction N l1 l2 u) u := by
  unfold F_X2_enterFunction
  exact kj_B_X2_enterFunction_0.tr jc_rf
theorem kj_B_X2_enterInstance_0 {N : Nat} {l1 : Nat} {l2 : Int32} {u : CSt}  : KJ (B_X2_enterInstance_0 N l1 l2 u) u := by
  unfold B_X2_enterInstance_0
  refine KJ_if ?_ ?_
  · skip
    refine KJ_bc (kj_F_X2_remember.tr jc_rf) (fun _ _ => ?_)
    refine KJ_pc ?_
    refine KJ_ok ?_
    refine KJ_bc (kj_F_X6_name.tr (fj_xI (by first | decide | omega) jc_rf)) (fun _ _ => ?_)
    refine KJ_ok ?_
    refine KJ_pc ?_
    exact KJ_some (fj_xI (by first | decide | omega) jc_rf)
  · skip
    refine KJ_bc (kj_F_X2_stop.tr jc_rf) (fun _ _ => ?_)
    exact KJ_some jc_rf
theorem kj_F_X2_enterInstance {N : Nat} {l1 : Nat} {l2 : Int32} {u : CSt}  : KJ (F_X2_enterInstance N l1 l2 u) u := by
  unfold F_X2_enterInstance
  exact kj_B_X2_enterInstance_0.tr jc_rf
theorem kj_B_X2_call_0 {N : Nat} {l1 : Int32} {l2 : Int32} {l3 : Int32} {u : CSt}  : KJ (B_X2_call_0 N l1 l2 l3 u) u := by
  unfold B_X2_call_0
  refine KJ_if ?_ ?_
  · skip
    refine KJ_ok ?_
    refine KJ_bc (kj_F_X6_name.tr jc_rf) (fun _ _ => ?_)
    refine KJ_ok ?_
    refine KJ_bc (kj_F_X2_enterFunction.tr jc_rf) (fun _ _ => ?_)
    exact KJ_some jc_rf
  · skip
    refine KJ_if ?_ ?_
    · skip
      refine KJ_ok ?_
      refine KJ_bc (kj_F_X6_name.tr jc_rf) (fun _ _ => ?_)
      refine KJ_ok ?_
      refine KJ_bc (kj_F_X2_enterInstance.tr jc_rf) (fun _ _ => ?_)
      exact KJ_some jc_rf
    · skip
      refine KJ_if ?_ ?_
      · skip
        refine KJ_bc (kj_F_X2_pop.tr jc_rf) (fun _ _ => ?_)
        refine KJ_bc (kj_F_X2_comeBack.tr jc_rf) (fun _ _ => ?_)
        refine KJ_bc (kj_F_X2_push.tr jc_rf) (fun _ _ => ?_)
        exact KJ_some jc_rf
      · skip
        refine KJ_if ?_ ?_
        · skip
          refine KJ_bc (kj_F_X2_comeBack.tr jc_rf) (fun _ _ => ?_)
          exact KJ_some jc_rf
        · skip
          refine KJ_bc (kj_F_X2_pop.tr jc_rf) (fun _ _ => ?_)
          refine KJ_pc ?_
          refine KJ_bc (kj_F_X2_stop.tr (fj_xI (by first | decide | omega) jc_rf)) (fun _ _ => ?_)
          exact KJ_some jc_rf
theorem kj_F_X2_call {N : Nat} {l1 : Int32} {l2 : Int32} {l3 : Int32} {u : CSt}  : KJ (F_X2_call N l1 l2 l3 u) u := by
  unfold F_X2_call
  exact kj_B_X2_call_0.tr jc_rf
theorem kj_B_X2_go_128 {N : Nat} {l1 : Int32} {l2 : Int32} {l3 : Int32} {l4 : Int32} {u : CSt}  : KJ (B_X2_go_128 N l1 l2 l3 l4 u) u := by
  unfold B_X2_go_128
  refine KJ_if ?_ ?_
  · skip
    refine KJ_if ?_ ?_
    · skip
      refine KJ_if ?_ ?_
      · skip
        refine KJ_bc (kj_F_X2_call.tr jc_rf) (fun _ _ => ?_)
        exact KJ_some jc_rf
      · skip
        refine KJ_bc (kj_F_X2_turn.tr jc_rf) (fun _ _ => ?_)
        exact KJ_some jc_rf
    · skip
      refine KJ_bc (kj_F_X2_reckon.tr jc_rf) (fun _ _ => ?_)
      exact KJ_some jc_rf
  · skip
    refine KJ_bc (kj_F_X2_move.tr jc_rf) (fun _ _ => ?_)
    exact KJ_some jc_rf
theorem kj_B_X2_go_0 {N : Nat} {u : CSt}  : KJ (B_X2_go_0 N u) u := by
  unfold B_X2_go_0
  refine KJ_if ?_ ?_
  · skip
    refine KJ_pc ?_
    exact KJ_some (fj_xI (by first | decide | omega) jc_rf)
  · skip
    refine KJ_ok ?_
    refine KJ_if ?_ ?_
    · skip
      refine KJ_rd (fun _ => ?_)
      refine KJ_rd (fun _ => ?_)
      refine KJ_rd (fun _ => ?_)
      refine KJ_rd (fun _ => ?_)
      refine KJ_pc ?_
      refine KJ_if ?_ ?_
      · skip
        exact kj_B_X2_go_128.tr (fj_xI (by first | decide | omega) jc_rf)
      · skip
        refine KJ_if ?_ ?_
        · skip
          refine KJ_pc ?_
          exact kj_B_X2_go_128.tr (fj_xI (by first | decide | omega) (fj_xI (by first | decide | omega) jc_rf))
        · skip
          refine KJ_bc (kj_F_X2_stop.tr (fj_xI (by first | decide | omega) jc_rf)) (fun _ _ => ?_)
          exact KJ_some jc_rf
    · skip
      refine KJ_pc ?_
      exact KJ_some (fj_xI (by first | decide | omega) jc_rf)
theorem kj_F_X2_go {N : Nat} {u : CSt}  : KJ (F_X2_go N u) u := by
  unfold F_X2_go
  exact kj_B_X2_go_0.tr jc_rf
theorem kj_B_X2_run_68 {N : Nat} {R_68 : Int32 × CSt → Option (Int32 × CSt)} {l5 : Int32} {u : CSt} (h_R_68 : ∀ a, KJ (R_68 a) a.2) : KJ (B_X2_run_68 N R_68 l5 u) u := by
  unfold B_X2_run_68
  refine KJ_if ?_ ?_
  · skip
    exact KJ_some jc_rf
  · skip
    refine KJ_if ?_ ?_
    · skip
      exact KJ_some jc_rf
    · skip
      refine KJ_bc (kj_F_X2_go.tr jc_rf) (fun _ _ => ?_)
      exact (h_R_68 _).tr jc_rf
theorem kj_LP_X2_run_68 {N : Nat}  (n : Nat) : ∀ a : Int32 × CSt, KJ (LP_X2_run_68 N n a) a.2 := by
  induction n with
  | zero => exact fun a r z e => by have e : (none : Option _) = some (r, z) := e; cases e
  | succ n ih =>
    intro a
    show KJ (B_X2_run_68 N (LP_X2_run_68 N n) a.1 a.2) a.2
    exact kj_B_X2_run_68 ih
theorem kj_B_X2_run_0 {N : Nat} {l1 : Nat} {l2 : Int32} {l3 : Int32} {l4 : Int32} {u : CSt}  : KJ (B_X2_run_0 N l1 l2 l3 l4 u) u := by
  unfold B_X2_run_0
  refine KJ_pc ?_
  refine KJ_pc ?_
  refine KJ_pc ?_
  refine KJ_pc ?_
  refine KJ_pc ?_
  refine KJ_pc ?_
  refine KJ_pc ?_
  refine KJ_pc ?_
  refine KJ_pc ?_
  refine KJ_pc ?_
  refine KJ_pc ?_
  refine KJ_pc ?_
  exact (kj_LP_X2_run_68  _ _).tr (fj_xI (by first | decide | omega) (fj_xI (by first | decide | omega) (fj_xI (by first | decide | omega) (fj_xI (by first | decide | omega) (fj_xI (by first | decide | omega) (fj_xI (by first | decide | omega) (fj_xI (by first | decide | omega) (fj_xI (by first | decide | omega) (fj_xI (by first | decide | omega) (fj_xI (by first | decide | omega) (fj_xI (by first | decide | omega) (fj_xR jc_rf))))))))))))
theorem kj_F_X2_run {N : Nat} {l1 : Nat} {l2 : Int32} {l3 : Int32} {l4 : Int32} {u : CSt}  : KJ (F_X2_run N l1 l2 l3 l4 u) u := by
  unfold F_X2_run
  exact kj_B_X2_run_0.tr jc_rf
theorem kj_B_X7_note_0 {N : Nat} {l0 : Nat} {l2 : Int32} {u : CSt}  : KJ (B_X7_note_0 N l0 l2 u) u := by
  unfold B_X7_note_0
  refine KJ_pc ?_
  refine KJ_pc ?_
  refine KJ_if ?_ ?_
  · skip
    exact KJ_some (fj_xtI (fj_xtI jc_rf))
  · skip
    refine KJ_pc ?_
    refine KJ_pc ?_
    refine KJ_pc ?_
    refine KJ_pc ?_
    refine KJ_pc ?_
    exact KJ_some (fj_xtI (fj_xtI (fj_xtI (fj_xtI (fj_xtI (fj_xtI (fj_xtI jc_rf)))))))
theorem kj_F_X7_note {N : Nat} {l0 : Nat} {l2 : Int32} {u : CSt}  : KJ (F_X7_note N l0 l2 u) u := by
  unfold F_X7_note
  exact kj_B_X7_note_0.tr jc_rf
theorem kj_B_X11_place_0 {N : Nat} {u : CSt}  : KJ (B_X11_place_0 N u) u := by
  unfold B_X11_place_0
  exact KJ_some jc_rf
theorem kj_F_X11_place {N : Nat} {u : CSt}  : KJ (F_X11_place N u) u := by
  unfold F_X11_place
  exact kj_B_X11_place_0.tr jc_rf
theorem kj_B_X11_hasPlace_0 {N : Nat} {l1 : Int32} {l2 : Int32} {u : CSt}  : KJ (B_X11_hasPlace_0 N l1 l2 u) u := by
  unfold B_X11_hasPlace_0
  refine KJ_ok ?_
  refine KJ_bc (kj_F_X6_has.tr jc_rf) (fun _ _ => ?_)
  refine KJ_if ?_ ?_
  · skip
    exact KJ_some jc_rf
  · skip
    refine KJ_if ?_ ?_
    · skip
      exact KJ_some jc_rf
    · skip
      refine KJ_ok ?_
      refine KJ_bc (kj_F_X6_nth.tr jc_rf) (fun _ _ => ?_)
      refine KJ_ok ?_
      refine KJ_if ?_ ?_
      · skip
        exact KJ_some jc_rf
      · skip
        exact KJ_some jc_rf
theorem kj_F_X11_hasPlace {N : Nat} {l1 : Int32} {l2 : Int32} {u : CSt}  : KJ (F_X11_hasPlace N l1 l2 u) u := by
  unfold F_X11_hasPlace
  exact kj_B_X11_hasPlace_0.tr jc_rf
theorem kj_B_X11_runTick_89 {N : Nat} {R_11 : Int32 × Int32 × CSt → Option (Int32 × CSt)} {l1 : Int32} {l2 : Int32} {u : CSt} (h_R_11 : ∀ a, KJ (R_11 a) a.2.2) : KJ (B_X11_runTick_89 N R_11 l1 l2 u) u := by
  unfold B_X11_runTick_89
  exact (h_R_11 _).tr jc_rf
theorem kj_B_X11_runTick_104 {N : Nat} {R_104 : Int32 × Int32 × CSt → Option (Int32 × CSt)} {l1 : Int32} {l2 : Int32} {u : CSt} (h_R_104 : ∀ a, KJ (R_104 a) a.2.2) : KJ (B_X11_runTick_104 N R_104 l1 l2 u) u := by
  unfold B_X11_runTick_104
  refine KJ_if ?_ ?_
  · skip
    refine KJ_pc ?_
    exact KJ_some (fj_xI (by first | decide | omega) jc_rf)
  · skip
    refine KJ_ok ?_
    refine KJ_rd (fun _ => ?_)
    refine KJ_bc (kj_F_X6_nth.tr jc_rf) (fun _ _ => ?_)
    refine KJ_ok ?_
    refine KJ_rd (fun _ => ?_)
    refine KJ_bc (kj_F_X2_numberOf.tr jc_rf) (fun _ _ => ?_)
    refine KJ_bc (kj_F_X10_see.tr jc_rf) (fun _ _ => ?_)
    exact (h_R_104 _).tr jc_rf
theorem kj_LP_X11_runTick_104 {N : Nat}  (n : Nat) : ∀ a : Int32 × Int32 × CSt, KJ (LP_X11_runTick_104 N n a) a.2.2 := by
  induction n with
  | zero => exact fun a r z e => by have e : (none : Option _) = some (r, z) := e; cases e
  | succ n ih =>
    intro a
    show KJ (B_X11_runTick_104 N (LP_X11_runTick_104 N n) a.1 a.2.1 a.2.2) a.2.2
    exact kj_B_X11_runTick_104 ih
theorem kj_B_X11_runTick_11 {N : Nat} {R_11 : Int32 × Int32 × CSt → Option (Int32 × CSt)} {l1 : Int32} {l2 : Int32} {u : CSt} (h_R_11 : ∀ a, KJ (R_11 a) a.2.2) : KJ (B_X11_runTick_11 N R_11 l1 l2 u) u := by
  unfold B_X11_runTick_11
  refine KJ_ok ?_
  refine KJ_bc (kj_F_X6_ofSort.tr jc_rf) (fun _ _ => ?_)
  refine KJ_if ?_ ?_
  · skip
    refine KJ_bc (kj_F_X1_giveOutputs.tr jc_rf) (fun _ _ => ?_)
    exact (kj_LP_X11_runTick_104  _ _).tr jc_rf
  · skip
    refine KJ_ok ?_
    refine KJ_ix ?_
    refine KJ_if ?_ ?_
    · skip
      refine KJ_bc (kj_F_X7_isDue.tr jc_rf) (fun _ _ => ?_)
      refine KJ_if ?_ ?_
      · skip
        exact (kj_B_X11_runTick_89 h_R_11).tr jc_rf
      · skip
        refine KJ_ok ?_
        refine KJ_bc (kj_F_X2_run.tr jc_rf) (fun _ _ => ?_)
        refine KJ_bc (kj_F_X7_note.tr jc_rf) (fun _ _ => ?_)
        exact (kj_B_X11_runTick_89 h_R_11).tr jc_rf
    · skip
      exact (kj_B_X11_runTick_89 h_R_11).tr jc_rf
theorem kj_LP_X11_runTick_11 {N : Nat}  (n : Nat) : ∀ a : Int32 × Int32 × CSt, KJ (LP_X11_runTick_11 N n a) a.2.2 := by
  induction n with
  | zero => exact fun a r z e => by have e : (none : Option _) = some (r, z) := e; cases e
  | succ n ih =>
    intro a
    show KJ (B_X11_runTick_11 N (LP_X11_runTick_11 N n) a.1 a.2.1 a.2.2) a.2.2
    exact kj_B_X11_runTick_11 ih
theorem kj_B_X11_runTick_0 {N : Nat} {u : CSt}  : KJ (B_X11_runTick_0 N u) u := by
  unfold B_X11_runTick_0
  refine KJ_bc (kj_F_X1_takeInputs.tr jc_rf) (fun _ _ => ?_)
  exact (kj_LP_X11_runTick_11  _ _).tr jc_rf
theorem kj_F_X11_runTick {N : Nat} {u : CSt}  : KJ (F_X11_runTick N u) u := by
  unfold F_X11_runTick
  exact kj_B_X11_runTick_0.tr jc_rf
theorem kj_B_X11_scan_25 {N : Nat} {R_25 : Int32 × Int32 × Int32 × CSt → Option ((Sum Nat Int32) × CSt)} {l1 : Int32} {l2 : Int32} {l3 : Int32} {u : CSt} (h_R_25 : ∀ a, KJ (R_25 a) a.2.2.2) : KJ (B_X11_scan_25 N R_25 l1 l2 l3 u) u := by
  unfold B_X11_scan_25
  refine KJ_if ?_ ?_
  · skip
    exact KJ_some jc_rf
  · skip
    refine KJ_bc (kj_F_X11_runTick.tr jc_rf) (fun _ _ => ?_)
    exact (h_R_25 _).tr jc_rf
theorem kj_LP_X11_scan_25 {N : Nat}  (n : Nat) : ∀ a : Int32 × Int32 × Int32 × CSt, KJ (LP_X11_scan_25 N n a) a.2.2.2 := by
  induction n with
  | zero => exact fun a r z e => by have e : (none : Option _) = some (r, z) := e; cases e
  | succ n ih =>
    intro a
    show KJ (B_X11_scan_25 N (LP_X11_scan_25 N n) a.1 a.2.1 a.2.2.1 a.2.2.2) a.2.2.2
    exact kj_B_X11_scan_25 ih
theorem kj_B_X11_scan_0 {N : Nat} {l1 : Int32} {u : CSt}  : KJ (B_X11_scan_0 N l1 u) u := by
  unfold B_X11_scan_0
  refine KJ_if ?_ ?_
  · skip
    exact KJ_some jc_rf
  · skip
    refine KJ_if ?_ ?_
    · skip
      exact (kj_LP_X11_scan_25  _ _).tr jc_rf
    · skip
      exact KJ_some jc_rf
theorem kj_F_X11_scan {N : Nat} {l1 : Int32} {u : CSt}  : KJ (F_X11_scan N l1 u) u := by
  unfold F_X11_scan
  exact kj_B_X11_scan_0.tr jc_rf
theorem kj_B_X11_power_50 {N : Nat} {R_2 : Int32 × CSt → Option (Int32 × CSt)} {l1 : Int32} {u : CSt} (h_R_2 : ∀ a, KJ (R_2 a) a.2) : KJ (B_X11_power_50 N R_2 l1 u) u := by
  unfold B_X11_power_50
  exact (h_R_2 _).tr jc_rf
theorem kj_B_X11_power_81 {N : Nat} {R_81 : Int32 × CSt → Option (Int32 × CSt)} {l1 : Int32} {u : CSt} (h_R_81 : ∀ a, KJ (R_81 a) a.2) : KJ (B_X11_power_81 N R_81 l1 u) u := by
  unfold B_X11_power_81
  refine KJ_ok ?_
  refine KJ_bc (kj_F_X6_ofSort.tr jc_rf) (fun _ _ => ?_)
  refine KJ_if ?_ ?_
  · skip
    exact KJ_some jc_rf
  · skip
    refine KJ_ok ?_
    refine KJ_ix ?_
    refine KJ_pc ?_
    exact (h_R_81 _).tr (fj_xtI jc_rf)
theorem kj_LP_X11_power_81 {N : Nat}  (n : Nat) : ∀ a : Int32 × CSt, KJ (LP_X11_power_81 N n a) a.2 := by
  induction n with
  | zero => exact fun a r z e => by have e : (none : Option _) = some (r, z) := e; cases e
  | succ n ih =>
    intro a
    show KJ (B_X11_power_81 N (LP_X11_power_81 N n) a.1 a.2) a.2
    exact kj_B_X11_power_81 ih
theorem kj_B_X11_power_2 {N : Nat} {R_2 : Int32 × CSt → Option (Int32 × CSt)} {l1 : Int32} {u : CSt} (h_R_2 : ∀ a, KJ (R_2 a) a.2) : KJ (B_X11_power_2 N R_2 l1 u) u := by
  unfold B_X11_power_2
  refine KJ_ok ?_
  refine KJ_bc (kj_F_X6_ofSort.tr jc_rf) (fun _ _ => ?_)
  refine KJ_if ?_ ?_
  · skip
    refine KJ_ok ?_
    refine KJ_bc (kj_F_X2_resetInstances.tr jc_rf) (fun _ _ => ?_)
    refine KJ_bc (kj_F_X1_wipe.tr jc_rf) (fun _ _ => ?_)
    refine KJ_pc ?_
    exact (kj_LP_X11_power_81  _ _).tr (fj_xI (by first | decide | omega) jc_rf)
  · skip
    refine KJ_ok ?_
    refine KJ_bc (kj_F_X6_nth.tr jc_rf) (fun _ _ => ?_)
    refine KJ_ok ?_
    refine KJ_if ?_ ?_
    · skip
      refine KJ_bc (kj_F_X2_fill.tr jc_rf) (fun _ _ => ?_)
      exact (kj_B_X11_power_50 h_R_2).tr jc_rf
    · skip
      exact (kj_B_X11_power_50 h_R_2).tr jc_rf
theorem kj_LP_X11_power_2 {N : Nat}  (n : Nat) : ∀ a : Int32 × CSt, KJ (LP_X11_power_2 N n a) a.2 := by
  induction n with
  | zero => exact fun a r z e => by have e : (none : Option _) = some (r, z) := e; cases e
  | succ n ih =>
    intro a
    show KJ (B_X11_power_2 N (LP_X11_power_2 N n) a.1 a.2) a.2
    exact kj_B_X11_power_2 ih
theorem kj_B_X11_power_0 {N : Nat} {u : CSt}  : KJ (B_X11_power_0 N u) u := by
  unfold B_X11_power_0
  exact (kj_LP_X11_power_2  _ _).tr jc_rf
theorem kj_F_X11_power {N : Nat} {u : CSt}  : KJ (F_X11_power N u) u := by
  unfold F_X11_power
  exact kj_B_X11_power_0.tr jc_rf
theorem kj_B_X11_input_0 {N : Nat} {l1 : Int32} {l2 : Int32} {u : CSt}  : KJ (B_X11_input_0 N l1 l2 u) u := by
  unfold B_X11_input_0
  refine KJ_if ?_ ?_
  · skip
    exact KJ_some jc_rf
  · skip
    refine KJ_if ?_ ?_
    · skip
      refine KJ_ix ?_
      refine KJ_wc ?_
      exact KJ_some (fj_xA (by first | decide | omega) jc_rf)
    · skip
      exact KJ_some jc_rf
theorem kj_F_X11_input {N : Nat} {l1 : Int32} {l2 : Int32} {u : CSt}  : KJ (F_X11_input N l1 l2 u) u := by
  unfold F_X11_input
  exact kj_B_X11_input_0.tr jc_rf
theorem kj_B_X11_look_0 {N : Nat} {l1 : Int32} {l2 : Int32} {u : CSt}  : KJ (B_X11_look_0 N l1 l2 u) u := by
  unfold B_X11_look_0
  refine KJ_if ?_ ?_
  · skip
    exact KJ_some jc_rf
  · skip
    refine KJ_if ?_ ?_
    · skip
      refine KJ_if ?_ ?_
      · skip
        exact KJ_some jc_rf
      · skip
        refine KJ_if ?_ ?_
        · skip
          refine KJ_ix ?_
          refine KJ_rd (fun _ => ?_)
          exact KJ_some jc_rf
        · skip
          exact KJ_some jc_rf
    · skip
      exact KJ_some jc_rf
theorem kj_F_X11_look {N : Nat} {l1 : Int32} {l2 : Int32} {u : CSt}  : KJ (F_X11_look N l1 l2 u) u := by
  unfold F_X11_look
  exact kj_B_X11_look_0.tr jc_rf
theorem kj_B_X11_force_62 {N : Nat} {l2 : Int32} {l3 : Int32} {l4 : Int32} {s1 : Int32} {u : CSt}  : KJ (B_X11_force_62 N l2 l3 l4 s1 u) u := by
  unfold B_X11_force_62
  refine KJ_ix ?_
  refine KJ_wc ?_
  exact KJ_some (fj_xA (by first | decide | omega) jc_rf)
theorem kj_B_X11_force_36 {N : Nat} {l1 : Int32} {l2 : Int32} {l3 : Int32} {l4 : Int32} {s1 : Int32} {u : CSt}  : KJ (B_X11_force_36 N l1 l2 l3 l4 s1 u) u := by
  unfold B_X11_force_36
  refine KJ_ix ?_
  refine KJ_wc ?_
  refine KJ_if ?_ ?_
  · skip
    exact kj_B_X11_force_62.tr (fj_xA (by first | decide | omega) jc_rf)
  · skip
    exact kj_B_X11_force_62.tr (fj_xA (by first | decide | omega) jc_rf)
theorem kj_B_X11_force_0 {N : Nat} {l1 : Int32} {l2 : Int32} {l3 : Int32} {l4 : Int32} {u : CSt}  : KJ (B_X11_force_0 N l1 l2 l3 l4 u) u := by
  unfold B_X11_force_0
  refine KJ_if ?_ ?_
  · skip
    exact KJ_some jc_rf
  · skip
    refine KJ_if ?_ ?_
    · skip
      refine KJ_if ?_ ?_
      · skip
        exact kj_B_X11_force_36.tr jc_rf
      · skip
        exact kj_B_X11_force_36.tr jc_rf
    · skip
      exact KJ_some jc_rf
theorem kj_F_X11_force {N : Nat} {l1 : Int32} {l2 : Int32} {l3 : Int32} {l4 : Int32} {u : CSt}  : KJ (F_X11_force N l1 l2 l3 l4 u) u := by
  unfold F_X11_force
  exact kj_B_X11_force_0.tr jc_rf
theorem kj_B_X11_watchdog_0 {N : Nat} {l1 : Int32} {u : CSt}  : KJ (B_X11_watchdog_0 N l1 u) u := by
  unfold B_X11_watchdog_0
  refine KJ_if ?_ ?_
  · skip
    exact KJ_some jc_rf
  · skip
    refine KJ_if ?_ ?_
    · skip
      refine KJ_pc ?_
      exact KJ_some (fj_xI (by first | decide | omega) jc_rf)
    · skip
      exact KJ_some jc_rf
theorem kj_F_X11_watchdog {N : Nat} {l1 : Int32} {u : CSt}  : KJ (F_X11_watchdog N l1 u) u := by
  unfold F_X11_watchdog
  exact kj_B_X11_watchdog_0.tr jc_rf
theorem kj_B_X11_clear_0 {N : Nat} {l1 : Int32} {u : CSt}  : KJ (B_X11_clear_0 N l1 u) u := by
  unfold B_X11_clear_0
  refine KJ_ok ?_
  refine KJ_bc (kj_F_X6_has.tr jc_rf) (fun _ _ => ?_)
  refine KJ_if ?_ ?_
  · skip
    exact KJ_some jc_rf
  · skip
    refine KJ_ok ?_
    refine KJ_ix ?_
    refine KJ_ix ?_
    refine KJ_pc ?_
    refine KJ_zr ?_
    exact KJ_some (fj_xtI jc_rf)
theorem kj_F_X11_clear {N : Nat} {l1 : Int32} {u : CSt}  : KJ (F_X11_clear N l1 u) u := by
  unfold F_X11_clear
  exact kj_B_X11_clear_0.tr jc_rf
theorem kj_B_X11_task_0 {N : Nat} {l1 : Int32} {l2 : Int32} {u : CSt}  : KJ (B_X11_task_0 N l1 l2 u) u := by
  unfold B_X11_task_0
  refine KJ_ok ?_
  refine KJ_bc (kj_F_X6_has.tr jc_rf) (fun _ _ => ?_)
  refine KJ_if ?_ ?_
  · skip
    exact KJ_some jc_rf
  · skip
    refine KJ_ok ?_
    refine KJ_ix ?_
    refine KJ_if ?_ ?_
    · skip
      exact KJ_some jc_rf
    · skip
      refine KJ_if ?_ ?_
      · skip
        exact KJ_some jc_rf
      · skip
        refine KJ_if ?_ ?_
        · skip
          refine KJ_if ?_ ?_
          · skip
            exact KJ_some jc_rf
          · skip
            exact KJ_some jc_rf
        · skip
          refine KJ_if ?_ ?_
          · skip
            exact KJ_some jc_rf
          · skip
            refine KJ_if ?_ ?_
            · skip
              exact KJ_some jc_rf
            · skip
              refine KJ_if ?_ ?_
              · skip
                exact KJ_some jc_rf
              · skip
                refine KJ_if ?_ ?_
                · skip
                  exact KJ_some jc_rf
                · skip
                  refine KJ_if ?_ ?_
                  · skip
                    exact KJ_some jc_rf
                  · skip
                    refine KJ_if ?_ ?_
                    · skip
                      exact KJ_some jc_rf
                    · skip
                      exact KJ_some jc_rf
theorem kj_F_X11_task {N : Nat} {l1 : Int32} {l2 : Int32} {u : CSt}  : KJ (F_X11_task N l1 l2 u) u := by
  unfold F_X11_task
  exact kj_B_X11_task_0.tr jc_rf
theorem kj_B_X11_value_0 {N : Nat} {l1 : Int32} {l2 : Int32} {u : CSt}  : KJ (B_X11_value_0 N l1 l2 u) u := by
  unfold B_X11_value_0
  refine KJ_bc (kj_F_X11_hasPlace.tr jc_rf) (fun _ _ => ?_)
  refine KJ_if ?_ ?_
  · skip
    exact KJ_some jc_rf
  · skip
    refine KJ_ok ?_
    refine KJ_bc (kj_F_X6_nth.tr jc_rf) (fun _ _ => ?_)
    refine KJ_ok ?_
    refine KJ_bc (kj_F_X2_numberOf.tr jc_rf) (fun _ _ => ?_)
    exact KJ_some jc_rf
theorem kj_F_X11_value {N : Nat} {l1 : Int32} {l2 : Int32} {u : CSt}  : KJ (F_X11_value N l1 l2 u) u := by
  unfold F_X11_value
  exact kj_B_X11_value_0.tr jc_rf
theorem kj_B_X11_poke_0 {N : Nat} {l1 : Int32} {l2 : Int32} {l3 : Int64} {u : CSt}  : KJ (B_X11_poke_0 N l1 l2 l3 u) u := by
  unfold B_X11_poke_0
  refine KJ_bc (kj_F_X11_hasPlace.tr jc_rf) (fun _ _ => ?_)
  refine KJ_if ?_ ?_
  · skip
    exact KJ_some jc_rf
  · skip
    refine KJ_ok ?_
    refine KJ_bc (kj_F_X6_nth.tr jc_rf) (fun _ _ => ?_)
    refine KJ_ok ?_
    refine KJ_if ?_ ?_
    · skip
      exact KJ_some jc_rf
    · skip
      refine KJ_bc (kj_F_X2_change.tr jc_rf) (fun _ _ => ?_)
      refine KJ_bc (kj_F_X2_numberOf.tr jc_rf) (fun _ _ => ?_)
      exact KJ_some jc_rf
theorem kj_F_X11_poke {N : Nat} {l1 : Int32} {l2 : Int32} {l3 : Int64} {u : CSt}  : KJ (F_X11_poke N l1 l2 l3 u) u := by
  unfold F_X11_poke
  exact kj_B_X11_poke_0.tr jc_rf
theorem kj_B_X11_variable_0 {N : Nat} {l1 : Int32} {l2 : Int32} {u : CSt}  : KJ (B_X11_variable_0 N l1 l2 u) u := by
  unfold B_X11_variable_0
  refine KJ_ok ?_
  refine KJ_bc (kj_F_X6_has.tr jc_rf) (fun _ _ => ?_)
  refine KJ_if ?_ ?_
  · skip
    exact KJ_some jc_rf
  · skip
    refine KJ_ok ?_
    refine KJ_bc (kj_F_X6_nth.tr jc_rf) (fun _ _ => ?_)
    refine KJ_ok ?_
    refine KJ_if ?_ ?_
    · skip
      exact KJ_some jc_rf
    · skip
      refine KJ_if ?_ ?_
      · skip
        exact KJ_some jc_rf
      · skip
        refine KJ_if ?_ ?_
        · skip
          exact KJ_some jc_rf
        · skip
          refine KJ_if ?_ ?_
          · skip
            refine KJ_if ?_ ?_
            · skip
              exact KJ_some jc_rf
            · skip
              exact KJ_some jc_rf
          · skip
            refine KJ_if ?_ ?_
            · skip
              refine KJ_bc (kj_F_X4_isPlaced.tr jc_rf) (fun _ _ => ?_)
              refine KJ_if ?_ ?_
              · skip
                exact KJ_some jc_rf
              · skip
                exact KJ_some jc_rf
            · skip
              exact KJ_some jc_rf
theorem kj_F_X11_variable {N : Nat} {l1 : Int32} {l2 : Int32} {u : CSt}  : KJ (F_X11_variable N l1 l2 u) u := by
  unfold F_X11_variable
  exact kj_B_X11_variable_0.tr jc_rf
theorem kj_B_X11_field_0 {N : Nat} {l1 : Int32} {l2 : Int32} {l3 : Int32} {u : CSt}  : KJ (B_X11_field_0 N l1 l2 l3 u) u := by
  unfold B_X11_field_0
  refine KJ_ok ?_
  refine KJ_bc (kj_F_X6_has.tr jc_rf) (fun _ _ => ?_)
  refine KJ_if ?_ ?_
  · skip
    exact KJ_some jc_rf
  · skip
    refine KJ_ok ?_
    refine KJ_bc (kj_F_X6_nth.tr jc_rf) (fun _ _ => ?_)
    refine KJ_ok ?_
    refine KJ_ok ?_
    refine KJ_bc (kj_F_X6_name.tr jc_rf) (fun _ _ => ?_)
    refine KJ_ok ?_
    refine KJ_bc (kj_F_X6_local.tr jc_rf) (fun _ _ => ?_)
    refine KJ_ok ?_
    refine KJ_if ?_ ?_
    · skip
      exact KJ_some jc_rf
    · skip
      refine KJ_if ?_ ?_
      · skip
        exact KJ_some jc_rf
      · skip
        refine KJ_if ?_ ?_
        · skip
          refine KJ_bc (kj_F_X2_numberAt.tr jc_rf) (fun _ _ => ?_)
          exact KJ_some jc_rf
        · skip
          exact KJ_some jc_rf
theorem kj_F_X11_field {N : Nat} {l1 : Int32} {l2 : Int32} {l3 : Int32} {u : CSt}  : KJ (F_X11_field N l1 l2 l3 u) u := by
  unfold F_X11_field
  exact kj_B_X11_field_0.tr jc_rf
theorem kj_B_X11_find_0 {N : Nat} {l1 : Int32} {u : CSt}  : KJ (B_X11_find_0 N l1 u) u := by
  unfold B_X11_find_0
  refine KJ_if ?_ ?_
  · skip
    exact KJ_some jc_rf
  · skip
    refine KJ_if ?_ ?_
    · skip
      refine KJ_bc (kj_F_X9_isWord.tr jc_rf) (fun _ _ => ?_)
      refine KJ_if ?_ ?_
      · skip
        exact KJ_some jc_rf
      · skip
        refine KJ_ok ?_
        refine KJ_bc (kj_F_X9_wordHead.tr jc_rf) (fun _ _ => ?_)
        refine KJ_bc (kj_F_X9_wordTail.tr jc_rf) (fun _ _ => ?_)
        refine KJ_bc (kj_F_X6_ofText.tr jc_rf) (fun _ _ => ?_)
        refine KJ_ok ?_
        refine KJ_if ?_ ?_
        · skip
          exact KJ_some jc_rf
        · skip
          exact KJ_some jc_rf
    · skip
      exact KJ_some jc_rf
theorem kj_F_X11_find {N : Nat} {l1 : Int32} {u : CSt}  : KJ (F_X11_find N l1 u) u := by
  unfold F_X11_find
  exact kj_B_X11_find_0.tr jc_rf
theorem kj_B_X11_trace_75 {N : Nat} {l1 : Int32} {l2 : Int32} {l3 : Int32} {l4 : Int32} {s0 : Int32} {s1 : Int32} {u : CSt}  : KJ (B_X11_trace_75 N l1 l2 l3 l4 s0 s1 u) u := by
  unfold B_X11_trace_75
  refine KJ_if ?_ ?_
  · skip
    exact KJ_some jc_rf
  · skip
    refine KJ_if ?_ ?_
    · skip
      refine KJ_bc (kj_F_X10_leave.tr jc_rf) (fun _ _ => ?_)
      exact KJ_some jc_rf
    · skip
      refine KJ_ok ?_
      refine KJ_bc (kj_F_X6_nth.tr jc_rf) (fun _ _ => ?_)
      refine KJ_ok ?_
      refine KJ_bc (kj_F_X2_numberOf.tr jc_rf) (fun _ _ => ?_)
      refine KJ_bc (kj_F_X10_begin.tr jc_rf) (fun _ _ => ?_)
      exact KJ_some jc_rf
theorem kj_B_X11_trace_63 {N : Nat} {l1 : Int32} {l2 : Int32} {l3 : Int32} {l4 : Int32} {u : CSt}  : KJ (B_X11_trace_63 N l1 l2 l3 l4 u) u := by
  unfold B_X11_trace_63
  refine KJ_if ?_ ?_
  · skip
    exact kj_B_X11_trace_75.tr jc_rf
  · skip
    exact kj_B_X11_trace_75.tr jc_rf
theorem kj_B_X11_trace_0 {N : Nat} {l1 : Int32} {l2 : Int32} {l3 : Int32} {u : CSt}  : KJ (B_X11_trace_0 N l1 l2 l3 u) u := by
  unfold B_X11_trace_0
  refine KJ_bc (kj_F_X11_hasPlace.tr jc_rf) (fun _ _ => ?_)
  refine KJ_if ?_ ?_
  · skip
    exact KJ_some jc_rf
  · skip
    refine KJ_bc (kj_F_X10_indexOf.tr jc_rf) (fun _ _ => ?_)
    refine KJ_if ?_ ?_
    · skip
      exact kj_B_X11_trace_63.tr jc_rf
    · skip
      refine KJ_if ?_ ?_
      · skip
        refine KJ_if ?_ ?_
        · skip
          exact kj_B_X11_trace_63.tr jc_rf
        · skip
          exact KJ_some jc_rf
      · skip
        exact kj_B_X11_trace_63.tr jc_rf
theorem kj_F_X11_trace {N : Nat} {l1 : Int32} {l2 : Int32} {l3 : Int32} {u : CSt}  : KJ (F_X11_trace N l1 l2 l3 u) u := by
  unfold F_X11_trace
  exact kj_B_X11_trace_0.tr jc_rf
theorem kj_B_X11_event_0 {N : Nat} {l1 : Int32} {l2 : Int32} {u : CSt}  : KJ (B_X11_event_0 N l1 l2 u) u := by
  unfold B_X11_event_0
  refine KJ_if ?_ ?_
  · skip
    exact KJ_some jc_rf
  · skip
    refine KJ_if ?_ ?_
    · skip
      refine KJ_bc (kj_F_X10_latest.tr jc_rf) (fun _ _ => ?_)
      refine KJ_if ?_ ?_
      · skip
        refine KJ_rd (fun _ => ?_)
        exact KJ_some jc_rf
      · skip
        refine KJ_if ?_ ?_
        · skip
          refine KJ_rd (fun _ => ?_)
          exact KJ_some jc_rf
        · skip
          refine KJ_if ?_ ?_
          · skip
            refine KJ_rd (fun _ => ?_)
            exact KJ_some jc_rf
          · skip
            refine KJ_if ?_ ?_
            · skip
              refine KJ_rd (fun _ => ?_)
              exact KJ_some jc_rf
            · skip
              exact KJ_some jc_rf
    · skip
      exact KJ_some jc_rf
theorem kj_F_X11_event {N : Nat} {l1 : Int32} {l2 : Int32} {u : CSt}  : KJ (F_X11_event N l1 l2 u) u := by
  unfold F_X11_event
  exact kj_B_X11_event_0.tr jc_rf
theorem kj_B_X11_count_0 {N : Nat} {l1 : Int32} {u : CSt}  : KJ (B_X11_count_0 N l1 u) u := by
  unfold B_X11_count_0
  refine KJ_if ?_ ?_
  · skip
    refine KJ_ok ?_
    refine KJ_bc (kj_F_X6_ofSort.tr jc_rf) (fun _ _ => ?_)
    exact KJ_some jc_rf
  · skip
    refine KJ_if ?_ ?_
    · skip
      refine KJ_ok ?_
      refine KJ_bc (kj_F_X6_ofSort.tr jc_rf) (fun _ _ => ?_)
      exact KJ_some jc_rf
    · skip
      refine KJ_if ?_ ?_
      · skip
        refine KJ_ok ?_
        refine KJ_bc (kj_F_X6_ofSort.tr jc_rf) (fun _ _ => ?_)
        exact KJ_some jc_rf
      · skip
        refine KJ_if ?_ ?_
        · skip
          refine KJ_ok ?_
          refine KJ_bc (kj_F_X6_ofSort.tr jc_rf) (fun _ _ => ?_)
          exact KJ_some jc_rf
        · skip
          refine KJ_if ?_ ?_
          · skip
            refine KJ_ok ?_
            refine KJ_bc (kj_F_X6_ofSort.tr jc_rf) (fun _ _ => ?_)
            exact KJ_some jc_rf
          · skip
            refine KJ_if ?_ ?_
            · skip
              exact KJ_some jc_rf
            · skip
              refine KJ_if ?_ ?_
              · skip
                refine KJ_ok ?_
                refine KJ_bc (kj_F_X6_stoppedTasks.tr jc_rf) (fun _ _ => ?_)
                exact KJ_some jc_rf
              · skip
                refine KJ_if ?_ ?_
                · skip
                  exact KJ_some jc_rf
                · skip
                  refine KJ_if ?_ ?_
                  · skip
                    exact KJ_some jc_rf
                  · skip
                    refine KJ_if ?_ ?_
                    · skip
                      exact KJ_some jc_rf
                    · skip
                      refine KJ_if ?_ ?_
                      · skip
                        exact KJ_some jc_rf
                      · skip
                        exact KJ_some jc_rf
theorem kj_F_X11_count {N : Nat} {l1 : Int32} {u : CSt}  : KJ (F_X11_count N l1 u) u := by
  unfold F_X11_count
  exact kj_B_X11_count_0.tr jc_rf
theorem kj_B_X11_sum_30 {N : Nat} {R_4 : Int64 × Int32 × CSt → Option (Int64 × CSt)} {R_30 : Int64 × Int32 × Nat × Int32 × CSt → Option (Int64 × CSt)} {l1 : Int64} {l3 : Int32} {l4 : Nat} {l5 : Int32} {u : CSt} (h_R_4 : ∀ a, KJ (R_4 a) a.2.2) (h_R_30 : ∀ a, KJ (R_30 a) a.2.2.2.2) : KJ (B_X11_sum_30 N R_4 R_30 l1 l3 l4 l5 u) u := by
  unfold B_X11_sum_30
  refine KJ_if ?_ ?_
  · skip
    exact (h_R_4 _).tr jc_rf
  · skip
    refine KJ_bc (kj_F_X2_numberOf.tr jc_rf) (fun _ _ => ?_)
    exact (h_R_30 _).tr jc_rf
theorem kj_LP_X11_sum_30 {N : Nat} {R_4 : Int64 × Int32 × CSt → Option (Int64 × CSt)} (h_R_4 : ∀ a, KJ (R_4 a) a.2.2) (n : Nat) : ∀ a : Int64 × Int32 × Nat × Int32 × CSt, KJ (LP_X11_sum_30 N R_4 n a) a.2.2.2.2 := by
  induction n with
  | zero => exact fun a r z e => by have e : (none : Option _) = some (r, z) := e; cases e
  | succ n ih =>
    intro a
    show KJ (B_X11_sum_30 N R_4 (LP_X11_sum_30 N R_4 n) a.1 a.2.1 a.2.2.1 a.2.2.2.1 a.2.2.2.2) a.2.2.2.2
    exact kj_B_X11_sum_30 h_R_4 ih
theorem kj_B_X11_sum_115 {N : Nat} {R_72 : Int64 × Int32 × CSt → Option (Int64 × CSt)} {R_115 : Int64 × Int32 × Nat × Int32 × Int32 × CSt → Option (Int64 × CSt)} {l1 : Int64} {l3 : Int32} {l4 : Nat} {l5 : Int32} {l6 : Int32} {u : CSt} (h_R_72 : ∀ a, KJ (R_72 a) a.2.2) (h_R_115 : ∀ a, KJ (R_115 a) a.2.2.2.2.2) : KJ (B_X11_sum_115 N R_72 R_115 l1 l3 l4 l5 l6 u) u := by
  unfold B_X11_sum_115
  refine KJ_if ?_ ?_
  · skip
    exact (h_R_72 _).tr jc_rf
  · skip
    refine KJ_bc (kj_F_X2_numberAt.tr jc_rf) (fun _ _ => ?_)
    exact (h_R_115 _).tr jc_rf
theorem kj_LP_X11_sum_115 {N : Nat} {R_72 : Int64 × Int32 × CSt → Option (Int64 × CSt)} (h_R_72 : ∀ a, KJ (R_72 a) a.2.2) (n : Nat) : ∀ a : Int64 × Int32 × Nat × Int32 × Int32 × CSt, KJ (LP_X11_sum_115 N R_72 n a) a.2.2.2.2.2 := by
  induction n with
  | zero => exact fun a r z e => by have e : (none : Option _) = some (r, z) := e; cases e
  | succ n ih =>
    intro a
    show KJ (B_X11_sum_115 N R_72 (LP_X11_sum_115 N R_72 n) a.1 a.2.1 a.2.2.1 a.2.2.2.1 a.2.2.2.2.1 a.2.2.2.2.2) a.2.2.2.2.2
    exact kj_B_X11_sum_115 h_R_72 ih
theorem kj_B_X11_sum_72 {N : Nat} {R_72 : Int64 × Int32 × CSt → Option (Int64 × CSt)} {l1 : Int64} {l3 : Int32} {u : CSt} (h_R_72 : ∀ a, KJ (R_72 a) a.2.2) : KJ (B_X11_sum_72 N R_72 l1 l3 u) u := by
  unfold B_X11_sum_72
  refine KJ_ok ?_
  refine KJ_bc (kj_F_X6_ofSort.tr jc_rf) (fun _ _ => ?_)
  refine KJ_if ?_ ?_
  · skip
    exact KJ_some jc_rf
  · skip
    refine KJ_ok ?_
    refine KJ_bc (kj_F_X6_nth.tr jc_rf) (fun _ _ => ?_)
    refine KJ_ok ?_
    refine KJ_ok ?_
    refine KJ_bc (kj_F_X6_name.tr jc_rf) (fun _ _ => ?_)
    refine KJ_ok ?_
    exact (kj_LP_X11_sum_115 h_R_72 _ _).tr jc_rf
theorem kj_LP_X11_sum_72 {N : Nat}  (n : Nat) : ∀ a : Int64 × Int32 × CSt, KJ (LP_X11_sum_72 N n a) a.2.2 := by
  induction n with
  | zero => exact fun a r z e => by have e : (none : Option _) = some (r, z) := e; cases e
  | succ n ih =>
    intro a
    show KJ (B_X11_sum_72 N (LP_X11_sum_72 N n) a.1 a.2.1 a.2.2) a.2.2
    exact kj_B_X11_sum_72 ih
theorem kj_B_X11_sum_4 {N : Nat} {R_4 : Int64 × Int32 × CSt → Option (Int64 × CSt)} {l1 : Int64} {l3 : Int32} {u : CSt} (h_R_4 : ∀ a, KJ (R_4 a) a.2.2) : KJ (B_X11_sum_4 N R_4 l1 l3 u) u := by
  unfold B_X11_sum_4
  refine KJ_ok ?_
  refine KJ_bc (kj_F_X6_ofSort.tr jc_rf) (fun _ _ => ?_)
  refine KJ_if ?_ ?_
  · skip
    exact (kj_LP_X11_sum_72  _ _).tr jc_rf
  · skip
    refine KJ_ok ?_
    refine KJ_bc (kj_F_X6_nth.tr jc_rf) (fun _ _ => ?_)
    refine KJ_ok ?_
    exact (kj_LP_X11_sum_30 h_R_4 _ _).tr jc_rf
theorem kj_LP_X11_sum_4 {N : Nat}  (n : Nat) : ∀ a : Int64 × Int32 × CSt, KJ (LP_X11_sum_4 N n a) a.2.2 := by
  induction n with
  | zero => exact fun a r z e => by have e : (none : Option _) = some (r, z) := e; cases e
  | succ n ih =>
    intro a
    show KJ (B_X11_sum_4 N (LP_X11_sum_4 N n) a.1 a.2.1 a.2.2) a.2.2
    exact kj_B_X11_sum_4 ih
theorem kj_B_X11_sum_0 {N : Nat} {u : CSt}  : KJ (B_X11_sum_0 N u) u := by
  unfold B_X11_sum_0
  exact (kj_LP_X11_sum_4  _ _).tr jc_rf
theorem kj_F_X11_sum {N : Nat} {u : CSt}  : KJ (F_X11_sum N u) u := by
  unfold F_X11_sum
  exact kj_B_X11_sum_0.tr jc_rf
theorem kj_B_X11_cut_0 {N : Nat} {l1 : Int32} {l2 : Int64} {u : CSt}  : KJ (B_X11_cut_0 N l1 l2 u) u := by
  unfold B_X11_cut_0
  refine KJ_if ?_ ?_
  · skip
    exact KJ_some jc_rf
  · skip
    exact KJ_some jc_rf
theorem kj_F_X11_cut {N : Nat} {l1 : Int32} {l2 : Int64} {u : CSt}  : KJ (F_X11_cut N l1 l2 u) u := by
  unfold F_X11_cut
  exact kj_B_X11_cut_0.tr jc_rf
theorem kj_B_X11_work_68 {N : Nat} {l1 : Int32} {l2 : Int32} {l3 : Int32} {l4 : Int64} {l8 : Int64} {u : CSt}  : KJ (B_X11_work_68 N l1 l2 l3 l4 l8 u) u := by
  unfold B_X11_work_68
  exact KJ_some jc_rf
theorem kj_B_X11_work_0 {N : Nat} {l1 : Int32} {l2 : Int32} {l3 : Int32} {l4 : Int64} {l6 : Int64} {u : CSt}  : KJ (B_X11_work_0 N l1 l2 l3 l4 l6 u) u := by
  unfold B_X11_work_0
  refine KJ_if ?_ ?_
  · skip
    exact KJ_some jc_rf
  · skip
    refine KJ_if ?_ ?_
    · skip
      exact KJ_some jc_rf
    · skip
      refine KJ_if ?_ ?_
      · skip
        exact KJ_some jc_rf
      · skip
        refine KJ_if ?_ ?_
        · skip
          refine KJ_if ?_ ?_
          · skip
            refine KJ_if ?_ ?_
            · skip
              exact kj_B_X11_work_68.tr jc_rf
            · skip
              exact KJ_some jc_rf
          · skip
            exact kj_B_X11_work_68.tr jc_rf
        · skip
          exact KJ_some jc_rf
theorem kj_F_X11_work {N : Nat} {l1 : Int32} {l2 : Int32} {l3 : Int32} {l4 : Int64} {l6 : Int64} {u : CSt}  : KJ (F_X11_work N l1 l2 l3 l4 l6 u) u := by
  unfold F_X11_work
  exact kj_B_X11_work_0.tr jc_rf
theorem kj_B_X11_tell_46 {N : Nat} {l2 : Int32} {l3 : Int32} {l4 : Int64} {l6 : Int64} {s0 : Int32} {s1 : Int32} {u : CSt}  : KJ (B_X11_tell_46 N l2 l3 l4 l6 s0 s1 u) u := by
  unfold B_X11_tell_46
  exact KJ_some jc_rf
theorem kj_B_X11_tell_0 {N : Nat} {l1 : Int32} {l2 : Int32} {l3 : Int32} {l4 : Int64} {l6 : Int64} {u : CSt}  : KJ (B_X11_tell_0 N l1 l2 l3 l4 l6 u) u := by
  unfold B_X11_tell_0
  refine KJ_if ?_ ?_
  · skip
    exact KJ_some jc_rf
  · skip
    refine KJ_if ?_ ?_
    · skip
      exact KJ_some jc_rf
    · skip
      refine KJ_if ?_ ?_
      · skip
        exact KJ_some jc_rf
      · skip
        refine KJ_if ?_ ?_
        · skip
          refine KJ_if ?_ ?_
          · skip
            exact kj_B_X11_tell_46.tr jc_rf
          · skip
            exact kj_B_X11_tell_46.tr jc_rf
        · skip
          exact KJ_some jc_rf
theorem kj_F_X11_tell {N : Nat} {l1 : Int32} {l2 : Int32} {l3 : Int32} {l4 : Int64} {l6 : Int64} {u : CSt}  : KJ (F_X11_tell N l1 l2 l3 l4 l6 u) u := by
  unfold F_X11_tell
  exact kj_B_X11_tell_0.tr jc_rf
theorem kj_B_X11_install_0 {N : Nat} {l1 : Int32} {u : CSt}  : KJ (B_X11_install_0 N l1 u) u := by
  unfold B_X11_install_0
  refine KJ_ok ?_
  refine KJ_ok ?_
  refine KJ_pc ?_
  refine KJ_pc ?_
  refine KJ_ok ?_
  refine KJ_bc (kj_F_X2_install.tr (fj_xR (fj_xR jc_rf))) (fun _ _ => ?_)
  refine KJ_bc (kj_F_X10_forget.tr jc_rf) (fun _ _ => ?_)
  refine KJ_if ?_ ?_
  · skip
    refine KJ_bc (kj_F_X1_wipe.tr jc_rf) (fun _ _ => ?_)
    refine KJ_pc ?_
    exact KJ_some (fj_xI (by first | decide | omega) jc_rf)
  · skip
    exact KJ_some jc_rf
theorem kj_F_X11_install {N : Nat} {l1 : Int32} {u : CSt}  : KJ (F_X11_install N l1 u) u := by
  unfold F_X11_install
  exact kj_B_X11_install_0.tr jc_rf
