/-! What making code leaves as it is in the class: the number of bytes fed. -/
def KCw {β : Type} (x : Option (β × CSt)) (u : CSt) : Prop := ∀ r w, x = some (r, w) → w.1 0 = u.1 0
section KCs
variable {α β γ : Type} {u w : CSt}
theorem KCw.tr {x : Option (β × CSt)} (hx : KCw x w) (h : w.1 0 = u.1 0) : KCw x u := fun r z e => (hx r z e).trans h
theorem fc_xI {k : Nat} {v : Int32} (hk : k ≠ 0) (h : w.1 0 = u.1 0) : (xI w k v).1 0 = u.1 0 := by
  show (if 0 = k then v else w.1 0) = u.1 0
  rw [if_neg (fun q => hk q.symm)]; exact h
theorem fc_xL {k : Nat} {v : Int64} (h : w.1 0 = u.1 0) : (xL w k v).1 0 = u.1 0 := h
theorem fc_xA {k i : Nat} {v : Int32} (h : w.1 0 = u.1 0) : (xA w k i v).1 0 = u.1 0 := h
theorem fc_xB {k i : Nat} {v : Int64} (h : w.1 0 = u.1 0) : (xB w k i v).1 0 = u.1 0 := h
theorem fc_xF {k : Nat} {g : Nat → Int32} (h : w.1 0 = u.1 0) : (xF w k g).1 0 = u.1 0 := h
theorem fc_xG {k : Nat} {g : Nat → Int64} (h : w.1 0 = u.1 0) : (xG w k g).1 0 = u.1 0 := h
theorem fc_xpI {q k : Nat} {v : Int32} (h : w.1 0 = u.1 0) : (xpI w q k v).1 0 = u.1 0 := h
theorem fc_xpA {q k i : Nat} {v : Int32} (h : w.1 0 = u.1 0) : (xpA w q k i v).1 0 = u.1 0 := h
theorem fc_xpF {q k : Nat} {g : Nat → Int32} (h : w.1 0 = u.1 0) : (xpF w q k g).1 0 = u.1 0 := h
theorem fc_xpB {q k i : Nat} {v : Int64} (h : w.1 0 = u.1 0) : (xpB w q k i v).1 0 = u.1 0 := h
theorem fc_xtI {q k : Nat} {v : Int32} (h : w.1 0 = u.1 0) : (xtI w q k v).1 0 = u.1 0 := h
theorem fc_xmI {q k : Nat} {v : Int32} (h : w.1 0 = u.1 0) : (xmI w q k v).1 0 = u.1 0 := h
theorem fc_xmL {q k : Nat} {v : Int64} (h : w.1 0 = u.1 0) : (xmL w q k v).1 0 = u.1 0 := h
theorem fc_xR {k v : Nat} (h : w.1 0 = u.1 0) : (xR w k v).1 0 = u.1 0 := h
theorem KCw_some {r : β} (h : w.1 0 = u.1 0) : KCw (some (r, w)) u := fun _ _ e => by cases e; exact h
theorem KCw_none : KCw (none : Option (β × CSt)) u := fun _ _ e => nomatch e
theorem KCw_pc {x : CSt} {k : CSt → Option (β × CSt)} (h : KCw (k x) u) : KCw (pc x k) u := h
theorem KCw_rd {f : Nat → α} {n : Nat} {i : Int32} {k : α → Option (β × CSt)} (h : ∀ a, KCw (k a) u) : KCw (rd f n i k) u := by
  intro r z e
  have q : wq (rd f n i k) (fun r' z' => r' = r ∧ z' = z) := ⟨r, z, e, rfl, rfl⟩
  obtain ⟨r1, z1, e1, rfl, rfl⟩ := (wq_rd.mp q).2
  exact h _ _ _ e1
theorem KCw_wc {n : Nat} {i : Int32} {x : CSt} {k : CSt → Option (β × CSt)} (h : KCw (k x) u) : KCw (wc n i x k) u := by
  intro r z e
  have q : wq (wc n i x k) (fun r' z' => r' = r ∧ z' = z) := ⟨r, z, e, rfl, rfl⟩
  obtain ⟨r1, z1, e1, rfl, rfl⟩ := (wq_wc.mp q).2
  exact h _ _ e1
theorem KCw_bc {x : Option (α × CSt)} {k : α → CSt → Option (β × CSt)} (hx : KCw x u) (h : ∀ r w, KCw (k r w) w) : KCw (bc x k) u := by
  intro r z e
  have q : wq (bc x k) (fun r' z' => r' = r ∧ z' = z) := ⟨r, z, e, rfl, rfl⟩
  obtain ⟨r1, z1, e1, r2, z2, e2, rfl, rfl⟩ := wq_bc.mp q
  exact (h _ _ _ _ e2).trans (hx _ _ e1)
theorem KCw_pb {x : Option α} {k : α → Option (β × CSt)} (h : ∀ a, KCw (k a) u) : KCw (pb x k) u := by
  intro r z e
  have q : wq (pb x k) (fun r' z' => r' = r ∧ z' = z) := ⟨r, z, e, rfl, rfl⟩
  obtain ⟨a, -, r1, z1, e1, rfl, rfl⟩ := wq_pb.mp q
  exact h _ _ _ e1
theorem KCw_bt {x : Option (Sum Nat α × CSt)} {k : α → CSt → Option (Sum Nat γ × CSt)} (hx : KCw x u) (h : ∀ r w, KCw (k r w) w) : KCw (bt x k) u := by
  intro r z e
  unfold bt at e
  cases hq : x with
  | none => rw [hq] at e; cases e
  | some a =>
    obtain ⟨y, v⟩ := a
    rw [hq] at e
    cases y with
    | inl n => cases e; exact hx _ _ hq
    | inr b => exact (h _ _ _ _ e).trans (hx _ _ hq)
theorem KCw_if {c : Prop} {d : Decidable c} {a b : Option (β × CSt)} (ha : KCw a u) (hb : KCw b u) : KCw (if c then a else b) u := by
  by_cases q : c
  · rw [if_pos q]; exact ha
  · rw [if_neg q]; exact hb
theorem KCw_ix {n : Nat} {i : Int32} {x : Option (β × CSt)} (h : KCw x u) : KCw (ix n i x) u := by
  intro r z e
  have q : wq (ix n i x) (fun r' z' => r' = r ∧ z' = z) := ⟨r, z, e, rfl, rfl⟩
  obtain ⟨r1, z1, e1, rfl, rfl⟩ := (wq_ix.mp q).2
  exact h _ _ e1
theorem KCw_zr {v : Int32} {x : Option (β × CSt)} (h : KCw x u) : KCw (zr v x) u := fun r z e => h r z (zr_of e).2
theorem KCw_nz {v : Int32} {x : Option (β × CSt)} (h : KCw x u) : KCw (nz v x) u := fun r z e => h r z (nz_of e).2
theorem KCw_ok {P : Prop} {d : Decidable P} {x : Option (β × CSt)} (h : KCw x u) : KCw (ok P d x) u := fun r z e => h r z (ok_of e).2
theorem KCw_bh {x : Option (Sum Nat α × CSt)} {kc : CSt → Option (β × CSt)} {k : α → CSt → Option (β × CSt)} (hx : KCw x u) (h0 : ∀ w, KCw (kc w) w) (h : ∀ r w, KCw (k r w) w) : KCw (bh x kc k) u := by
  intro r z e
  obtain ⟨y1, w1, e1, ⟨-, e2⟩ | ⟨q, -, e2⟩⟩ := bh_of e
  · exact (h0 _ _ _ e2).trans (hx _ _ e1)
  · exact (h _ _ _ _ e2).trans (hx _ _ e1)
theorem KCw_lp {st : α → CSt} {body : (α → Option (β × CSt)) → α → Option (β × CSt)} (h : ∀ R a, (∀ b, KCw (R b) (st b)) → KCw (body R a) (st a)) (n : Nat) : ∀ a, KCw (lp body n a) (st a) := by
  induction n with
  | zero => intro a r z e; cases e
  | succ n ih => exact fun a => h _ a ih
end KCs

theorem kq_B_X4_become_0 {N : Nat} {l0 : Nat} {l1 : Int32} {l2 : Int64} {l4 : Int32} {u : CSt}  : KCw (B_X4_become_0 N l0 l1 l2 l4 u) u := by
  unfold B_X4_become_0
  refine KCw_pc ?_
  refine KCw_pc ?_
  refine KCw_pc ?_
  refine KCw_pc ?_
  refine KCw_pc ?_
  refine KCw_pc ?_
  refine KCw_pc ?_
  refine KCw_pc ?_
  refine KCw_pc ?_
  refine KCw_pc ?_
  refine KCw_pc ?_
  refine KCw_pc ?_
  refine KCw_pc ?_
  refine KCw_pc ?_
  exact KCw_some (fc_xmI (fc_xmI (fc_xmI (fc_xmI (fc_xmL (fc_xmI (fc_xmI (fc_xmI (fc_xmI (fc_xmI (fc_xmI (fc_xmI (fc_xmI (fc_xmL rfl))))))))))))))
theorem kq_F_X4_become {N : Nat} {l0 : Nat} {l1 : Int32} {l2 : Int64} {l4 : Int32} {u : CSt}  : KCw (F_X4_become N l0 l1 l2 l4 u) u := by
  unfold F_X4_become
  exact kq_B_X4_become_0.tr rfl
theorem kq_B_X4_isLocal_17 {N : Nat} {u : CSt}  : KCw (B_X4_isLocal_17 N u) u := by
  unfold B_X4_isLocal_17
  exact KCw_some rfl
theorem kq_B_X4_isLocal_0 {N : Nat} {l0 : Nat} {u : CSt}  : KCw (B_X4_isLocal_0 N l0 u) u := by
  unfold B_X4_isLocal_0
  refine KCw_if ?_ ?_
  · skip
    exact kq_B_X4_isLocal_17.tr rfl
  · skip
    refine KCw_if ?_ ?_
    · skip
      exact kq_B_X4_isLocal_17.tr rfl
    · skip
      exact KCw_some rfl
theorem kq_F_X4_isLocal {N : Nat} {l0 : Nat} {u : CSt}  : KCw (F_X4_isLocal N l0 u) u := by
  unfold F_X4_isLocal
  exact kq_B_X4_isLocal_0.tr rfl
theorem kq_B_X4_hasNumbers_14 {N : Nat} {u : CSt}  : KCw (B_X4_hasNumbers_14 N u) u := by
  unfold B_X4_hasNumbers_14
  exact KCw_some rfl
theorem kq_B_X4_hasNumbers_0 {N : Nat} {l0 : Nat} {u : CSt}  : KCw (B_X4_hasNumbers_0 N l0 u) u := by
  unfold B_X4_hasNumbers_0
  refine KCw_if ?_ ?_
  · skip
    exact kq_B_X4_hasNumbers_14.tr rfl
  · skip
    refine KCw_bc (kq_F_X4_isLocal.tr rfl) (fun _ _ => ?_)
    refine KCw_if ?_ ?_
    · skip
      exact KCw_some rfl
    · skip
      exact kq_B_X4_hasNumbers_14.tr rfl
theorem kq_F_X4_hasNumbers {N : Nat} {l0 : Nat} {u : CSt}  : KCw (F_X4_hasNumbers N l0 u) u := by
  unfold F_X4_hasNumbers
  exact kq_B_X4_hasNumbers_0.tr rfl
theorem kq_B_X4_isPlaced_23 {N : Nat} {u : CSt}  : KCw (B_X4_isPlaced_23 N u) u := by
  unfold B_X4_isPlaced_23
  exact KCw_some rfl
theorem kq_B_X4_isPlaced_0 {N : Nat} {l0 : Nat} {u : CSt}  : KCw (B_X4_isPlaced_0 N l0 u) u := by
  unfold B_X4_isPlaced_0
  refine KCw_if ?_ ?_
  · skip
    refine KCw_if ?_ ?_
    · skip
      exact kq_B_X4_isPlaced_23.tr rfl
    · skip
      refine KCw_if ?_ ?_
      · skip
        exact kq_B_X4_isPlaced_23.tr rfl
      · skip
        exact KCw_some rfl
  · skip
    exact KCw_some rfl
theorem kq_F_X4_isPlaced {N : Nat} {l0 : Nat} {u : CSt}  : KCw (F_X4_isPlaced N l0 u) u := by
  unfold F_X4_isPlaced
  exact kq_B_X4_isPlaced_0.tr rfl
theorem kq_B_X4_isInput_0 {N : Nat} {l0 : Nat} {u : CSt}  : KCw (B_X4_isInput_0 N l0 u) u := by
  unfold B_X4_isInput_0
  refine KCw_if ?_ ?_
  · skip
    refine KCw_if ?_ ?_
    · skip
      exact KCw_some rfl
    · skip
      exact KCw_some rfl
  · skip
    exact KCw_some rfl
theorem kq_F_X4_isInput {N : Nat} {l0 : Nat} {u : CSt}  : KCw (F_X4_isInput N l0 u) u := by
  unfold F_X4_isInput
  exact kq_B_X4_isInput_0.tr rfl
theorem kq_B_X7_become_0 {N : Nat} {l0 : Nat} {l1 : Int32} {l2 : Int32} {l3 : Int32} {u : CSt}  : KCw (B_X7_become_0 N l0 l1 l2 l3 u) u := by
  unfold B_X7_become_0
  refine KCw_pc ?_
  refine KCw_pc ?_
  refine KCw_pc ?_
  refine KCw_pc ?_
  refine KCw_pc ?_
  refine KCw_pc ?_
  refine KCw_pc ?_
  refine KCw_pc ?_
  refine KCw_pc ?_
  refine KCw_pc ?_
  exact KCw_some (fc_xtI (fc_xtI (fc_xtI (fc_xtI (fc_xtI (fc_xtI (fc_xtI (fc_xtI (fc_xtI (fc_xtI rfl))))))))))
theorem kq_F_X7_become {N : Nat} {l0 : Nat} {l1 : Int32} {l2 : Int32} {l3 : Int32} {u : CSt}  : KCw (F_X7_become N l0 l1 l2 l3 u) u := by
  unfold F_X7_become
  exact kq_B_X7_become_0.tr rfl
theorem kq_B_X10_forget_0 {N : Nat} {u : CSt}  : KCw (B_X10_forget_0 N u) u := by
  unfold B_X10_forget_0
  refine KCw_pc ?_
  refine KCw_pc ?_
  refine KCw_pc ?_
  exact KCw_some (fc_xI (by decide) (fc_xI (by decide) (fc_xI (by decide) rfl)))
theorem kq_F_X10_forget {N : Nat} {u : CSt}  : KCw (F_X10_forget N u) u := by
  unfold F_X10_forget
  exact kq_B_X10_forget_0.tr rfl
theorem kq_B_X6_ofSort_0 {N : Nat} {l0 : Nat} {l1 : Int32} {u : CSt}  : KCw (B_X6_ofSort_0 N l0 l1 u) u := by
  unfold B_X6_ofSort_0
  refine KCw_rd (fun _ => ?_)
  exact KCw_some rfl
theorem kq_F_X6_ofSort {N : Nat} {l0 : Nat} {l1 : Int32} {u : CSt}  : KCw (F_X6_ofSort N l0 l1 u) u := by
  unfold F_X6_ofSort
  exact kq_B_X6_ofSort_0.tr rfl
theorem kq_B_X6_has_0 {N : Nat} {l0 : Nat} {l1 : Int32} {l2 : Int32} {u : CSt}  : KCw (B_X6_has_0 N l0 l1 l2 u) u := by
  unfold B_X6_has_0
  refine KCw_if ?_ ?_
  · skip
    exact KCw_some rfl
  · skip
    refine KCw_rd (fun _ => ?_)
    refine KCw_if ?_ ?_
    · skip
      exact KCw_some rfl
    · skip
      exact KCw_some rfl
theorem kq_F_X6_has {N : Nat} {l0 : Nat} {l1 : Int32} {l2 : Int32} {u : CSt}  : KCw (F_X6_has N l0 l1 l2 u) u := by
  unfold F_X6_has
  exact kq_B_X6_has_0.tr rfl
theorem kq_B_X6_name_0 {N : Nat} {l0 : Nat} {l1 : Int32} {u : CSt}  : KCw (B_X6_name_0 N l0 l1 u) u := by
  unfold B_X6_name_0
  refine KCw_if ?_ ?_
  · skip
    exact KCw_some rfl
  · skip
    refine KCw_if ?_ ?_
    · skip
      exact KCw_some rfl
    · skip
      refine KCw_ix ?_
      exact KCw_some rfl
theorem kq_F_X6_name {N : Nat} {l0 : Nat} {l1 : Int32} {u : CSt}  : KCw (F_X6_name N l0 l1 u) u := by
  unfold F_X6_name
  exact kq_B_X6_name_0.tr rfl
theorem kq_B_X6_nth_0 {N : Nat} {l0 : Nat} {l1 : Int32} {l2 : Int32} {u : CSt}  : KCw (B_X6_nth_0 N l0 l1 l2 u) u := by
  unfold B_X6_nth_0
  refine KCw_bc (kq_F_X6_has.tr rfl) (fun _ _ => ?_)
  refine KCw_if ?_ ?_
  · skip
    exact KCw_some rfl
  · skip
    refine KCw_ix ?_
    refine KCw_rd (fun _ => ?_)
    refine KCw_bc (kq_F_X6_name.tr rfl) (fun _ _ => ?_)
    refine KCw_ok ?_
    exact KCw_some rfl
theorem kq_F_X6_nth {N : Nat} {l0 : Nat} {l1 : Int32} {l2 : Int32} {u : CSt}  : KCw (F_X6_nth N l0 l1 l2 u) u := by
  unfold F_X6_nth
  exact kq_B_X6_nth_0.tr rfl
theorem kq_B_X6_local_0 {N : Nat} {l0 : Nat} {l1 : Nat} {l2 : Int32} {u : CSt}  : KCw (B_X6_local_0 N l0 l1 l2 u) u := by
  unfold B_X6_local_0
  refine KCw_if ?_ ?_
  · skip
    exact KCw_some rfl
  · skip
    refine KCw_if ?_ ?_
    · skip
      exact KCw_some rfl
    · skip
      refine KCw_bc (kq_F_X6_name.tr rfl) (fun _ _ => ?_)
      refine KCw_ok ?_
      exact KCw_some rfl
theorem kq_F_X6_local {N : Nat} {l0 : Nat} {l1 : Nat} {l2 : Int32} {u : CSt}  : KCw (F_X6_local N l0 l1 l2 u) u := by
  unfold F_X6_local
  exact kq_B_X6_local_0.tr rfl
theorem kq_B_X6_localCalled_71 {N : Nat} {R_12 : Nat × Nat × Int64 × Int32 × Int32 × Int32 × CSt → Option (Nat × CSt)} {l0 : Nat} {l1 : Nat} {l2 : Int64} {l4 : Int32} {l5 : Int32} {l6 : Int32} {u : CSt} (h_R_12 : ∀ a, KCw (R_12 a) a.2.2.2.2.2.2) : KCw (B_X6_localCalled_71 N R_12 l0 l1 l2 l4 l5 l6 u) u := by
  unfold B_X6_localCalled_71
  exact (h_R_12 _).tr rfl
theorem kq_B_X6_localCalled_12 {N : Nat} {R_12 : Nat × Nat × Int64 × Int32 × Int32 × Int32 × CSt → Option (Nat × CSt)} {l0 : Nat} {l1 : Nat} {l2 : Int64} {l4 : Int32} {l5 : Int32} {l6 : Int32} {u : CSt} (h_R_12 : ∀ a, KCw (R_12 a) a.2.2.2.2.2.2) : KCw (B_X6_localCalled_12 N R_12 l0 l1 l2 l4 l5 l6 u) u := by
  unfold B_X6_localCalled_12
  refine KCw_if ?_ ?_
  · skip
    exact KCw_some rfl
  · skip
    refine KCw_if ?_ ?_
    · skip
      exact KCw_some rfl
    · skip
      refine KCw_ix ?_
      refine KCw_if ?_ ?_
      · skip
        refine KCw_ix ?_
        refine KCw_if ?_ ?_
        · skip
          refine KCw_ix ?_
          exact KCw_some rfl
        · skip
          exact (kq_B_X6_localCalled_71 h_R_12).tr rfl
      · skip
        exact (kq_B_X6_localCalled_71 h_R_12).tr rfl
theorem kq_LP_X6_localCalled_12 {N : Nat}  (n : Nat) : ∀ a : Nat × Nat × Int64 × Int32 × Int32 × Int32 × CSt, KCw (LP_X6_localCalled_12 N n a) a.2.2.2.2.2.2 := by
  induction n with
  | zero => exact fun a r z e => by have e : (none : Option _) = some (r, z) := e; cases e
  | succ n ih =>
    intro a
    show KCw (B_X6_localCalled_12 N (LP_X6_localCalled_12 N n) a.1 a.2.1 a.2.2.1 a.2.2.2.1 a.2.2.2.2.1 a.2.2.2.2.2.1 a.2.2.2.2.2.2) a.2.2.2.2.2.2
    exact kq_B_X6_localCalled_12 ih
theorem kq_B_X6_localCalled_0 {N : Nat} {l0 : Nat} {l1 : Nat} {l2 : Int64} {l4 : Int32} {u : CSt}  : KCw (B_X6_localCalled_0 N l0 l1 l2 l4 u) u := by
  unfold B_X6_localCalled_0
  exact (kq_LP_X6_localCalled_12  _ _).tr rfl
theorem kq_F_X6_localCalled {N : Nat} {l0 : Nat} {l1 : Nat} {l2 : Int64} {l4 : Int32} {u : CSt}  : KCw (F_X6_localCalled N l0 l1 l2 l4 u) u := by
  unfold F_X6_localCalled
  exact kq_B_X6_localCalled_0.tr rfl
theorem kq_B_X6_ofText_52 {N : Nat} {R_3 : Nat × Int64 × Int32 × Int32 × CSt → Option (Nat × CSt)} {l0 : Nat} {l1 : Int64} {l3 : Int32} {l4 : Int32} {u : CSt} (h_R_3 : ∀ a, KCw (R_3 a) a.2.2.2.2) : KCw (B_X6_ofText_52 N R_3 l0 l1 l3 l4 u) u := by
  unfold B_X6_ofText_52
  exact (h_R_3 _).tr rfl
theorem kq_B_X6_ofText_61 {N : Nat} {R_61 : Nat × Int64 × Int32 × Int32 × CSt → Option (Nat × CSt)} {l0 : Nat} {l1 : Int64} {l3 : Int32} {l4 : Int32} {u : CSt} (h_R_61 : ∀ a, KCw (R_61 a) a.2.2.2.2) : KCw (B_X6_ofText_61 N R_61 l0 l1 l3 l4 u) u := by
  unfold B_X6_ofText_61
  refine KCw_if ?_ ?_
  · skip
    exact KCw_some rfl
  · skip
    refine KCw_if ?_ ?_
    · skip
      refine KCw_ix ?_
      refine KCw_if ?_ ?_
      · skip
        refine KCw_ix ?_
        exact KCw_some rfl
      · skip
        exact (h_R_61 _).tr rfl
    · skip
      exact KCw_some rfl
theorem kq_LP_X6_ofText_61 {N : Nat}  (n : Nat) : ∀ a : Nat × Int64 × Int32 × Int32 × CSt, KCw (LP_X6_ofText_61 N n a) a.2.2.2.2 := by
  induction n with
  | zero => exact fun a r z e => by have e : (none : Option _) = some (r, z) := e; cases e
  | succ n ih =>
    intro a
    show KCw (B_X6_ofText_61 N (LP_X6_ofText_61 N n) a.1 a.2.1 a.2.2.1 a.2.2.2.1 a.2.2.2.2) a.2.2.2.2
    exact kq_B_X6_ofText_61 ih
theorem kq_B_X6_ofText_3 {N : Nat} {R_3 : Nat × Int64 × Int32 × Int32 × CSt → Option (Nat × CSt)} {l0 : Nat} {l1 : Int64} {l3 : Int32} {l4 : Int32} {u : CSt} (h_R_3 : ∀ a, KCw (R_3 a) a.2.2.2.2) : KCw (B_X6_ofText_3 N R_3 l0 l1 l3 l4 u) u := by
  unfold B_X6_ofText_3
  refine KCw_if ?_ ?_
  · skip
    exact (kq_LP_X6_ofText_61  _ _).tr rfl
  · skip
    refine KCw_ix ?_
    refine KCw_if ?_ ?_
    · skip
      refine KCw_if ?_ ?_
      · skip
        refine KCw_if ?_ ?_
        · skip
          exact (kq_B_X6_ofText_52 h_R_3).tr rfl
        · skip
          exact KCw_some rfl
      · skip
        exact (kq_B_X6_ofText_52 h_R_3).tr rfl
    · skip
      exact (kq_B_X6_ofText_52 h_R_3).tr rfl
theorem kq_LP_X6_ofText_3 {N : Nat}  (n : Nat) : ∀ a : Nat × Int64 × Int32 × Int32 × CSt, KCw (LP_X6_ofText_3 N n a) a.2.2.2.2 := by
  induction n with
  | zero => exact fun a r z e => by have e : (none : Option _) = some (r, z) := e; cases e
  | succ n ih =>
    intro a
    show KCw (B_X6_ofText_3 N (LP_X6_ofText_3 N n) a.1 a.2.1 a.2.2.1 a.2.2.2.1 a.2.2.2.2) a.2.2.2.2
    exact kq_B_X6_ofText_3 ih
theorem kq_B_X6_ofText_0 {N : Nat} {l0 : Nat} {l1 : Int64} {l3 : Int32} {u : CSt}  : KCw (B_X6_ofText_0 N l0 l1 l3 u) u := by
  unfold B_X6_ofText_0
  exact (kq_LP_X6_ofText_3  _ _).tr rfl
theorem kq_F_X6_ofText {N : Nat} {l0 : Nat} {l1 : Int64} {l3 : Int32} {u : CSt}  : KCw (F_X6_ofText N l0 l1 l3 u) u := by
  unfold F_X6_ofText
  exact kq_B_X6_ofText_0.tr rfl
theorem kq_B_X6_add_86 {N : Nat} {l0 : Nat} {l5 : Nat} {u : CSt}  : KCw (B_X6_add_86 N l0 l5 u) u := by
  unfold B_X6_add_86
  refine KCw_pc ?_
  exact KCw_some (fc_xpI rfl)
theorem kq_B_X6_add_0 {N : Nat} {l0 : Nat} {l1 : Int32} {l2 : Int64} {l4 : Int32} {u : CSt}  : KCw (B_X6_add_0 N l0 l1 l2 l4 u) u := by
  unfold B_X6_add_0
  refine KCw_if ?_ ?_
  · skip
    refine KCw_ix ?_
    refine KCw_bc (kq_F_X4_become.tr rfl) (fun _ _ => ?_)
    refine KCw_pc ?_
    refine KCw_if ?_ ?_
    · skip
      exact kq_B_X6_add_86.tr (fc_xmI rfl)
    · skip
      refine KCw_rd (fun _ => ?_)
      refine KCw_pc ?_
      refine KCw_ix ?_
      refine KCw_wc ?_
      refine KCw_rd (fun _ => ?_)
      refine KCw_wc ?_
      exact kq_B_X6_add_86.tr (fc_xpA (fc_xpA (fc_xmI (fc_xmI rfl))))
  · skip
    exact KCw_some rfl
theorem kq_F_X6_add {N : Nat} {l0 : Nat} {l1 : Int32} {l2 : Int64} {l4 : Int32} {u : CSt}  : KCw (F_X6_add N l0 l1 l2 l4 u) u := by
  unfold F_X6_add
  exact kq_B_X6_add_0.tr rfl
theorem kq_B_X6_step_0 {N : Nat} {l0 : Nat} {l1 : Int32} {l2 : Int32} {l3 : Int32} {l4 : Int32} {u : CSt}  : KCw (B_X6_step_0 N l0 l1 l2 l3 l4 u) u := by
  unfold B_X6_step_0
  refine KCw_if ?_ ?_
  · skip
    refine KCw_wc ?_
    refine KCw_wc ?_
    refine KCw_wc ?_
    refine KCw_wc ?_
    refine KCw_pc ?_
    exact KCw_some (fc_xpI (fc_xpA (fc_xpA (fc_xpA (fc_xpA rfl)))))
  · skip
    exact KCw_some rfl
theorem kq_F_X6_step {N : Nat} {l0 : Nat} {l1 : Int32} {l2 : Int32} {l3 : Int32} {l4 : Int32} {u : CSt}  : KCw (F_X6_step N l0 l1 l2 l3 l4 u) u := by
  unfold F_X6_step
  exact kq_B_X6_step_0.tr rfl
theorem kq_B_X6_cost_0 {N : Nat} {l0 : Nat} {l1 : Int32} {u : CSt}  : KCw (B_X6_cost_0 N l0 l1 u) u := by
  unfold B_X6_cost_0
  refine KCw_bc (kq_F_X6_step.tr rfl) (fun _ _ => ?_)
  exact KCw_some rfl
theorem kq_F_X6_cost {N : Nat} {l0 : Nat} {l1 : Int32} {u : CSt}  : KCw (F_X6_cost N l0 l1 u) u := by
  unfold F_X6_cost
  exact kq_B_X6_cost_0.tr rfl
theorem kq_B_X6_constant_0 {N : Nat} {l0 : Nat} {l1 : Int64} {l3 : Int32} {l4 : Int32} {u : CSt}  : KCw (B_X6_constant_0 N l0 l1 l3 l4 u) u := by
  unfold B_X6_constant_0
  refine KCw_bc (kq_F_X6_step.tr rfl) (fun _ _ => ?_)
  exact KCw_some rfl
theorem kq_F_X6_constant {N : Nat} {l0 : Nat} {l1 : Int64} {l3 : Int32} {l4 : Int32} {u : CSt}  : KCw (F_X6_constant N l0 l1 l3 l4 u) u := by
  unfold F_X6_constant
  exact kq_B_X6_constant_0.tr rfl
theorem kq_B_X6_land_4 {N : Nat} {R_4 : Nat × Int32 × Int32 × CSt → Option (Int32 × CSt)} {l0 : Nat} {l2 : Int32} {l3 : Int32} {u : CSt} (h_R_4 : ∀ a, KCw (R_4 a) a.2.2.2) : KCw (B_X6_land_4 N R_4 l0 l2 l3 u) u := by
  unfold B_X6_land_4
  refine KCw_if ?_ ?_
  · skip
    exact KCw_some rfl
  · skip
    refine KCw_if ?_ ?_
    · skip
      exact KCw_some rfl
    · skip
      refine KCw_if ?_ ?_
      · skip
        exact KCw_some rfl
      · skip
        refine KCw_rd (fun _ => ?_)
        refine KCw_wc ?_
        exact (h_R_4 _).tr (fc_xpA rfl)
theorem kq_LP_X6_land_4 {N : Nat}  (n : Nat) : ∀ a : Nat × Int32 × Int32 × CSt, KCw (LP_X6_land_4 N n a) a.2.2.2 := by
  induction n with
  | zero => exact fun a r z e => by have e : (none : Option _) = some (r, z) := e; cases e
  | succ n ih =>
    intro a
    show KCw (B_X6_land_4 N (LP_X6_land_4 N n) a.1 a.2.1 a.2.2.1 a.2.2.2) a.2.2.2
    exact kq_B_X6_land_4 ih
theorem kq_B_X6_land_0 {N : Nat} {l0 : Nat} {l1 : Int32} {u : CSt}  : KCw (B_X6_land_0 N l0 l1 u) u := by
  unfold B_X6_land_0
  exact (kq_LP_X6_land_4  _ _).tr rfl
theorem kq_F_X6_land {N : Nat} {l0 : Nat} {l1 : Int32} {u : CSt}  : KCw (F_X6_land N l0 l1 u) u := by
  unfold F_X6_land
  exact kq_B_X6_land_0.tr rfl
theorem kq_B_X6_label_0 {N : Nat} {l0 : Nat} {l1 : Int64} {l3 : Int64} {u : CSt}  : KCw (B_X6_label_0 N l0 l1 l3 u) u := by
  unfold B_X6_label_0
  refine KCw_if ?_ ?_
  · skip
    exact KCw_some rfl
  · skip
    refine KCw_wc ?_
    refine KCw_wc ?_
    refine KCw_pc ?_
    exact KCw_some (fc_xpI (fc_xpB (fc_xpB rfl)))
theorem kq_F_X6_label {N : Nat} {l0 : Nat} {l1 : Int64} {l3 : Int64} {u : CSt}  : KCw (F_X6_label N l0 l1 l3 u) u := by
  unfold F_X6_label
  exact kq_B_X6_label_0.tr rfl
theorem kq_B_X9_rewind_0 {N : Nat} {u : CSt}  : KCw (B_X9_rewind_0 N u) u := by
  unfold B_X9_rewind_0
  refine KCw_pc ?_
  exact KCw_some (fc_xI (by decide) rfl)
theorem kq_F_X9_rewind {N : Nat} {u : CSt}  : KCw (F_X9_rewind N u) u := by
  unfold F_X9_rewind
  exact kq_B_X9_rewind_0.tr rfl
theorem kq_B_X9_type_0 {N : Nat} {u : CSt}  : KCw (B_X9_type_0 N u) u := by
  unfold B_X9_type_0
  refine KCw_rd (fun _ => ?_)
  exact KCw_some rfl
theorem kq_F_X9_type {N : Nat} {u : CSt}  : KCw (F_X9_type N u) u := by
  unfold F_X9_type
  exact kq_B_X9_type_0.tr rfl
theorem kq_B_X9_typeAhead_0 {N : Nat} {l1 : Int32} {u : CSt}  : KCw (B_X9_typeAhead_0 N l1 u) u := by
  unfold B_X9_typeAhead_0
  refine KCw_if ?_ ?_
  · skip
    exact KCw_some rfl
  · skip
    refine KCw_rd (fun _ => ?_)
    exact KCw_some rfl
theorem kq_F_X9_typeAhead {N : Nat} {l1 : Int32} {u : CSt}  : KCw (F_X9_typeAhead N l1 u) u := by
  unfold F_X9_typeAhead
  exact kq_B_X9_typeAhead_0.tr rfl
theorem kq_B_X9_is_0 {N : Nat} {l1 : Int32} {u : CSt}  : KCw (B_X9_is_0 N l1 u) u := by
  unfold B_X9_is_0
  refine KCw_rd (fun _ => ?_)
  refine KCw_if ?_ ?_
  · skip
    exact KCw_some rfl
  · skip
    exact KCw_some rfl
theorem kq_F_X9_is {N : Nat} {l1 : Int32} {u : CSt}  : KCw (F_X9_is N l1 u) u := by
  unfold F_X9_is
  exact kq_B_X9_is_0.tr rfl
theorem kq_B_X9_isKindWord_0 {N : Nat} {u : CSt}  : KCw (B_X9_isKindWord_0 N u) u := by
  unfold B_X9_isKindWord_0
  refine KCw_rd (fun _ => ?_)
  refine KCw_if ?_ ?_
  · skip
    exact KCw_some rfl
  · skip
    refine KCw_rd (fun _ => ?_)
    refine KCw_if ?_ ?_
    · skip
      exact KCw_some rfl
    · skip
      exact KCw_some rfl
theorem kq_F_X9_isKindWord {N : Nat} {u : CSt}  : KCw (F_X9_isKindWord N u) u := by
  unfold F_X9_isKindWord
  exact kq_B_X9_isKindWord_0.tr rfl
theorem kq_B_X9_here_0 {N : Nat} {u : CSt}  : KCw (B_X9_here_0 N u) u := by
  unfold B_X9_here_0
  refine KCw_rd (fun _ => ?_)
  exact KCw_some rfl
theorem kq_F_X9_here {N : Nat} {u : CSt}  : KCw (F_X9_here N u) u := by
  unfold F_X9_here
  exact kq_B_X9_here_0.tr rfl
theorem kq_B_X9_head_0 {N : Nat} {u : CSt}  : KCw (B_X9_head_0 N u) u := by
  unfold B_X9_head_0
  refine KCw_rd (fun _ => ?_)
  exact KCw_some rfl
theorem kq_F_X9_head {N : Nat} {u : CSt}  : KCw (F_X9_head N u) u := by
  unfold F_X9_head
  exact kq_B_X9_head_0.tr rfl
theorem kq_B_X9_tail_0 {N : Nat} {u : CSt}  : KCw (B_X9_tail_0 N u) u := by
  unfold B_X9_tail_0
  refine KCw_rd (fun _ => ?_)
  exact KCw_some rfl
theorem kq_F_X9_tail {N : Nat} {u : CSt}  : KCw (F_X9_tail N u) u := by
  unfold F_X9_tail
  exact kq_B_X9_tail_0.tr rfl
theorem kq_B_X9_isWide_0 {N : Nat} {u : CSt}  : KCw (B_X9_isWide_0 N u) u := by
  unfold B_X9_isWide_0
  refine KCw_rd (fun _ => ?_)
  refine KCw_if ?_ ?_
  · skip
    exact KCw_some rfl
  · skip
    exact KCw_some rfl
theorem kq_F_X9_isWide {N : Nat} {u : CSt}  : KCw (F_X9_isWide N u) u := by
  unfold F_X9_isWide
  exact kq_B_X9_isWide_0.tr rfl
theorem kq_B_X9_next_0 {N : Nat} {u : CSt}  : KCw (B_X9_next_0 N u) u := by
  unfold B_X9_next_0
  refine KCw_if ?_ ?_
  · skip
    exact KCw_some rfl
  · skip
    refine KCw_pc ?_
    exact KCw_some (fc_xI (by decide) rfl)
theorem kq_F_X9_next {N : Nat} {u : CSt}  : KCw (F_X9_next N u) u := by
  unfold F_X9_next
  exact kq_B_X9_next_0.tr rfl
theorem kq_B_X9_misfit_0 {N : Nat} {u : CSt}  : KCw (B_X9_misfit_0 N u) u := by
  unfold B_X9_misfit_0
  refine KCw_rd (fun _ => ?_)
  refine KCw_if ?_ ?_
  · skip
    exact KCw_some rfl
  · skip
    exact KCw_some rfl
theorem kq_F_X9_misfit {N : Nat} {u : CSt}  : KCw (F_X9_misfit N u) u := by
  unfold F_X9_misfit
  exact kq_B_X9_misfit_0.tr rfl
theorem kq_B_X9_refuse_0 {N : Nat} {l1 : Int32} {l2 : Int32} {u : CSt}  : KCw (B_X9_refuse_0 N l1 l2 u) u := by
  unfold B_X9_refuse_0
  refine KCw_pc ?_
  refine KCw_pc ?_
  exact KCw_some (fc_xI (by decide) (fc_xI (by decide) rfl))
theorem kq_F_X9_refuse {N : Nat} {l1 : Int32} {l2 : Int32} {u : CSt}  : KCw (F_X9_refuse N l1 l2 u) u := by
  unfold F_X9_refuse
  exact kq_B_X9_refuse_0.tr rfl
theorem kq_B_X9_take_30 {N : Nat} {u : CSt}  : KCw (B_X9_take_30 N u) u := by
  unfold B_X9_take_30
  refine KCw_bc (kq_F_X9_next.tr rfl) (fun _ _ => ?_)
  exact KCw_some rfl
theorem kq_B_X9_take_0 {N : Nat} {l1 : Int32} {u : CSt}  : KCw (B_X9_take_0 N l1 u) u := by
  unfold B_X9_take_0
  refine KCw_rd (fun _ => ?_)
  refine KCw_if ?_ ?_
  · skip
    exact kq_B_X9_take_30.tr rfl
  · skip
    refine KCw_bc (kq_F_X9_misfit.tr rfl) (fun _ _ => ?_)
    refine KCw_rd (fun _ => ?_)
    refine KCw_bt (kq_F_X9_refuse.tr rfl) (fun _ _ => ?_)
    exact kq_B_X9_take_30.tr rfl
theorem kq_F_X9_take {N : Nat} {l1 : Int32} {u : CSt}  : KCw (F_X9_take N l1 u) u := by
  unfold F_X9_take
  exact kq_B_X9_take_0.tr rfl
theorem kq_B_X9_refuseToken_0 {N : Nat} {u : CSt}  : KCw (B_X9_refuseToken_0 N u) u := by
  unfold B_X9_refuseToken_0
  refine KCw_bc (kq_F_X9_misfit.tr rfl) (fun _ _ => ?_)
  refine KCw_rd (fun _ => ?_)
  refine KCw_bt (kq_F_X9_refuse.tr rfl) (fun _ _ => ?_)
  exact KCw_some rfl
theorem kq_F_X9_refuseToken {N : Nat} {u : CSt}  : KCw (F_X9_refuseToken N u) u := by
  unfold F_X9_refuseToken
  exact kq_B_X9_refuseToken_0.tr rfl
theorem kq_B_X9_takeNumber_28 {N : Nat} {u : CSt}  : KCw (B_X9_takeNumber_28 N u) u := by
  unfold B_X9_takeNumber_28
  refine KCw_rd (fun _ => ?_)
  refine KCw_bc (kq_F_X9_next.tr rfl) (fun _ _ => ?_)
  exact KCw_some rfl
theorem kq_B_X9_takeNumber_0 {N : Nat} {u : CSt}  : KCw (B_X9_takeNumber_0 N u) u := by
  unfold B_X9_takeNumber_0
  refine KCw_rd (fun _ => ?_)
  refine KCw_if ?_ ?_
  · skip
    exact kq_B_X9_takeNumber_28.tr rfl
  · skip
    refine KCw_rd (fun _ => ?_)
    refine KCw_bt (kq_F_X9_refuse.tr rfl) (fun _ _ => ?_)
    exact kq_B_X9_takeNumber_28.tr rfl
theorem kq_F_X9_takeNumber {N : Nat} {u : CSt}  : KCw (F_X9_takeNumber N u) u := by
  unfold F_X9_takeNumber
  exact kq_B_X9_takeNumber_0.tr rfl
theorem kq_B_X9_takeBounded_53 {N : Nat} {l5 : Int64} {u : CSt}  : KCw (B_X9_takeBounded_53 N l5 u) u := by
  unfold B_X9_takeBounded_53
  refine KCw_bc (kq_F_X9_next.tr rfl) (fun _ _ => ?_)
  exact KCw_some rfl
theorem kq_B_X9_takeBounded_39 {N : Nat} {l5 : Int64} {u : CSt}  : KCw (B_X9_takeBounded_39 N l5 u) u := by
  unfold B_X9_takeBounded_39
  refine KCw_rd (fun _ => ?_)
  refine KCw_bt (kq_F_X9_refuse.tr rfl) (fun _ _ => ?_)
  exact kq_B_X9_takeBounded_53.tr rfl
theorem kq_B_X9_takeBounded_0 {N : Nat} {l1 : Int64} {l3 : Int64} {u : CSt}  : KCw (B_X9_takeBounded_0 N l1 l3 u) u := by
  unfold B_X9_takeBounded_0
  refine KCw_rd (fun _ => ?_)
  refine KCw_rd (fun _ => ?_)
  refine KCw_if ?_ ?_
  · skip
    refine KCw_if ?_ ?_
    · skip
      exact kq_B_X9_takeBounded_39.tr rfl
    · skip
      refine KCw_if ?_ ?_
      · skip
        exact kq_B_X9_takeBounded_53.tr rfl
      · skip
        exact kq_B_X9_takeBounded_39.tr rfl
  · skip
    exact kq_B_X9_takeBounded_39.tr rfl
theorem kq_F_X9_takeBounded {N : Nat} {l1 : Int64} {l3 : Int64} {u : CSt}  : KCw (F_X9_takeBounded N l1 l3 u) u := by
  unfold F_X9_takeBounded
  exact kq_B_X9_takeBounded_0.tr rfl
theorem kq_B_X9_takeKind_0 {N : Nat} {u : CSt}  : KCw (B_X9_takeKind_0 N u) u := by
  unfold B_X9_takeKind_0
  refine KCw_rd (fun _ => ?_)
  refine KCw_bc (kq_F_X9_next.tr rfl) (fun _ _ => ?_)
  exact KCw_some rfl
theorem kq_F_X9_takeKind {N : Nat} {u : CSt}  : KCw (F_X9_takeKind N u) u := by
  unfold F_X9_takeKind
  exact kq_B_X9_takeKind_0.tr rfl
theorem kq_B_X6_hasRoomFor_58 {N : Nat} {u : CSt}  : KCw (B_X6_hasRoomFor_58 N u) u := by
  unfold B_X6_hasRoomFor_58
  exact KCw_some rfl
theorem kq_B_X6_hasRoomFor_0 {N : Nat} {l0 : Nat} {l1 : Int32} {u : CSt}  : KCw (B_X6_hasRoomFor_0 N l0 l1 u) u := by
  unfold B_X6_hasRoomFor_0
  refine KCw_if ?_ ?_
  · skip
    refine KCw_if ?_ ?_
    · skip
      refine KCw_bc (kq_F_X6_name.tr rfl) (fun _ _ => ?_)
      refine KCw_ok ?_
      refine KCw_if ?_ ?_
      · skip
        exact KCw_some rfl
      · skip
        exact KCw_some rfl
    · skip
      refine KCw_if ?_ ?_
      · skip
        exact kq_B_X6_hasRoomFor_58.tr rfl
      · skip
        refine KCw_rd (fun _ => ?_)
        refine KCw_rd (fun _ => ?_)
        refine KCw_if ?_ ?_
        · skip
          exact KCw_some rfl
        · skip
          exact kq_B_X6_hasRoomFor_58.tr rfl
  · skip
    exact KCw_some rfl
theorem kq_F_X6_hasRoomFor {N : Nat} {l0 : Nat} {l1 : Int32} {u : CSt}  : KCw (F_X6_hasRoomFor N l0 l1 u) u := by
  unfold F_X6_hasRoomFor
  exact kq_B_X6_hasRoomFor_0.tr rfl
theorem kq_B_X6_empty_0 {N : Nat} {l0 : Nat} {u : CSt}  : KCw (B_X6_empty_0 N l0 u) u := by
  unfold B_X6_empty_0
  refine KCw_pc ?_
  refine KCw_pc ?_
  refine KCw_pc ?_
  refine KCw_pc ?_
  refine KCw_pc ?_
  exact KCw_some (fc_xpF (fc_xpI (fc_xpI (fc_xpI (fc_xpI rfl)))))
theorem kq_F_X6_empty {N : Nat} {l0 : Nat} {u : CSt}  : KCw (F_X6_empty N l0 u) u := by
  unfold F_X6_empty
  exact kq_B_X6_empty_0.tr rfl
theorem kq_B_X1_wipe_0 {N : Nat} {u : CSt}  : KCw (B_X1_wipe_0 N u) u := by
  unfold B_X1_wipe_0
  refine KCw_ix ?_
  refine KCw_pc ?_
  refine KCw_ix ?_
  refine KCw_pc ?_
  exact KCw_some (fc_xF (fc_xF rfl))
theorem kq_F_X1_wipe {N : Nat} {u : CSt}  : KCw (F_X1_wipe N u) u := by
  unfold F_X1_wipe
  exact kq_B_X1_wipe_0.tr rfl
theorem kq_B_X2_put_0 {N : Nat} {l1 : Int32} {l2 : Int64} {u : CSt}  : KCw (B_X2_put_0 N l1 l2 u) u := by
  unfold B_X2_put_0
  refine KCw_if ?_ ?_
  · skip
    exact KCw_some rfl
  · skip
    refine KCw_if ?_ ?_
    · skip
      exact KCw_some rfl
    · skip
      refine KCw_wc ?_
      exact KCw_some (fc_xB rfl)
theorem kq_F_X2_put {N : Nat} {l1 : Int32} {l2 : Int64} {u : CSt}  : KCw (F_X2_put N l1 l2 u) u := by
  unfold F_X2_put
  exact kq_B_X2_put_0.tr rfl
theorem kq_B_X2_fill_3 {N : Nat} {R_3 : Int32 × Int32 × Int64 × Int32 × CSt → Option (Int32 × CSt)} {l1 : Int32} {l2 : Int32} {l3 : Int64} {l5 : Int32} {u : CSt} (h_R_3 : ∀ a, KCw (R_3 a) a.2.2.2.2) : KCw (B_X2_fill_3 N R_3 l1 l2 l3 l5 u) u := by
  unfold B_X2_fill_3
  refine KCw_if ?_ ?_
  · skip
    exact KCw_some rfl
  · skip
    refine KCw_bc (kq_F_X2_put.tr rfl) (fun _ _ => ?_)
    exact (h_R_3 _).tr rfl
theorem kq_LP_X2_fill_3 {N : Nat}  (n : Nat) : ∀ a : Int32 × Int32 × Int64 × Int32 × CSt, KCw (LP_X2_fill_3 N n a) a.2.2.2.2 := by
  induction n with
  | zero => exact fun a r z e => by have e : (none : Option _) = some (r, z) := e; cases e
  | succ n ih =>
    intro a
    show KCw (B_X2_fill_3 N (LP_X2_fill_3 N n) a.1 a.2.1 a.2.2.1 a.2.2.2.1 a.2.2.2.2) a.2.2.2.2
    exact kq_B_X2_fill_3 ih
theorem kq_B_X2_fill_0 {N : Nat} {l1 : Int32} {l2 : Int32} {l3 : Int64} {u : CSt}  : KCw (B_X2_fill_0 N l1 l2 l3 u) u := by
  unfold B_X2_fill_0
  exact (kq_LP_X2_fill_3  _ _).tr rfl
theorem kq_F_X2_fill {N : Nat} {l1 : Int32} {l2 : Int32} {l3 : Int64} {u : CSt}  : KCw (F_X2_fill N l1 l2 l3 u) u := by
  unfold F_X2_fill
  exact kq_B_X2_fill_0.tr rfl
theorem kq_B_X2_keep_17 {N : Nat} {R_17 : Nat × Nat × Int32 × CSt → Option (Int32 × CSt)} {l1 : Nat} {l2 : Nat} {l3 : Int32} {u : CSt} (h_R_17 : ∀ a, KCw (R_17 a) a.2.2.2) : KCw (B_X2_keep_17 N R_17 l1 l2 l3 u) u := by
  unfold B_X2_keep_17
  refine KCw_if ?_ ?_
  · skip
    exact KCw_some rfl
  · skip
    refine KCw_if ?_ ?_
    · skip
      exact KCw_some rfl
    · skip
      refine KCw_if ?_ ?_
      · skip
        exact KCw_some rfl
      · skip
        refine KCw_rd (fun _ => ?_)
        refine KCw_bc (kq_F_X2_put.tr rfl) (fun _ _ => ?_)
        exact (h_R_17 _).tr rfl
theorem kq_LP_X2_keep_17 {N : Nat}  (n : Nat) : ∀ a : Nat × Nat × Int32 × CSt, KCw (LP_X2_keep_17 N n a) a.2.2.2 := by
  induction n with
  | zero => exact fun a r z e => by have e : (none : Option _) = some (r, z) := e; cases e
  | succ n ih =>
    intro a
    show KCw (B_X2_keep_17 N (LP_X2_keep_17 N n) a.1 a.2.1 a.2.2.1 a.2.2.2) a.2.2.2
    exact kq_B_X2_keep_17 ih
theorem kq_B_X2_keep_0 {N : Nat} {l1 : Nat} {l2 : Nat} {u : CSt}  : KCw (B_X2_keep_0 N l1 l2 u) u := by
  unfold B_X2_keep_0
  refine KCw_if ?_ ?_
  · skip
    refine KCw_bc (kq_F_X4_isPlaced.tr rfl) (fun _ _ => ?_)
    refine KCw_if ?_ ?_
    · skip
      exact (kq_LP_X2_keep_17  _ _).tr rfl
    · skip
      exact KCw_some rfl
  · skip
    exact KCw_some rfl
theorem kq_F_X2_keep {N : Nat} {l1 : Nat} {l2 : Nat} {u : CSt}  : KCw (F_X2_keep N l1 l2 u) u := by
  unfold F_X2_keep
  exact kq_B_X2_keep_0.tr rfl
theorem kq_B_X2_resetInstances_31 {N : Nat} {R_2 : Nat × Int32 × CSt → Option (Int32 × CSt)} {R_31 : Nat × Int32 × Nat × Nat × Int32 × CSt → Option (Int32 × CSt)} {l1 : Nat} {l2 : Int32} {l3 : Nat} {l4 : Nat} {l5 : Int32} {u : CSt} (h_R_2 : ∀ a, KCw (R_2 a) a.2.2) (h_R_31 : ∀ a, KCw (R_31 a) a.2.2.2.2.2) : KCw (B_X2_resetInstances_31 N R_2 R_31 l1 l2 l3 l4 l5 u) u := by
  unfold B_X2_resetInstances_31
  refine KCw_if ?_ ?_
  · skip
    exact (h_R_2 _).tr rfl
  · skip
    refine KCw_bc (kq_F_X6_local.tr rfl) (fun _ _ => ?_)
    refine KCw_ok ?_
    refine KCw_bc (kq_F_X2_fill.tr rfl) (fun _ _ => ?_)
    exact (h_R_31 _).tr rfl
theorem kq_LP_X2_resetInstances_31 {N : Nat} {R_2 : Nat × Int32 × CSt → Option (Int32 × CSt)} (h_R_2 : ∀ a, KCw (R_2 a) a.2.2) (n : Nat) : ∀ a : Nat × Int32 × Nat × Nat × Int32 × CSt, KCw (LP_X2_resetInstances_31 N R_2 n a) a.2.2.2.2.2 := by
  induction n with
  | zero => exact fun a r z e => by have e : (none : Option _) = some (r, z) := e; cases e
  | succ n ih =>
    intro a
    show KCw (B_X2_resetInstances_31 N R_2 (LP_X2_resetInstances_31 N R_2 n) a.1 a.2.1 a.2.2.1 a.2.2.2.1 a.2.2.2.2.1 a.2.2.2.2.2) a.2.2.2.2.2
    exact kq_B_X2_resetInstances_31 h_R_2 ih
theorem kq_B_X2_resetInstances_2 {N : Nat} {R_2 : Nat × Int32 × CSt → Option (Int32 × CSt)} {l1 : Nat} {l2 : Int32} {u : CSt} (h_R_2 : ∀ a, KCw (R_2 a) a.2.2) : KCw (B_X2_resetInstances_2 N R_2 l1 l2 u) u := by
  unfold B_X2_resetInstances_2
  refine KCw_bc (kq_F_X6_ofSort.tr rfl) (fun _ _ => ?_)
  refine KCw_if ?_ ?_
  · skip
    exact KCw_some rfl
  · skip
    refine KCw_bc (kq_F_X6_nth.tr rfl) (fun _ _ => ?_)
    refine KCw_ok ?_
    refine KCw_bc (kq_F_X6_name.tr rfl) (fun _ _ => ?_)
    refine KCw_ok ?_
    exact (kq_LP_X2_resetInstances_31 h_R_2 _ _).tr rfl
theorem kq_LP_X2_resetInstances_2 {N : Nat}  (n : Nat) : ∀ a : Nat × Int32 × CSt, KCw (LP_X2_resetInstances_2 N n a) a.2.2 := by
  induction n with
  | zero => exact fun a r z e => by have e : (none : Option _) = some (r, z) := e; cases e
  | succ n ih =>
    intro a
    show KCw (B_X2_resetInstances_2 N (LP_X2_resetInstances_2 N n) a.1 a.2.1 a.2.2) a.2.2
    exact kq_B_X2_resetInstances_2 ih
theorem kq_B_X2_resetInstances_0 {N : Nat} {l1 : Nat} {u : CSt}  : KCw (B_X2_resetInstances_0 N l1 u) u := by
  unfold B_X2_resetInstances_0
  exact (kq_LP_X2_resetInstances_2  _ _).tr rfl
theorem kq_F_X2_resetInstances {N : Nat} {l1 : Nat} {u : CSt}  : KCw (F_X2_resetInstances N l1 u) u := by
  unfold F_X2_resetInstances
  exact kq_B_X2_resetInstances_0.tr rfl
theorem kq_B_X2_install_89 {N : Nat} {R_19 : Nat × Nat × Int32 × Int32 × CSt → Option (Int32 × CSt)} {l1 : Nat} {l2 : Nat} {l3 : Int32} {l4 : Int32} {u : CSt} (h_R_19 : ∀ a, KCw (R_19 a) a.2.2.2.2) : KCw (B_X2_install_89 N R_19 l1 l2 l3 l4 u) u := by
  unfold B_X2_install_89
  exact (h_R_19 _).tr rfl
theorem kq_B_X2_install_19 {N : Nat} {R_19 : Nat × Nat × Int32 × Int32 × CSt → Option (Int32 × CSt)} {l1 : Nat} {l2 : Nat} {l3 : Int32} {l4 : Int32} {u : CSt} (h_R_19 : ∀ a, KCw (R_19 a) a.2.2.2.2) : KCw (B_X2_install_19 N R_19 l1 l2 l3 l4 u) u := by
  unfold B_X2_install_19
  refine KCw_bc (kq_F_X6_ofSort.tr rfl) (fun _ _ => ?_)
  refine KCw_if ?_ ?_
  · skip
    refine KCw_bc (kq_F_X2_resetInstances.tr rfl) (fun _ _ => ?_)
    exact KCw_some rfl
  · skip
    refine KCw_bc (kq_F_X6_nth.tr rfl) (fun _ _ => ?_)
    refine KCw_ok ?_
    refine KCw_bc (kq_F_X4_isPlaced.tr rfl) (fun _ _ => ?_)
    refine KCw_if ?_ ?_
    · skip
      refine KCw_bc (kq_F_X2_fill.tr rfl) (fun _ _ => ?_)
      refine KCw_if ?_ ?_
      · skip
        exact (kq_B_X2_install_89 h_R_19).tr rfl
      · skip
        refine KCw_bc (kq_F_X6_ofText.tr rfl) (fun _ _ => ?_)
        refine KCw_ok ?_
        refine KCw_bc (kq_F_X2_keep.tr rfl) (fun _ _ => ?_)
        exact (kq_B_X2_install_89 h_R_19).tr rfl
    · skip
      exact (kq_B_X2_install_89 h_R_19).tr rfl
theorem kq_LP_X2_install_19 {N : Nat}  (n : Nat) : ∀ a : Nat × Nat × Int32 × Int32 × CSt, KCw (LP_X2_install_19 N n a) a.2.2.2.2 := by
  induction n with
  | zero => exact fun a r z e => by have e : (none : Option _) = some (r, z) := e; cases e
  | succ n ih =>
    intro a
    show KCw (B_X2_install_19 N (LP_X2_install_19 N n) a.1 a.2.1 a.2.2.1 a.2.2.2.1 a.2.2.2.2) a.2.2.2.2
    exact kq_B_X2_install_19 ih
theorem kq_B_X2_install_0 {N : Nat} {l1 : Nat} {l2 : Nat} {l3 : Int32} {u : CSt}  : KCw (B_X2_install_0 N l1 l2 l3 u) u := by
  unfold B_X2_install_0
  refine KCw_pc ?_
  exact (kq_LP_X2_install_19  _ _).tr (fc_xG rfl)
theorem kq_F_X2_install {N : Nat} {l1 : Nat} {l2 : Nat} {l3 : Int32} {u : CSt}  : KCw (F_X2_install N l1 l2 l3 u) u := by
  unfold F_X2_install
  exact kq_B_X2_install_0.tr rfl
theorem kq_B_X0_opens_27 {N : Nat} {u : CSt}  : KCw (B_X0_opens_27 N u) u := by
  unfold B_X0_opens_27
  refine KCw_pc ?_
  refine KCw_bc (kq_F_X9_next.tr (fc_xI (by decide) rfl)) (fun _ _ => ?_)
  exact KCw_some rfl
theorem kq_B_X0_opens_20 {N : Nat} {u : CSt}  : KCw (B_X0_opens_20 N u) u := by
  unfold B_X0_opens_20
  refine KCw_bt (kq_F_X9_refuseToken.tr rfl) (fun _ _ => ?_)
  exact kq_B_X0_opens_27.tr rfl
theorem kq_B_X0_opens_0 {N : Nat} {l1 : Int32} {u : CSt}  : KCw (B_X0_opens_0 N l1 u) u := by
  unfold B_X0_opens_0
  refine KCw_bc (kq_F_X9_is.tr rfl) (fun _ _ => ?_)
  refine KCw_if ?_ ?_
  · skip
    exact kq_B_X0_opens_20.tr rfl
  · skip
    refine KCw_if ?_ ?_
    · skip
      exact kq_B_X0_opens_27.tr rfl
    · skip
      exact kq_B_X0_opens_20.tr rfl
theorem kq_F_X0_opens {N : Nat} {l1 : Int32} {u : CSt}  : KCw (F_X0_opens N l1 u) u := by
  unfold F_X0_opens
  exact kq_B_X0_opens_0.tr rfl
theorem kq_B_X0_closes_0 {N : Nat} {l1 : Int32} {u : CSt}  : KCw (B_X0_closes_0 N l1 u) u := by
  unfold B_X0_closes_0
  refine KCw_bt (kq_F_X9_take.tr rfl) (fun _ _ => ?_)
  refine KCw_pc ?_
  exact KCw_some (fc_xI (by decide) rfl)
theorem kq_F_X0_closes {N : Nat} {l1 : Int32} {u : CSt}  : KCw (F_X0_closes N l1 u) u := by
  unfold F_X0_closes
  exact kq_B_X0_closes_0.tr rfl
theorem kq_B_X0_kind_17 {N : Nat} {u : CSt}  : KCw (B_X0_kind_17 N u) u := by
  unfold B_X0_kind_17
  refine KCw_bc (kq_F_X9_next.tr rfl) (fun _ _ => ?_)
  exact KCw_some rfl
theorem kq_B_X0_kind_0 {N : Nat} {u : CSt}  : KCw (B_X0_kind_0 N u) u := by
  unfold B_X0_kind_0
  refine KCw_bc (kq_F_X9_isKindWord.tr rfl) (fun _ _ => ?_)
  refine KCw_if ?_ ?_
  · skip
    refine KCw_bt (kq_F_X9_refuseToken.tr rfl) (fun _ _ => ?_)
    exact kq_B_X0_kind_17.tr rfl
  · skip
    exact kq_B_X0_kind_17.tr rfl
theorem kq_F_X0_kind {N : Nat} {u : CSt}  : KCw (F_X0_kind N u) u := by
  unfold F_X0_kind
  exact kq_B_X0_kind_0.tr rfl
theorem kq_B_X0_constant_52 {N : Nat} {u : CSt}  : KCw (B_X0_constant_52 N u) u := by
  unfold B_X0_constant_52
  refine KCw_bc (kq_F_X9_next.tr rfl) (fun _ _ => ?_)
  exact KCw_some rfl
theorem kq_B_X0_constant_19 {N : Nat} {u : CSt}  : KCw (B_X0_constant_19 N u) u := by
  unfold B_X0_constant_19
  refine KCw_bc (kq_F_X9_is.tr rfl) (fun _ _ => ?_)
  refine KCw_if ?_ ?_
  · skip
    refine KCw_bc (kq_F_X9_is.tr rfl) (fun _ _ => ?_)
    refine KCw_if ?_ ?_
    · skip
      refine KCw_bt (kq_F_X9_refuseToken.tr rfl) (fun _ _ => ?_)
      exact kq_B_X0_constant_52.tr rfl
    · skip
      exact kq_B_X0_constant_52.tr rfl
  · skip
    exact kq_B_X0_constant_52.tr rfl
theorem kq_B_X0_constant_0 {N : Nat} {u : CSt}  : KCw (B_X0_constant_0 N u) u := by
  unfold B_X0_constant_0
  refine KCw_bc (kq_F_X9_is.tr rfl) (fun _ _ => ?_)
  refine KCw_if ?_ ?_
  · skip
    exact kq_B_X0_constant_19.tr rfl
  · skip
    refine KCw_bc (kq_F_X9_next.tr rfl) (fun _ _ => ?_)
    exact kq_B_X0_constant_19.tr rfl
theorem kq_F_X0_constant {N : Nat} {u : CSt}  : KCw (F_X0_constant N u) u := by
  unfold F_X0_constant
  exact kq_B_X0_constant_0.tr rfl
theorem kq_B_X0_oneVariable_44 {N : Nat} {u : CSt}  : KCw (B_X0_oneVariable_44 N u) u := by
  unfold B_X0_oneVariable_44
  refine KCw_bc (kq_F_X9_is.tr rfl) (fun _ _ => ?_)
  refine KCw_if ?_ ?_
  · skip
    exact KCw_some rfl
  · skip
    refine KCw_bc (kq_F_X9_next.tr rfl) (fun _ _ => ?_)
    refine KCw_bt (kq_F_X0_constant.tr rfl) (fun _ _ => ?_)
    exact KCw_some rfl
theorem kq_B_X0_oneVariable_0 {N : Nat} {u : CSt}  : KCw (B_X0_oneVariable_0 N u) u := by
  unfold B_X0_oneVariable_0
  refine KCw_bt (kq_F_X9_take.tr rfl) (fun _ _ => ?_)
  refine KCw_bc (kq_F_X9_is.tr rfl) (fun _ _ => ?_)
  refine KCw_if ?_ ?_
  · skip
    exact kq_B_X0_oneVariable_44.tr rfl
  · skip
    refine KCw_bt (kq_F_X0_opens.tr rfl) (fun _ _ => ?_)
    refine KCw_bt (kq_F_X9_take.tr rfl) (fun _ _ => ?_)
    refine KCw_bt (kq_F_X0_closes.tr rfl) (fun _ _ => ?_)
    exact kq_B_X0_oneVariable_44.tr rfl
theorem kq_F_X0_oneVariable {N : Nat} {u : CSt}  : KCw (F_X0_oneVariable N u) u := by
  unfold F_X0_oneVariable
  exact kq_B_X0_oneVariable_0.tr rfl
theorem kq_B_X0_variables_53 {N : Nat} {u : CSt}  : KCw (B_X0_variables_53 N u) u := by
  unfold B_X0_variables_53
  refine KCw_bt (kq_F_X9_take.tr rfl) (fun _ _ => ?_)
  exact KCw_some rfl
theorem kq_B_X0_variables_17 {N : Nat} {R_17 : Int32 × CSt → Option ((Sum Nat Int32) × CSt)} {l1 : Int32} {u : CSt} (h_R_17 : ∀ a, KCw (R_17 a) a.2) : KCw (B_X0_variables_17 N R_17 l1 u) u := by
  unfold B_X0_variables_17
  refine KCw_if ?_ ?_
  · skip
    exact kq_B_X0_variables_53.tr rfl
  · skip
    refine KCw_bc (kq_F_X9_is.tr rfl) (fun _ _ => ?_)
    refine KCw_if ?_ ?_
    · skip
      exact kq_B_X0_variables_53.tr rfl
    · skip
      refine KCw_bc (kq_F_X9_next.tr rfl) (fun _ _ => ?_)
      refine KCw_bt (kq_F_X0_oneVariable.tr rfl) (fun _ _ => ?_)
      exact (h_R_17 _).tr rfl
theorem kq_LP_X0_variables_17 {N : Nat}  (n : Nat) : ∀ a : Int32 × CSt, KCw (LP_X0_variables_17 N n a) a.2 := by
  induction n with
  | zero => exact fun a r z e => by have e : (none : Option _) = some (r, z) := e; cases e
  | succ n ih =>
    intro a
    show KCw (B_X0_variables_17 N (LP_X0_variables_17 N n) a.1 a.2) a.2
    exact kq_B_X0_variables_17 ih
theorem kq_B_X0_variables_0 {N : Nat} {u : CSt}  : KCw (B_X0_variables_0 N u) u := by
  unfold B_X0_variables_0
  refine KCw_bc (kq_F_X9_next.tr rfl) (fun _ _ => ?_)
  refine KCw_bt (kq_F_X0_kind.tr rfl) (fun _ _ => ?_)
  refine KCw_bt (kq_F_X0_oneVariable.tr rfl) (fun _ _ => ?_)
  exact (kq_LP_X0_variables_17  _ _).tr rfl
theorem kq_F_X0_variables {N : Nat} {u : CSt}  : KCw (F_X0_variables N u) u := by
  unfold F_X0_variables
  exact kq_B_X0_variables_0.tr rfl
theorem kq_B_X0_placed_0 {N : Nat} {u : CSt}  : KCw (B_X0_placed_0 N u) u := by
  unfold B_X0_placed_0
  refine KCw_bc (kq_F_X9_next.tr rfl) (fun _ _ => ?_)
  refine KCw_bt (kq_F_X0_kind.tr rfl) (fun _ _ => ?_)
  refine KCw_bt (kq_F_X9_take.tr rfl) (fun _ _ => ?_)
  refine KCw_bt (kq_F_X9_take.tr rfl) (fun _ _ => ?_)
  refine KCw_bt (kq_F_X9_take.tr rfl) (fun _ _ => ?_)
  refine KCw_bt (kq_F_X9_take.tr rfl) (fun _ _ => ?_)
  exact KCw_some rfl
theorem kq_F_X0_placed {N : Nat} {u : CSt}  : KCw (F_X0_placed N u) u := by
  unfold F_X0_placed
  exact kq_B_X0_placed_0.tr rfl
theorem kq_B_X0_uses_71 {N : Nat} {u : CSt}  : KCw (B_X0_uses_71 N u) u := by
  unfold B_X0_uses_71
  refine KCw_bt (kq_F_X9_take.tr rfl) (fun _ _ => ?_)
  exact KCw_some rfl
theorem kq_B_X0_uses_29 {N : Nat} {R_29 : Int32 × CSt → Option ((Sum Nat Int32) × CSt)} {l1 : Int32} {u : CSt} (h_R_29 : ∀ a, KCw (R_29 a) a.2) : KCw (B_X0_uses_29 N R_29 l1 u) u := by
  unfold B_X0_uses_29
  refine KCw_if ?_ ?_
  · skip
    exact kq_B_X0_uses_71.tr rfl
  · skip
    refine KCw_bc (kq_F_X9_is.tr rfl) (fun _ _ => ?_)
    refine KCw_if ?_ ?_
    · skip
      exact kq_B_X0_uses_71.tr rfl
    · skip
      refine KCw_bc (kq_F_X9_next.tr rfl) (fun _ _ => ?_)
      refine KCw_bt (kq_F_X9_take.tr rfl) (fun _ _ => ?_)
      exact (h_R_29 _).tr rfl
theorem kq_LP_X0_uses_29 {N : Nat}  (n : Nat) : ∀ a : Int32 × CSt, KCw (LP_X0_uses_29 N n a) a.2 := by
  induction n with
  | zero => exact fun a r z e => by have e : (none : Option _) = some (r, z) := e; cases e
  | succ n ih =>
    intro a
    show KCw (B_X0_uses_29 N (LP_X0_uses_29 N n) a.1 a.2) a.2
    exact kq_B_X0_uses_29 ih
theorem kq_B_X0_uses_0 {N : Nat} {u : CSt}  : KCw (B_X0_uses_0 N u) u := by
  unfold B_X0_uses_0
  refine KCw_bc (kq_F_X9_next.tr rfl) (fun _ _ => ?_)
  refine KCw_bt (kq_F_X9_take.tr rfl) (fun _ _ => ?_)
  refine KCw_bt (kq_F_X9_take.tr rfl) (fun _ _ => ?_)
  exact (kq_LP_X0_uses_29  _ _).tr rfl
theorem kq_F_X0_uses {N : Nat} {u : CSt}  : KCw (F_X0_uses N u) u := by
  unfold F_X0_uses
  exact kq_B_X0_uses_0.tr rfl
theorem kq_B_X0_label_0 {N : Nat} {u : CSt}  : KCw (B_X0_label_0 N u) u := by
  unfold B_X0_label_0
  refine KCw_bt (kq_F_X0_constant.tr rfl) (fun _ _ => ?_)
  refine KCw_bc (kq_F_X9_is.tr rfl) (fun _ _ => ?_)
  refine KCw_if ?_ ?_
  · skip
    exact KCw_some rfl
  · skip
    refine KCw_bc (kq_F_X9_next.tr rfl) (fun _ _ => ?_)
    refine KCw_bt (kq_F_X0_constant.tr rfl) (fun _ _ => ?_)
    exact KCw_some rfl
theorem kq_F_X0_label {N : Nat} {u : CSt}  : KCw (F_X0_label N u) u := by
  unfold F_X0_label
  exact kq_B_X0_label_0.tr rfl
theorem kq_B_X0_bit_0 {N : Nat} {u : CSt}  : KCw (B_X0_bit_0 N u) u := by
  unfold B_X0_bit_0
  refine KCw_bc (kq_F_X9_is.tr rfl) (fun _ _ => ?_)
  refine KCw_if ?_ ?_
  · skip
    exact KCw_some rfl
  · skip
    refine KCw_bc (kq_F_X9_next.tr rfl) (fun _ _ => ?_)
    refine KCw_bt (kq_F_X9_take.tr rfl) (fun _ _ => ?_)
    exact KCw_some rfl
theorem kq_F_X0_bit {N : Nat} {u : CSt}  : KCw (F_X0_bit N u) u := by
  unfold F_X0_bit
  exact kq_B_X0_bit_0.tr rfl
theorem kq_B_X0_expression_43 {N : Nat} {ro : Nat → Nat → Int32 → Int32 → CSt → Option (Sum Nat Int32 × CSt)} {u : CSt} (h_ro : ∀ q z a b u, KCw (ro q z a b u) u) : KCw (B_X0_expression_43 N ro u) u := by
  unfold B_X0_expression_43
  refine KCw_bc (kq_F_X9_is.tr rfl) (fun _ _ => ?_)
  refine KCw_if ?_ ?_
  · skip
    exact KCw_some rfl
  · skip
    refine KCw_bt (kq_F_X0_opens.tr rfl) (fun _ _ => ?_)
    refine KCw_bt ((h_ro _ _ _ _ _).tr rfl) (fun _ _ => ?_)
    refine KCw_bt (kq_F_X9_take.tr rfl) (fun _ _ => ?_)
    refine KCw_bt ((h_ro _ _ _ _ _).tr rfl) (fun _ _ => ?_)
    refine KCw_pc ?_
    exact KCw_some (fc_xI (by decide) rfl)
theorem kq_B_X0_expression_6 {N : Nat} {ro : Nat → Nat → Int32 → Int32 → CSt → Option (Sum Nat Int32 × CSt)} {R_6 : Int32 × CSt → Option ((Sum Nat Int32) × CSt)} {l1 : Int32} {u : CSt} (h_ro : ∀ q z a b u, KCw (ro q z a b u) u) (h_R_6 : ∀ a, KCw (R_6 a) a.2) : KCw (B_X0_expression_6 N ro R_6 l1 u) u := by
  unfold B_X0_expression_6
  refine KCw_if ?_ ?_
  · skip
    exact (kq_B_X0_expression_43 h_ro).tr rfl
  · skip
    refine KCw_bc (kq_F_X9_type.tr rfl) (fun _ _ => ?_)
    refine KCw_pb (fun _ => ?_)
    refine KCw_if ?_ ?_
    · skip
      exact (kq_B_X0_expression_43 h_ro).tr rfl
    · skip
      refine KCw_bc (kq_F_X9_next.tr rfl) (fun _ _ => ?_)
      refine KCw_bt ((h_ro _ _ _ _ _).tr rfl) (fun _ _ => ?_)
      exact (h_R_6 _).tr rfl
theorem kq_LP_X0_expression_6 {N : Nat} {ro : Nat → Nat → Int32 → Int32 → CSt → Option (Sum Nat Int32 × CSt)} (h_ro : ∀ q z a b u, KCw (ro q z a b u) u) (n : Nat) : ∀ a : Int32 × CSt, KCw (LP_X0_expression_6 N ro n a) a.2 := by
  induction n with
  | zero => exact fun a r z e => by have e : (none : Option _) = some (r, z) := e; cases e
  | succ n ih =>
    intro a
    show KCw (B_X0_expression_6 N ro (LP_X0_expression_6 N ro n) a.1 a.2) a.2
    exact kq_B_X0_expression_6 h_ro ih
theorem kq_B_X0_expression_0 {N : Nat} {ro : Nat → Nat → Int32 → Int32 → CSt → Option (Sum Nat Int32 × CSt)} {u : CSt} (h_ro : ∀ q z a b u, KCw (ro q z a b u) u) : KCw (B_X0_expression_0 N ro u) u := by
  unfold B_X0_expression_0
  refine KCw_bt ((h_ro _ _ _ _ _).tr rfl) (fun _ _ => ?_)
  exact (kq_LP_X0_expression_6 h_ro _ _).tr rfl
theorem kq_F_X0_expression {N : Nat} {ro : Nat → Nat → Int32 → Int32 → CSt → Option (Sum Nat Int32 × CSt)} {u : CSt} (h_ro : ∀ q z a b u, KCw (ro q z a b u) u) : KCw (F_X0_expression N ro u) u := by
  unfold F_X0_expression
  exact (kq_B_X0_expression_0 h_ro).tr rfl
theorem kq_B_X0_operand_0 {N : Nat} {ro : Nat → Nat → Int32 → Int32 → CSt → Option (Sum Nat Int32 × CSt)} {u : CSt} (h_ro : ∀ q z a b u, KCw (ro q z a b u) u) : KCw (B_X0_operand_0 N ro u) u := by
  unfold B_X0_operand_0
  refine KCw_bc (kq_F_X9_type.tr rfl) (fun _ _ => ?_)
  refine KCw_if ?_ ?_
  · skip
    refine KCw_bc (kq_F_X9_next.tr rfl) (fun _ _ => ?_)
    exact KCw_some rfl
  · skip
    refine KCw_if ?_ ?_
    · skip
      refine KCw_bc (kq_F_X9_type.tr rfl) (fun _ _ => ?_)
      refine KCw_bt (kq_F_X0_opens.tr rfl) (fun _ _ => ?_)
      refine KCw_bt ((h_ro _ _ _ _ _).tr rfl) (fun _ _ => ?_)
      refine KCw_pc ?_
      exact KCw_some (fc_xI (by decide) rfl)
    · skip
      refine KCw_if ?_ ?_
      · skip
        refine KCw_bt ((h_ro _ _ _ _ _).tr rfl) (fun _ _ => ?_)
        exact KCw_some rfl
      · skip
        refine KCw_if ?_ ?_
        · skip
          refine KCw_bc (kq_F_X9_type.tr rfl) (fun _ _ => ?_)
          refine KCw_bt (kq_F_X0_opens.tr rfl) (fun _ _ => ?_)
          refine KCw_bt ((h_ro _ _ _ _ _).tr rfl) (fun _ _ => ?_)
          refine KCw_pc ?_
          exact KCw_some (fc_xI (by decide) rfl)
        · skip
          refine KCw_if ?_ ?_
          · skip
            refine KCw_bc (kq_F_X9_type.tr rfl) (fun _ _ => ?_)
            refine KCw_bt (kq_F_X0_opens.tr rfl) (fun _ _ => ?_)
            refine KCw_bt ((h_ro _ _ _ _ _).tr rfl) (fun _ _ => ?_)
            refine KCw_pc ?_
            exact KCw_some (fc_xI (by decide) rfl)
          · skip
            refine KCw_if ?_ ?_
            · skip
              refine KCw_bt ((h_ro _ _ _ _ _).tr rfl) (fun _ _ => ?_)
              exact KCw_some rfl
            · skip
              refine KCw_if ?_ ?_
              · skip
                refine KCw_bc (kq_F_X9_next.tr rfl) (fun _ _ => ?_)
                exact KCw_some rfl
              · skip
                refine KCw_if ?_ ?_
                · skip
                  refine KCw_bc (kq_F_X9_next.tr rfl) (fun _ _ => ?_)
                  exact KCw_some rfl
                · skip
                  refine KCw_bt (kq_F_X9_refuseToken.tr rfl) (fun _ _ => ?_)
                  exact KCw_some rfl
theorem kq_F_X0_operand {N : Nat} {ro : Nat → Nat → Int32 → Int32 → CSt → Option (Sum Nat Int32 × CSt)} {u : CSt} (h_ro : ∀ q z a b u, KCw (ro q z a b u) u) : KCw (F_X0_operand N ro u) u := by
  unfold F_X0_operand
  exact (kq_B_X0_operand_0 h_ro).tr rfl
theorem kq_B_X0_bracket_0 {N : Nat} {ro : Nat → Nat → Int32 → Int32 → CSt → Option (Sum Nat Int32 × CSt)} {u : CSt} (h_ro : ∀ q z a b u, KCw (ro q z a b u) u) : KCw (B_X0_bracket_0 N ro u) u := by
  unfold B_X0_bracket_0
  refine KCw_bt (kq_F_X0_opens.tr rfl) (fun _ _ => ?_)
  refine KCw_bc (kq_F_X9_isKindWord.tr rfl) (fun _ _ => ?_)
  refine KCw_if ?_ ?_
  · skip
    refine KCw_bt ((h_ro _ _ _ _ _).tr rfl) (fun _ _ => ?_)
    refine KCw_bt (kq_F_X0_closes.tr rfl) (fun _ _ => ?_)
    exact KCw_some rfl
  · skip
    refine KCw_bc (kq_F_X9_next.tr rfl) (fun _ _ => ?_)
    refine KCw_bt (kq_F_X9_take.tr rfl) (fun _ _ => ?_)
    refine KCw_bt ((h_ro _ _ _ _ _).tr rfl) (fun _ _ => ?_)
    refine KCw_pc ?_
    exact KCw_some (fc_xI (by decide) rfl)
theorem kq_F_X0_bracket {N : Nat} {ro : Nat → Nat → Int32 → Int32 → CSt → Option (Sum Nat Int32 × CSt)} {u : CSt} (h_ro : ∀ q z a b u, KCw (ro q z a b u) u) : KCw (F_X0_bracket N ro u) u := by
  unfold F_X0_bracket
  exact (kq_B_X0_bracket_0 h_ro).tr rfl
theorem kq_B_X0_namedOperand_73 {N : Nat} {ro : Nat → Nat → Int32 → Int32 → CSt → Option (Sum Nat Int32 × CSt)} {u : CSt} (h_ro : ∀ q z a b u, KCw (ro q z a b u) u) : KCw (B_X0_namedOperand_73 N ro u) u := by
  unfold B_X0_namedOperand_73
  refine KCw_bt ((h_ro _ _ _ _ _).tr rfl) (fun _ _ => ?_)
  refine KCw_bt (kq_F_X0_bit.tr rfl) (fun _ _ => ?_)
  exact KCw_some rfl
theorem kq_B_X0_namedOperand_0 {N : Nat} {ro : Nat → Nat → Int32 → Int32 → CSt → Option (Sum Nat Int32 × CSt)} {u : CSt} (h_ro : ∀ q z a b u, KCw (ro q z a b u) u) : KCw (B_X0_namedOperand_0 N ro u) u := by
  unfold B_X0_namedOperand_0
  refine KCw_bc (kq_F_X9_next.tr rfl) (fun _ _ => ?_)
  refine KCw_bc (kq_F_X9_is.tr rfl) (fun _ _ => ?_)
  refine KCw_if ?_ ?_
  · skip
    refine KCw_bc (kq_F_X9_is.tr rfl) (fun _ _ => ?_)
    refine KCw_if ?_ ?_
    · skip
      exact (kq_B_X0_namedOperand_73 h_ro).tr rfl
    · skip
      refine KCw_bc (kq_F_X9_typeAhead.tr rfl) (fun _ _ => ?_)
      refine KCw_if ?_ ?_
      · skip
        refine KCw_bc (kq_F_X9_next.tr rfl) (fun _ _ => ?_)
        refine KCw_bc (kq_F_X9_next.tr rfl) (fun _ _ => ?_)
        refine KCw_bt ((h_ro _ _ _ _ _).tr rfl) (fun _ _ => ?_)
        exact KCw_some rfl
      · skip
        exact (kq_B_X0_namedOperand_73 h_ro).tr rfl
  · skip
    refine KCw_bt ((h_ro _ _ _ _ _).tr rfl) (fun _ _ => ?_)
    exact KCw_some rfl
theorem kq_F_X0_namedOperand {N : Nat} {ro : Nat → Nat → Int32 → Int32 → CSt → Option (Sum Nat Int32 × CSt)} {u : CSt} (h_ro : ∀ q z a b u, KCw (ro q z a b u) u) : KCw (F_X0_namedOperand N ro u) u := by
  unfold F_X0_namedOperand
  exact (kq_B_X0_namedOperand_0 h_ro).tr rfl
theorem kq_B_X0_arguments_60 {N : Nat} {ro : Nat → Nat → Int32 → Int32 → CSt → Option (Sum Nat Int32 × CSt)} {u : CSt} (h_ro : ∀ q z a b u, KCw (ro q z a b u) u) : KCw (B_X0_arguments_60 N ro u) u := by
  unfold B_X0_arguments_60
  refine KCw_bt (kq_F_X0_closes.tr rfl) (fun _ _ => ?_)
  exact KCw_some rfl
theorem kq_B_X0_arguments_24 {N : Nat} {ro : Nat → Nat → Int32 → Int32 → CSt → Option (Sum Nat Int32 × CSt)} {R_24 : Int32 × CSt → Option ((Sum Nat Int32) × CSt)} {l1 : Int32} {u : CSt} (h_ro : ∀ q z a b u, KCw (ro q z a b u) u) (h_R_24 : ∀ a, KCw (R_24 a) a.2) : KCw (B_X0_arguments_24 N ro R_24 l1 u) u := by
  unfold B_X0_arguments_24
  refine KCw_if ?_ ?_
  · skip
    exact (kq_B_X0_arguments_60 h_ro).tr rfl
  · skip
    refine KCw_bc (kq_F_X9_is.tr rfl) (fun _ _ => ?_)
    refine KCw_if ?_ ?_
    · skip
      exact (kq_B_X0_arguments_60 h_ro).tr rfl
    · skip
      refine KCw_bc (kq_F_X9_next.tr rfl) (fun _ _ => ?_)
      refine KCw_bt ((h_ro _ _ _ _ _).tr rfl) (fun _ _ => ?_)
      exact (h_R_24 _).tr rfl
theorem kq_LP_X0_arguments_24 {N : Nat} {ro : Nat → Nat → Int32 → Int32 → CSt → Option (Sum Nat Int32 × CSt)} (h_ro : ∀ q z a b u, KCw (ro q z a b u) u) (n : Nat) : ∀ a : Int32 × CSt, KCw (LP_X0_arguments_24 N ro n a) a.2 := by
  induction n with
  | zero => exact fun a r z e => by have e : (none : Option _) = some (r, z) := e; cases e
  | succ n ih =>
    intro a
    show KCw (B_X0_arguments_24 N ro (LP_X0_arguments_24 N ro n) a.1 a.2) a.2
    exact kq_B_X0_arguments_24 h_ro ih
theorem kq_B_X0_arguments_22 {N : Nat} {ro : Nat → Nat → Int32 → Int32 → CSt → Option (Sum Nat Int32 × CSt)} {u : CSt} (h_ro : ∀ q z a b u, KCw (ro q z a b u) u) : KCw (B_X0_arguments_22 N ro u) u := by
  unfold B_X0_arguments_22
  exact (kq_LP_X0_arguments_24 h_ro _ _).tr rfl
theorem kq_B_X0_arguments_0 {N : Nat} {ro : Nat → Nat → Int32 → Int32 → CSt → Option (Sum Nat Int32 × CSt)} {u : CSt} (h_ro : ∀ q z a b u, KCw (ro q z a b u) u) : KCw (B_X0_arguments_0 N ro u) u := by
  unfold B_X0_arguments_0
  refine KCw_bt (kq_F_X0_opens.tr rfl) (fun _ _ => ?_)
  refine KCw_bc (kq_F_X9_is.tr rfl) (fun _ _ => ?_)
  refine KCw_if ?_ ?_
  · skip
    refine KCw_bt ((h_ro _ _ _ _ _).tr rfl) (fun _ _ => ?_)
    exact (kq_B_X0_arguments_22 h_ro).tr rfl
  · skip
    exact (kq_B_X0_arguments_22 h_ro).tr rfl
theorem kq_F_X0_arguments {N : Nat} {ro : Nat → Nat → Int32 → Int32 → CSt → Option (Sum Nat Int32 × CSt)} {u : CSt} (h_ro : ∀ q z a b u, KCw (ro q z a b u) u) : KCw (F_X0_arguments N ro u) u := by
  unfold F_X0_arguments
  exact (kq_B_X0_arguments_0 h_ro).tr rfl
theorem kq_B_X0_index_0 {N : Nat} {ro : Nat → Nat → Int32 → Int32 → CSt → Option (Sum Nat Int32 × CSt)} {u : CSt} (h_ro : ∀ q z a b u, KCw (ro q z a b u) u) : KCw (B_X0_index_0 N ro u) u := by
  unfold B_X0_index_0
  refine KCw_bc (kq_F_X9_is.tr rfl) (fun _ _ => ?_)
  refine KCw_if ?_ ?_
  · skip
    exact KCw_some rfl
  · skip
    refine KCw_bt (kq_F_X0_opens.tr rfl) (fun _ _ => ?_)
    refine KCw_bt ((h_ro _ _ _ _ _).tr rfl) (fun _ _ => ?_)
    refine KCw_bt (kq_F_X0_closes.tr rfl) (fun _ _ => ?_)
    exact KCw_some rfl
theorem kq_F_X0_index {N : Nat} {ro : Nat → Nat → Int32 → Int32 → CSt → Option (Sum Nat Int32 × CSt)} {u : CSt} (h_ro : ∀ q z a b u, KCw (ro q z a b u) u) : KCw (F_X0_index N ro u) u := by
  unfold F_X0_index
  exact (kq_B_X0_index_0 h_ro).tr rfl
theorem kq_FGE_ {N : Nat} : ∀ (d q z : Nat) (a b : Int32) (u : CSt), KCw (FGE_ N d q z a b u) u := by
  intro d
  induction d with
  | zero => exact fun q z a b u => KCw_none
  | succ d ih =>
    intro q z a b u
    show KCw (if q = 0 then F_X0_expression N (FGE_ N d) u else if q = 1 then F_X0_operand N (FGE_ N d) u else if q = 2 then F_X0_bracket N (FGE_ N d) u else if q = 3 then F_X0_namedOperand N (FGE_ N d) u else if q = 4 then F_X0_arguments N (FGE_ N d) u else if q = 5 then F_X0_index N (FGE_ N d) u else none) u
    refine KCw_if (kq_F_X0_expression ih) ?_
    refine KCw_if (kq_F_X0_operand ih) ?_
    refine KCw_if (kq_F_X0_bracket ih) ?_
    refine KCw_if (kq_F_X0_namedOperand ih) ?_
    refine KCw_if (kq_F_X0_arguments ih) ?_
    refine KCw_if (kq_F_X0_index ih) ?_
    exact KCw_none
theorem kq_G_X0_expression {N : Nat} {u : CSt} : KCw (G_X0_expression N u) u := kq_FGE_ _ _ _ _ _ _
theorem kq_G_X0_arguments {N : Nat} {u : CSt} : KCw (G_X0_arguments N u) u := kq_FGE_ _ _ _ _ _ _
theorem kq_G_X0_index {N : Nat} {u : CSt} : KCw (G_X0_index N u) u := kq_FGE_ _ _ _ _ _ _
theorem kq_B_X0_named_108 {N : Nat} {u : CSt}  : KCw (B_X0_named_108 N u) u := by
  unfold B_X0_named_108
  refine KCw_bt (kq_F_X9_take.tr rfl) (fun _ _ => ?_)
  exact KCw_some rfl
theorem kq_B_X0_named_63 {N : Nat} {u : CSt}  : KCw (B_X0_named_63 N u) u := by
  unfold B_X0_named_63
  refine KCw_bc (kq_F_X9_next.tr rfl) (fun _ _ => ?_)
  refine KCw_bt (kq_G_X0_expression.tr rfl) (fun _ _ => ?_)
  exact kq_B_X0_named_108.tr rfl
theorem kq_B_X0_named_91 {N : Nat} {u : CSt}  : KCw (B_X0_named_91 N u) u := by
  unfold B_X0_named_91
  refine KCw_bc (kq_F_X9_next.tr rfl) (fun _ _ => ?_)
  exact kq_B_X0_named_108.tr rfl
theorem kq_B_X0_named_0 {N : Nat} {u : CSt}  : KCw (B_X0_named_0 N u) u := by
  unfold B_X0_named_0
  refine KCw_bc (kq_F_X9_next.tr rfl) (fun _ _ => ?_)
  refine KCw_bc (kq_F_X9_is.tr rfl) (fun _ _ => ?_)
  refine KCw_if ?_ ?_
  · skip
    refine KCw_bt (kq_G_X0_index.tr rfl) (fun _ _ => ?_)
    refine KCw_bt (kq_F_X0_bit.tr rfl) (fun _ _ => ?_)
    refine KCw_bc (kq_F_X9_type.tr rfl) (fun _ _ => ?_)
    refine KCw_if ?_ ?_
    · skip
      exact kq_B_X0_named_63.tr rfl
    · skip
      refine KCw_pb (fun _ => ?_)
      refine KCw_if ?_ ?_
      · skip
        refine KCw_if ?_ ?_
        · skip
          exact kq_B_X0_named_91.tr rfl
        · skip
          refine KCw_if ?_ ?_
          · skip
            exact kq_B_X0_named_91.tr rfl
          · skip
            refine KCw_bt (kq_F_X9_refuseToken.tr rfl) (fun _ _ => ?_)
            exact kq_B_X0_named_108.tr rfl
      · skip
        exact kq_B_X0_named_63.tr rfl
  · skip
    refine KCw_bt (kq_G_X0_arguments.tr rfl) (fun _ _ => ?_)
    refine KCw_bt (kq_F_X9_take.tr rfl) (fun _ _ => ?_)
    exact KCw_some rfl
theorem kq_F_X0_named {N : Nat} {u : CSt}  : KCw (F_X0_named N u) u := by
  unfold F_X0_named
  exact kq_B_X0_named_0.tr rfl
theorem kq_B_X0_returned_23 {N : Nat} {u : CSt}  : KCw (B_X0_returned_23 N u) u := by
  unfold B_X0_returned_23
  refine KCw_bt (kq_F_X9_take.tr rfl) (fun _ _ => ?_)
  exact KCw_some rfl
theorem kq_B_X0_returned_0 {N : Nat} {u : CSt}  : KCw (B_X0_returned_0 N u) u := by
  unfold B_X0_returned_0
  refine KCw_bc (kq_F_X9_next.tr rfl) (fun _ _ => ?_)
  refine KCw_bc (kq_F_X9_is.tr rfl) (fun _ _ => ?_)
  refine KCw_if ?_ ?_
  · skip
    refine KCw_bt (kq_G_X0_expression.tr rfl) (fun _ _ => ?_)
    exact kq_B_X0_returned_23.tr rfl
  · skip
    exact kq_B_X0_returned_23.tr rfl
theorem kq_F_X0_returned {N : Nat} {u : CSt}  : KCw (F_X0_returned N u) u := by
  unfold F_X0_returned
  exact kq_B_X0_returned_0.tr rfl
theorem kq_B_X0_body_0 {N : Nat} {ro : Nat → Nat → Int32 → Int32 → CSt → Option (Sum Nat Int32 × CSt)} {u : CSt} (h_ro : ∀ q z a b u, KCw (ro q z a b u) u) : KCw (B_X0_body_0 N ro u) u := by
  unfold B_X0_body_0
  refine KCw_bt (kq_F_X0_opens.tr rfl) (fun _ _ => ?_)
  refine KCw_bt ((h_ro _ _ _ _ _).tr rfl) (fun _ _ => ?_)
  exact KCw_some rfl
theorem kq_F_X0_body {N : Nat} {ro : Nat → Nat → Int32 → Int32 → CSt → Option (Sum Nat Int32 × CSt)} {u : CSt} (h_ro : ∀ q z a b u, KCw (ro q z a b u) u) : KCw (F_X0_body N ro u) u := by
  unfold F_X0_body
  exact (kq_B_X0_body_0 h_ro).tr rfl
theorem kq_B_X0_statements_31 {N : Nat} {ro : Nat → Nat → Int32 → Int32 → CSt → Option (Sum Nat Int32 × CSt)} {u : CSt} (h_ro : ∀ q z a b u, KCw (ro q z a b u) u) : KCw (B_X0_statements_31 N ro u) u := by
  unfold B_X0_statements_31
  refine KCw_bt (kq_F_X0_closes.tr rfl) (fun _ _ => ?_)
  exact KCw_some rfl
theorem kq_B_X0_statements_2 {N : Nat} {ro : Nat → Nat → Int32 → Int32 → CSt → Option (Sum Nat Int32 × CSt)} {R_2 : Int32 × CSt → Option ((Sum Nat Int32) × CSt)} {l1 : Int32} {u : CSt} (h_ro : ∀ q z a b u, KCw (ro q z a b u) u) (h_R_2 : ∀ a, KCw (R_2 a) a.2) : KCw (B_X0_statements_2 N ro R_2 l1 u) u := by
  unfold B_X0_statements_2
  refine KCw_if ?_ ?_
  · skip
    exact (kq_B_X0_statements_31 h_ro).tr rfl
  · skip
    refine KCw_bc (kq_F_X9_is.tr rfl) (fun _ _ => ?_)
    refine KCw_if ?_ ?_
    · skip
      refine KCw_bt ((h_ro _ _ _ _ _).tr rfl) (fun _ _ => ?_)
      exact (h_R_2 _).tr rfl
    · skip
      exact (kq_B_X0_statements_31 h_ro).tr rfl
theorem kq_LP_X0_statements_2 {N : Nat} {ro : Nat → Nat → Int32 → Int32 → CSt → Option (Sum Nat Int32 × CSt)} (h_ro : ∀ q z a b u, KCw (ro q z a b u) u) (n : Nat) : ∀ a : Int32 × CSt, KCw (LP_X0_statements_2 N ro n a) a.2 := by
  induction n with
  | zero => exact fun a r z e => by have e : (none : Option _) = some (r, z) := e; cases e
  | succ n ih =>
    intro a
    show KCw (B_X0_statements_2 N ro (LP_X0_statements_2 N ro n) a.1 a.2) a.2
    exact kq_B_X0_statements_2 h_ro ih
theorem kq_B_X0_statements_0 {N : Nat} {ro : Nat → Nat → Int32 → Int32 → CSt → Option (Sum Nat Int32 × CSt)} {u : CSt} (h_ro : ∀ q z a b u, KCw (ro q z a b u) u) : KCw (B_X0_statements_0 N ro u) u := by
  unfold B_X0_statements_0
  exact (kq_LP_X0_statements_2 h_ro _ _).tr rfl
theorem kq_F_X0_statements {N : Nat} {ro : Nat → Nat → Int32 → Int32 → CSt → Option (Sum Nat Int32 × CSt)} {u : CSt} (h_ro : ∀ q z a b u, KCw (ro q z a b u) u) : KCw (F_X0_statements N ro u) u := by
  unfold F_X0_statements
  exact (kq_B_X0_statements_0 h_ro).tr rfl
theorem kq_B_X0_statement_0 {N : Nat} {ro : Nat → Nat → Int32 → Int32 → CSt → Option (Sum Nat Int32 × CSt)} {u : CSt} (h_ro : ∀ q z a b u, KCw (ro q z a b u) u) : KCw (B_X0_statement_0 N ro u) u := by
  unfold B_X0_statement_0
  refine KCw_bc (kq_F_X9_type.tr rfl) (fun _ _ => ?_)
  refine KCw_if ?_ ?_
  · skip
    refine KCw_bt ((h_ro _ _ _ _ _).tr rfl) (fun _ _ => ?_)
    exact KCw_some rfl
  · skip
    refine KCw_if ?_ ?_
    · skip
      refine KCw_bc (kq_F_X9_next.tr rfl) (fun _ _ => ?_)
      refine KCw_bt (kq_G_X0_expression.tr rfl) (fun _ _ => ?_)
      refine KCw_bt ((h_ro _ _ _ _ _).tr rfl) (fun _ _ => ?_)
      exact KCw_some rfl
    · skip
      refine KCw_if ?_ ?_
      · skip
        refine KCw_bt ((h_ro _ _ _ _ _).tr rfl) (fun _ _ => ?_)
        exact KCw_some rfl
      · skip
        refine KCw_if ?_ ?_
        · skip
          refine KCw_bt ((h_ro _ _ _ _ _).tr rfl) (fun _ _ => ?_)
          exact KCw_some rfl
        · skip
          refine KCw_if ?_ ?_
          · skip
            refine KCw_bc (kq_F_X9_next.tr rfl) (fun _ _ => ?_)
            refine KCw_bt (kq_F_X9_take.tr rfl) (fun _ _ => ?_)
            exact KCw_some rfl
          · skip
            refine KCw_if ?_ ?_
            · skip
              refine KCw_bc (kq_F_X9_next.tr rfl) (fun _ _ => ?_)
              refine KCw_bt (kq_F_X9_take.tr rfl) (fun _ _ => ?_)
              exact KCw_some rfl
            · skip
              refine KCw_if ?_ ?_
              · skip
                refine KCw_bt (kq_F_X0_returned.tr rfl) (fun _ _ => ?_)
                exact KCw_some rfl
              · skip
                refine KCw_if ?_ ?_
                · skip
                  refine KCw_bc (kq_F_X9_next.tr rfl) (fun _ _ => ?_)
                  refine KCw_bt (kq_G_X0_expression.tr rfl) (fun _ _ => ?_)
                  refine KCw_bt (kq_F_X9_take.tr rfl) (fun _ _ => ?_)
                  exact KCw_some rfl
                · skip
                  refine KCw_if ?_ ?_
                  · skip
                    refine KCw_bt (kq_F_X0_named.tr rfl) (fun _ _ => ?_)
                    exact KCw_some rfl
                  · skip
                    refine KCw_bt (kq_F_X9_refuseToken.tr rfl) (fun _ _ => ?_)
                    exact KCw_some rfl
theorem kq_F_X0_statement {N : Nat} {ro : Nat → Nat → Int32 → Int32 → CSt → Option (Sum Nat Int32 × CSt)} {u : CSt} (h_ro : ∀ q z a b u, KCw (ro q z a b u) u) : KCw (F_X0_statement N ro u) u := by
  unfold F_X0_statement
  exact (kq_B_X0_statement_0 h_ro).tr rfl
theorem kq_B_X0_choice_57 {N : Nat} {ro : Nat → Nat → Int32 → Int32 → CSt → Option (Sum Nat Int32 × CSt)} {u : CSt} (h_ro : ∀ q z a b u, KCw (ro q z a b u) u) : KCw (B_X0_choice_57 N ro u) u := by
  unfold B_X0_choice_57
  refine KCw_bc (kq_F_X9_is.tr rfl) (fun _ _ => ?_)
  refine KCw_if ?_ ?_
  · skip
    exact KCw_some rfl
  · skip
    refine KCw_bc (kq_F_X9_next.tr rfl) (fun _ _ => ?_)
    refine KCw_bt ((h_ro _ _ _ _ _).tr rfl) (fun _ _ => ?_)
    exact KCw_some rfl
theorem kq_B_X0_choice_17 {N : Nat} {ro : Nat → Nat → Int32 → Int32 → CSt → Option (Sum Nat Int32 × CSt)} {R_17 : Int32 × CSt → Option ((Sum Nat Int32) × CSt)} {l1 : Int32} {u : CSt} (h_ro : ∀ q z a b u, KCw (ro q z a b u) u) (h_R_17 : ∀ a, KCw (R_17 a) a.2) : KCw (B_X0_choice_17 N ro R_17 l1 u) u := by
  unfold B_X0_choice_17
  refine KCw_if ?_ ?_
  · skip
    exact (kq_B_X0_choice_57 h_ro).tr rfl
  · skip
    refine KCw_bc (kq_F_X9_is.tr rfl) (fun _ _ => ?_)
    refine KCw_if ?_ ?_
    · skip
      exact (kq_B_X0_choice_57 h_ro).tr rfl
    · skip
      refine KCw_bc (kq_F_X9_next.tr rfl) (fun _ _ => ?_)
      refine KCw_bt (kq_G_X0_expression.tr rfl) (fun _ _ => ?_)
      refine KCw_bt ((h_ro _ _ _ _ _).tr rfl) (fun _ _ => ?_)
      exact (h_R_17 _).tr rfl
theorem kq_LP_X0_choice_17 {N : Nat} {ro : Nat → Nat → Int32 → Int32 → CSt → Option (Sum Nat Int32 × CSt)} (h_ro : ∀ q z a b u, KCw (ro q z a b u) u) (n : Nat) : ∀ a : Int32 × CSt, KCw (LP_X0_choice_17 N ro n a) a.2 := by
  induction n with
  | zero => exact fun a r z e => by have e : (none : Option _) = some (r, z) := e; cases e
  | succ n ih =>
    intro a
    show KCw (B_X0_choice_17 N ro (LP_X0_choice_17 N ro n) a.1 a.2) a.2
    exact kq_B_X0_choice_17 h_ro ih
theorem kq_B_X0_choice_0 {N : Nat} {ro : Nat → Nat → Int32 → Int32 → CSt → Option (Sum Nat Int32 × CSt)} {u : CSt} (h_ro : ∀ q z a b u, KCw (ro q z a b u) u) : KCw (B_X0_choice_0 N ro u) u := by
  unfold B_X0_choice_0
  refine KCw_bc (kq_F_X9_next.tr rfl) (fun _ _ => ?_)
  refine KCw_bt (kq_G_X0_expression.tr rfl) (fun _ _ => ?_)
  refine KCw_bt ((h_ro _ _ _ _ _).tr rfl) (fun _ _ => ?_)
  exact (kq_LP_X0_choice_17 h_ro _ _).tr rfl
theorem kq_F_X0_choice {N : Nat} {ro : Nat → Nat → Int32 → Int32 → CSt → Option (Sum Nat Int32 × CSt)} {u : CSt} (h_ro : ∀ q z a b u, KCw (ro q z a b u) u) : KCw (F_X0_choice N ro u) u := by
  unfold F_X0_choice
  exact (kq_B_X0_choice_0 h_ro).tr rfl
theorem kq_B_X0_counted_0 {N : Nat} {ro : Nat → Nat → Int32 → Int32 → CSt → Option (Sum Nat Int32 × CSt)} {u : CSt} (h_ro : ∀ q z a b u, KCw (ro q z a b u) u) : KCw (B_X0_counted_0 N ro u) u := by
  unfold B_X0_counted_0
  refine KCw_bc (kq_F_X9_next.tr rfl) (fun _ _ => ?_)
  refine KCw_bt (kq_F_X9_take.tr rfl) (fun _ _ => ?_)
  refine KCw_bt (kq_F_X9_take.tr rfl) (fun _ _ => ?_)
  refine KCw_bt (kq_G_X0_expression.tr rfl) (fun _ _ => ?_)
  refine KCw_bt (kq_F_X9_take.tr rfl) (fun _ _ => ?_)
  refine KCw_bt (kq_G_X0_expression.tr rfl) (fun _ _ => ?_)
  refine KCw_bt ((h_ro _ _ _ _ _).tr rfl) (fun _ _ => ?_)
  exact KCw_some rfl
theorem kq_F_X0_counted {N : Nat} {ro : Nat → Nat → Int32 → Int32 → CSt → Option (Sum Nat Int32 × CSt)} {u : CSt} (h_ro : ∀ q z a b u, KCw (ro q z a b u) u) : KCw (F_X0_counted N ro u) u := by
  unfold F_X0_counted
  exact (kq_B_X0_counted_0 h_ro).tr rfl
theorem kq_B_X0_cases_87 {N : Nat} {ro : Nat → Nat → Int32 → Int32 → CSt → Option (Sum Nat Int32 × CSt)} {R_19 : Int32 × CSt → Option ((Sum Nat Int32) × CSt)} {l1 : Int32} {u : CSt} (h_ro : ∀ q z a b u, KCw (ro q z a b u) u) (h_R_19 : ∀ a, KCw (R_19 a) a.2) : KCw (B_X0_cases_87 N ro R_19 l1 u) u := by
  unfold B_X0_cases_87
  refine KCw_bt ((h_ro _ _ _ _ _).tr rfl) (fun _ _ => ?_)
  exact (h_R_19 _).tr rfl
theorem kq_B_X0_cases_51 {N : Nat} {ro : Nat → Nat → Int32 → Int32 → CSt → Option (Sum Nat Int32 × CSt)} {R_19 : Int32 × CSt → Option ((Sum Nat Int32) × CSt)} {R_51 : Int32 × Int32 × CSt → Option ((Sum Nat Int32) × CSt)} {l1 : Int32} {l2 : Int32} {u : CSt} (h_ro : ∀ q z a b u, KCw (ro q z a b u) u) (h_R_19 : ∀ a, KCw (R_19 a) a.2) (h_R_51 : ∀ a, KCw (R_51 a) a.2.2) : KCw (B_X0_cases_51 N ro R_19 R_51 l1 l2 u) u := by
  unfold B_X0_cases_51
  refine KCw_if ?_ ?_
  · skip
    exact (kq_B_X0_cases_87 h_ro h_R_19).tr rfl
  · skip
    refine KCw_bc (kq_F_X9_is.tr rfl) (fun _ _ => ?_)
    refine KCw_if ?_ ?_
    · skip
      exact (kq_B_X0_cases_87 h_ro h_R_19).tr rfl
    · skip
      refine KCw_bc (kq_F_X9_next.tr rfl) (fun _ _ => ?_)
      refine KCw_bt (kq_F_X0_label.tr rfl) (fun _ _ => ?_)
      exact (h_R_51 _).tr rfl
theorem kq_LP_X0_cases_51 {N : Nat} {ro : Nat → Nat → Int32 → Int32 → CSt → Option (Sum Nat Int32 × CSt)} {R_19 : Int32 × CSt → Option ((Sum Nat Int32) × CSt)} (h_ro : ∀ q z a b u, KCw (ro q z a b u) u) (h_R_19 : ∀ a, KCw (R_19 a) a.2) (n : Nat) : ∀ a : Int32 × Int32 × CSt, KCw (LP_X0_cases_51 N ro R_19 n a) a.2.2 := by
  induction n with
  | zero => exact fun a r z e => by have e : (none : Option _) = some (r, z) := e; cases e
  | succ n ih =>
    intro a
    show KCw (B_X0_cases_51 N ro R_19 (LP_X0_cases_51 N ro R_19 n) a.1 a.2.1 a.2.2) a.2.2
    exact kq_B_X0_cases_51 h_ro h_R_19 ih
theorem kq_B_X0_cases_120 {N : Nat} {ro : Nat → Nat → Int32 → Int32 → CSt → Option (Sum Nat Int32 × CSt)} {u : CSt} (h_ro : ∀ q z a b u, KCw (ro q z a b u) u) : KCw (B_X0_cases_120 N ro u) u := by
  unfold B_X0_cases_120
  refine KCw_bt (kq_F_X0_closes.tr rfl) (fun _ _ => ?_)
  exact KCw_some rfl
theorem kq_B_X0_cases_97 {N : Nat} {ro : Nat → Nat → Int32 → Int32 → CSt → Option (Sum Nat Int32 × CSt)} {u : CSt} (h_ro : ∀ q z a b u, KCw (ro q z a b u) u) : KCw (B_X0_cases_97 N ro u) u := by
  unfold B_X0_cases_97
  refine KCw_bc (kq_F_X9_is.tr rfl) (fun _ _ => ?_)
  refine KCw_if ?_ ?_
  · skip
    exact (kq_B_X0_cases_120 h_ro).tr rfl
  · skip
    refine KCw_bc (kq_F_X9_next.tr rfl) (fun _ _ => ?_)
    refine KCw_bt ((h_ro _ _ _ _ _).tr rfl) (fun _ _ => ?_)
    exact (kq_B_X0_cases_120 h_ro).tr rfl
theorem kq_B_X0_cases_19 {N : Nat} {ro : Nat → Nat → Int32 → Int32 → CSt → Option (Sum Nat Int32 × CSt)} {R_19 : Int32 × CSt → Option ((Sum Nat Int32) × CSt)} {l1 : Int32} {u : CSt} (h_ro : ∀ q z a b u, KCw (ro q z a b u) u) (h_R_19 : ∀ a, KCw (R_19 a) a.2) : KCw (B_X0_cases_19 N ro R_19 l1 u) u := by
  unfold B_X0_cases_19
  refine KCw_if ?_ ?_
  · skip
    exact (kq_B_X0_cases_97 h_ro).tr rfl
  · skip
    refine KCw_bc (kq_F_X9_is.tr rfl) (fun _ _ => ?_)
    refine KCw_if ?_ ?_
    · skip
      exact (kq_B_X0_cases_97 h_ro).tr rfl
    · skip
      refine KCw_bc (kq_F_X9_next.tr rfl) (fun _ _ => ?_)
      refine KCw_bt (kq_F_X0_label.tr rfl) (fun _ _ => ?_)
      exact (kq_LP_X0_cases_51 h_ro h_R_19 _ _).tr rfl
theorem kq_LP_X0_cases_19 {N : Nat} {ro : Nat → Nat → Int32 → Int32 → CSt → Option (Sum Nat Int32 × CSt)} (h_ro : ∀ q z a b u, KCw (ro q z a b u) u) (n : Nat) : ∀ a : Int32 × CSt, KCw (LP_X0_cases_19 N ro n a) a.2 := by
  induction n with
  | zero => exact fun a r z e => by have e : (none : Option _) = some (r, z) := e; cases e
  | succ n ih =>
    intro a
    show KCw (B_X0_cases_19 N ro (LP_X0_cases_19 N ro n) a.1 a.2) a.2
    exact kq_B_X0_cases_19 h_ro ih
theorem kq_B_X0_cases_0 {N : Nat} {ro : Nat → Nat → Int32 → Int32 → CSt → Option (Sum Nat Int32 × CSt)} {u : CSt} (h_ro : ∀ q z a b u, KCw (ro q z a b u) u) : KCw (B_X0_cases_0 N ro u) u := by
  unfold B_X0_cases_0
  refine KCw_bc (kq_F_X9_next.tr rfl) (fun _ _ => ?_)
  refine KCw_bt (kq_G_X0_expression.tr rfl) (fun _ _ => ?_)
  refine KCw_bt (kq_F_X0_opens.tr rfl) (fun _ _ => ?_)
  exact (kq_LP_X0_cases_19 h_ro _ _).tr rfl
theorem kq_F_X0_cases {N : Nat} {ro : Nat → Nat → Int32 → Int32 → CSt → Option (Sum Nat Int32 × CSt)} {u : CSt} (h_ro : ∀ q z a b u, KCw (ro q z a b u) u) : KCw (F_X0_cases N ro u) u := by
  unfold F_X0_cases
  exact (kq_B_X0_cases_0 h_ro).tr rfl
theorem kq_FGS_ {N : Nat} : ∀ (d q z : Nat) (a b : Int32) (u : CSt), KCw (FGS_ N d q z a b u) u := by
  intro d
  induction d with
  | zero => exact fun q z a b u => KCw_none
  | succ d ih =>
    intro q z a b u
    show KCw (if q = 0 then F_X0_body N (FGS_ N d) u else if q = 1 then F_X0_statements N (FGS_ N d) u else if q = 2 then F_X0_statement N (FGS_ N d) u else if q = 3 then F_X0_choice N (FGS_ N d) u else if q = 4 then F_X0_counted N (FGS_ N d) u else if q = 5 then F_X0_cases N (FGS_ N d) u else none) u
    refine KCw_if (kq_F_X0_body ih) ?_
    refine KCw_if (kq_F_X0_statements ih) ?_
    refine KCw_if (kq_F_X0_statement ih) ?_
    refine KCw_if (kq_F_X0_choice ih) ?_
    refine KCw_if (kq_F_X0_counted ih) ?_
    refine KCw_if (kq_F_X0_cases ih) ?_
    exact KCw_none
theorem kq_G_X0_body {N : Nat} {u : CSt} : KCw (G_X0_body N u) u := kq_FGS_ _ _ _ _ _ _
theorem kq_G_X0_statements {N : Nat} {u : CSt} : KCw (G_X0_statements N u) u := kq_FGS_ _ _ _ _ _ _
theorem kq_B_X0_routine_132 {N : Nat} {u : CSt}  : KCw (B_X0_routine_132 N u) u := by
  unfold B_X0_routine_132
  refine KCw_bt (kq_G_X0_statements.tr rfl) (fun _ _ => ?_)
  exact KCw_some rfl
theorem kq_B_X0_routine_104 {N : Nat} {R_104 : Int32 × CSt → Option ((Sum Nat Int32) × CSt)} {l1 : Int32} {u : CSt} (h_R_104 : ∀ a, KCw (R_104 a) a.2) : KCw (B_X0_routine_104 N R_104 l1 u) u := by
  unfold B_X0_routine_104
  refine KCw_if ?_ ?_
  · skip
    exact kq_B_X0_routine_132.tr rfl
  · skip
    refine KCw_bc (kq_F_X9_is.tr rfl) (fun _ _ => ?_)
    refine KCw_if ?_ ?_
    · skip
      exact kq_B_X0_routine_132.tr rfl
    · skip
      refine KCw_bt (kq_F_X0_variables.tr rfl) (fun _ _ => ?_)
      exact (h_R_104 _).tr rfl
theorem kq_LP_X0_routine_104 {N : Nat}  (n : Nat) : ∀ a : Int32 × CSt, KCw (LP_X0_routine_104 N n a) a.2 := by
  induction n with
  | zero => exact fun a r z e => by have e : (none : Option _) = some (r, z) := e; cases e
  | succ n ih =>
    intro a
    show KCw (B_X0_routine_104 N (LP_X0_routine_104 N n) a.1 a.2) a.2
    exact kq_B_X0_routine_104 ih
theorem kq_B_X0_routine_90 {N : Nat} {u : CSt}  : KCw (B_X0_routine_90 N u) u := by
  unfold B_X0_routine_90
  refine KCw_bt (kq_F_X0_closes.tr rfl) (fun _ _ => ?_)
  refine KCw_bt (kq_F_X0_opens.tr rfl) (fun _ _ => ?_)
  exact (kq_LP_X0_routine_104  _ _).tr rfl
theorem kq_B_X0_routine_44 {N : Nat} {R_44 : Int32 × CSt → Option ((Sum Nat Int32) × CSt)} {l1 : Int32} {u : CSt} (h_R_44 : ∀ a, KCw (R_44 a) a.2) : KCw (B_X0_routine_44 N R_44 l1 u) u := by
  unfold B_X0_routine_44
  refine KCw_if ?_ ?_
  · skip
    exact kq_B_X0_routine_90.tr rfl
  · skip
    refine KCw_bc (kq_F_X9_is.tr rfl) (fun _ _ => ?_)
    refine KCw_if ?_ ?_
    · skip
      exact kq_B_X0_routine_90.tr rfl
    · skip
      refine KCw_bc (kq_F_X9_next.tr rfl) (fun _ _ => ?_)
      refine KCw_bt (kq_F_X0_kind.tr rfl) (fun _ _ => ?_)
      refine KCw_bt (kq_F_X9_take.tr rfl) (fun _ _ => ?_)
      exact (h_R_44 _).tr rfl
theorem kq_LP_X0_routine_44 {N : Nat}  (n : Nat) : ∀ a : Int32 × CSt, KCw (LP_X0_routine_44 N n a) a.2 := by
  induction n with
  | zero => exact fun a r z e => by have e : (none : Option _) = some (r, z) := e; cases e
  | succ n ih =>
    intro a
    show KCw (B_X0_routine_44 N (LP_X0_routine_44 N n) a.1 a.2) a.2
    exact kq_B_X0_routine_44 ih
theorem kq_B_X0_routine_42 {N : Nat} {u : CSt}  : KCw (B_X0_routine_42 N u) u := by
  unfold B_X0_routine_42
  exact (kq_LP_X0_routine_44  _ _).tr rfl
theorem kq_B_X0_routine_0 {N : Nat} {u : CSt}  : KCw (B_X0_routine_0 N u) u := by
  unfold B_X0_routine_0
  refine KCw_bt (kq_F_X9_take.tr rfl) (fun _ _ => ?_)
  refine KCw_bt (kq_F_X0_opens.tr rfl) (fun _ _ => ?_)
  refine KCw_bc (kq_F_X9_is.tr rfl) (fun _ _ => ?_)
  refine KCw_if ?_ ?_
  · skip
    refine KCw_bt (kq_F_X0_kind.tr rfl) (fun _ _ => ?_)
    refine KCw_bt (kq_F_X9_take.tr rfl) (fun _ _ => ?_)
    exact kq_B_X0_routine_42.tr rfl
  · skip
    exact kq_B_X0_routine_42.tr rfl
theorem kq_F_X0_routine {N : Nat} {u : CSt}  : KCw (F_X0_routine N u) u := by
  unfold F_X0_routine
  exact kq_B_X0_routine_0.tr rfl
theorem kq_B_X0_cyclic_65 {N : Nat} {u : CSt}  : KCw (B_X0_cyclic_65 N u) u := by
  unfold B_X0_cyclic_65
  refine KCw_bt (kq_G_X0_body.tr rfl) (fun _ _ => ?_)
  exact KCw_some rfl
theorem kq_B_X0_cyclic_0 {N : Nat} {u : CSt}  : KCw (B_X0_cyclic_0 N u) u := by
  unfold B_X0_cyclic_0
  refine KCw_bc (kq_F_X9_next.tr rfl) (fun _ _ => ?_)
  refine KCw_bt (kq_F_X9_take.tr rfl) (fun _ _ => ?_)
  refine KCw_bt (kq_F_X9_take.tr rfl) (fun _ _ => ?_)
  refine KCw_bt (kq_F_X9_take.tr rfl) (fun _ _ => ?_)
  refine KCw_bc (kq_F_X9_is.tr rfl) (fun _ _ => ?_)
  refine KCw_if ?_ ?_
  · skip
    exact kq_B_X0_cyclic_65.tr rfl
  · skip
    refine KCw_bc (kq_F_X9_next.tr rfl) (fun _ _ => ?_)
    refine KCw_bt (kq_F_X9_take.tr rfl) (fun _ _ => ?_)
    exact kq_B_X0_cyclic_65.tr rfl
theorem kq_F_X0_cyclic {N : Nat} {u : CSt}  : KCw (F_X0_cyclic N u) u := by
  unfold F_X0_cyclic
  exact kq_B_X0_cyclic_0.tr rfl
theorem kq_B_X0_check_155 {N : Nat} {R_14 : Int32 × CSt → Option ((Sum Nat Int32) × CSt)} {l1 : Int32} {u : CSt} (h_R_14 : ∀ a, KCw (R_14 a) a.2) : KCw (B_X0_check_155 N R_14 l1 u) u := by
  unfold B_X0_check_155
  exact (h_R_14 _).tr rfl
theorem kq_B_X0_check_14 {N : Nat} {R_14 : Int32 × CSt → Option ((Sum Nat Int32) × CSt)} {l1 : Int32} {u : CSt} (h_R_14 : ∀ a, KCw (R_14 a) a.2) : KCw (B_X0_check_14 N R_14 l1 u) u := by
  unfold B_X0_check_14
  refine KCw_if ?_ ?_
  · skip
    exact KCw_some rfl
  · skip
    refine KCw_bc (kq_F_X9_is.tr rfl) (fun _ _ => ?_)
    refine KCw_if ?_ ?_
    · skip
      refine KCw_bc (kq_F_X9_type.tr rfl) (fun _ _ => ?_)
      refine KCw_if ?_ ?_
      · skip
        refine KCw_bt (kq_F_X0_variables.tr rfl) (fun _ _ => ?_)
        exact (kq_B_X0_check_155 h_R_14).tr rfl
      · skip
        refine KCw_if ?_ ?_
        · skip
          refine KCw_bt (kq_F_X0_variables.tr rfl) (fun _ _ => ?_)
          exact (kq_B_X0_check_155 h_R_14).tr rfl
        · skip
          refine KCw_if ?_ ?_
          · skip
            refine KCw_bt (kq_F_X0_placed.tr rfl) (fun _ _ => ?_)
            exact (kq_B_X0_check_155 h_R_14).tr rfl
          · skip
            refine KCw_if ?_ ?_
            · skip
              refine KCw_bt (kq_F_X0_placed.tr rfl) (fun _ _ => ?_)
              exact (kq_B_X0_check_155 h_R_14).tr rfl
            · skip
              refine KCw_if ?_ ?_
              · skip
                refine KCw_bc (kq_F_X9_next.tr rfl) (fun _ _ => ?_)
                refine KCw_bt (kq_F_X0_routine.tr rfl) (fun _ _ => ?_)
                exact (kq_B_X0_check_155 h_R_14).tr rfl
              · skip
                refine KCw_if ?_ ?_
                · skip
                  refine KCw_bt (kq_F_X0_uses.tr rfl) (fun _ _ => ?_)
                  exact (kq_B_X0_check_155 h_R_14).tr rfl
                · skip
                  refine KCw_if ?_ ?_
                  · skip
                    refine KCw_bc (kq_F_X9_next.tr rfl) (fun _ _ => ?_)
                    refine KCw_bt (kq_F_X0_kind.tr rfl) (fun _ _ => ?_)
                    refine KCw_bt (kq_F_X0_routine.tr rfl) (fun _ _ => ?_)
                    exact (kq_B_X0_check_155 h_R_14).tr rfl
                  · skip
                    refine KCw_if ?_ ?_
                    · skip
                      refine KCw_bt (kq_F_X0_cyclic.tr rfl) (fun _ _ => ?_)
                      exact (kq_B_X0_check_155 h_R_14).tr rfl
                    · skip
                      refine KCw_bt (kq_F_X9_refuseToken.tr rfl) (fun _ _ => ?_)
                      exact (kq_B_X0_check_155 h_R_14).tr rfl
    · skip
      exact KCw_some rfl
theorem kq_LP_X0_check_14 {N : Nat}  (n : Nat) : ∀ a : Int32 × CSt, KCw (LP_X0_check_14 N n a) a.2 := by
  induction n with
  | zero => exact fun a r z e => by have e : (none : Option _) = some (r, z) := e; cases e
  | succ n ih =>
    intro a
    show KCw (B_X0_check_14 N (LP_X0_check_14 N n) a.1 a.2) a.2
    exact kq_B_X0_check_14 ih
theorem kq_B_X0_check_0 {N : Nat} {u : CSt}  : KCw (B_X0_check_0 N u) u := by
  unfold B_X0_check_0
  refine KCw_pc ?_
  refine KCw_bc (kq_F_X9_rewind.tr (fc_xI (by decide) rfl)) (fun _ _ => ?_)
  exact (kq_LP_X0_check_14  _ _).tr rfl
theorem kq_F_X0_check {N : Nat} {u : CSt}  : KCw (F_X0_check N u) u := by
  unfold F_X0_check
  exact kq_B_X0_check_0.tr rfl
theorem kq_B_X8_begin_0 {N : Nat} {l1 : Nat} {u : CSt}  : KCw (B_X8_begin_0 N l1 u) u := by
  unfold B_X8_begin_0
  refine KCw_pc ?_
  refine KCw_pc ?_
  exact KCw_some (fc_xI (by decide) (fc_xR rfl))
theorem kq_F_X8_begin {N : Nat} {l1 : Nat} {u : CSt}  : KCw (F_X8_begin N l1 u) u := by
  unfold F_X8_begin
  exact kq_B_X8_begin_0.tr rfl
theorem kq_B_X8_known_0 {N : Nat} {u : CSt}  : KCw (B_X8_known_0 N u) u := by
  unfold B_X8_known_0
  refine KCw_bc (kq_F_X9_head.tr rfl) (fun _ _ => ?_)
  refine KCw_bc (kq_F_X9_tail.tr rfl) (fun _ _ => ?_)
  refine KCw_ok ?_
  refine KCw_bc (kq_F_X6_name.tr rfl) (fun _ _ => ?_)
  refine KCw_ok ?_
  refine KCw_bc (kq_F_X6_localCalled.tr rfl) (fun _ _ => ?_)
  refine KCw_ok ?_
  refine KCw_if ?_ ?_
  · skip
    refine KCw_ok ?_
    refine KCw_bc (kq_F_X6_ofText.tr rfl) (fun _ _ => ?_)
    refine KCw_ok ?_
    exact KCw_some rfl
  · skip
    exact KCw_some rfl
theorem kq_F_X8_known {N : Nat} {u : CSt}  : KCw (F_X8_known N u) u := by
  unfold F_X8_known
  exact kq_B_X8_known_0.tr rfl
theorem kq_B_X8_placeName_63 {N : Nat} {l2 : Nat} {u : CSt}  : KCw (B_X8_placeName_63 N l2 u) u := by
  unfold B_X8_placeName_63
  refine KCw_bc (kq_F_X9_here.tr rfl) (fun _ _ => ?_)
  refine KCw_bt (kq_F_X9_refuse.tr rfl) (fun _ _ => ?_)
  exact KCw_some rfl
theorem kq_B_X8_placeName_49 {N : Nat} {l1 : Int32} {l2 : Nat} {s0 : Int32} {s1 : Int32} {u : CSt}  : KCw (B_X8_placeName_49 N l1 l2 s0 s1 u) u := by
  unfold B_X8_placeName_49
  refine KCw_if ?_ ?_
  · skip
    refine KCw_if ?_ ?_
    · skip
      exact KCw_some rfl
    · skip
      refine KCw_bc (kq_F_X4_isInput.tr rfl) (fun _ _ => ?_)
      refine KCw_if ?_ ?_
      · skip
        exact KCw_some rfl
      · skip
        exact kq_B_X8_placeName_63.tr rfl
  · skip
    exact kq_B_X8_placeName_63.tr rfl
theorem kq_B_X8_placeName_27 {N : Nat} {l1 : Int32} {l2 : Nat} {u : CSt}  : KCw (B_X8_placeName_27 N l1 l2 u) u := by
  unfold B_X8_placeName_27
  refine KCw_bc (kq_F_X9_typeAhead.tr rfl) (fun _ _ => ?_)
  refine KCw_if ?_ ?_
  · skip
    exact kq_B_X8_placeName_49.tr rfl
  · skip
    exact kq_B_X8_placeName_49.tr rfl
theorem kq_B_X8_placeName_0 {N : Nat} {l1 : Int32} {u : CSt}  : KCw (B_X8_placeName_0 N l1 u) u := by
  unfold B_X8_placeName_0
  refine KCw_bc (kq_F_X8_known.tr rfl) (fun _ _ => ?_)
  refine KCw_ok ?_
  refine KCw_bc (kq_F_X4_hasNumbers.tr rfl) (fun _ _ => ?_)
  refine KCw_if ?_ ?_
  · skip
    refine KCw_bc (kq_F_X9_here.tr rfl) (fun _ _ => ?_)
    refine KCw_bt (kq_F_X9_refuse.tr rfl) (fun _ _ => ?_)
    exact kq_B_X8_placeName_27.tr rfl
  · skip
    exact kq_B_X8_placeName_27.tr rfl
theorem kq_F_X8_placeName {N : Nat} {l1 : Int32} {u : CSt}  : KCw (F_X8_placeName N l1 u) u := by
  unfold F_X8_placeName
  exact kq_B_X8_placeName_0.tr rfl
theorem kq_B_X8_isTooWide_26 {N : Nat} {u : CSt}  : KCw (B_X8_isTooWide_26 N u) u := by
  unfold B_X8_isTooWide_26
  exact KCw_some rfl
theorem kq_B_X8_isTooWide_0 {N : Nat} {l1 : Int32} {l2 : Int32} {u : CSt}  : KCw (B_X8_isTooWide_0 N l1 l2 u) u := by
  unfold B_X8_isTooWide_0
  refine KCw_if ?_ ?_
  · skip
    refine KCw_if ?_ ?_
    · skip
      exact kq_B_X8_isTooWide_26.tr rfl
    · skip
      refine KCw_if ?_ ?_
      · skip
        exact kq_B_X8_isTooWide_26.tr rfl
      · skip
        exact KCw_some rfl
  · skip
    exact KCw_some rfl
theorem kq_F_X8_isTooWide {N : Nat} {l1 : Int32} {l2 : Int32} {u : CSt}  : KCw (F_X8_isTooWide N l1 l2 u) u := by
  unfold F_X8_isTooWide
  exact kq_B_X8_isTooWide_0.tr rfl
theorem kq_B_X8_combine_25 {N : Nat} {l4 : Int32} {l5 : Int32} {s0 : Nat} {s1 : Int32} {s2 : Int32} {s3 : Int32} {u : CSt}  : KCw (B_X8_combine_25 N l4 l5 s0 s1 s2 s3 u) u := by
  unfold B_X8_combine_25
  refine KCw_bc (kq_F_X6_step.tr rfl) (fun _ _ => ?_)
  refine KCw_if ?_ ?_
  · skip
    exact KCw_some rfl
  · skip
    exact KCw_some rfl
theorem kq_B_X8_combine_0 {N : Nat} {l1 : Int32} {l2 : Int32} {l3 : Int32} {l4 : Int32} {u : CSt}  : KCw (B_X8_combine_0 N l1 l2 l3 l4 u) u := by
  unfold B_X8_combine_0
  refine KCw_ok ?_
  refine KCw_if ?_ ?_
  · skip
    exact kq_B_X8_combine_25.tr rfl
  · skip
    exact kq_B_X8_combine_25.tr rfl
theorem kq_F_X8_combine {N : Nat} {l1 : Int32} {l2 : Int32} {l3 : Int32} {l4 : Int32} {u : CSt}  : KCw (F_X8_combine N l1 l2 l3 l4 u) u := by
  unfold F_X8_combine
  exact kq_B_X8_combine_0.tr rfl
theorem kq_B_X8_defer_121 {N : Nat} {u : CSt}  : KCw (B_X8_defer_121 N u) u := by
  unfold B_X8_defer_121
  refine KCw_bc (kq_F_X9_next.tr rfl) (fun _ _ => ?_)
  exact KCw_some rfl
theorem kq_B_X8_defer_41 {N : Nat} {l1 : Int32} {l2 : Int32} {l3 : Int32} {s0 : Int32} {u : CSt}  : KCw (B_X8_defer_41 N l1 l2 l3 s0 u) u := by
  unfold B_X8_defer_41
  refine KCw_ok ?_
  refine KCw_bc (kq_F_X6_step.tr rfl) (fun _ _ => ?_)
  refine KCw_if ?_ ?_
  · skip
    exact kq_B_X8_defer_121.tr rfl
  · skip
    refine KCw_wc ?_
    refine KCw_wc ?_
    refine KCw_wc ?_
    refine KCw_wc ?_
    refine KCw_pc ?_
    exact kq_B_X8_defer_121.tr (fc_xI (by decide) (fc_xA (fc_xA (fc_xA (fc_xA rfl)))))
theorem kq_B_X8_defer_0 {N : Nat} {l1 : Int32} {u : CSt}  : KCw (B_X8_defer_0 N l1 u) u := by
  unfold B_X8_defer_0
  refine KCw_bc (kq_F_X9_type.tr rfl) (fun _ _ => ?_)
  refine KCw_bc (kq_F_X9_here.tr rfl) (fun _ _ => ?_)
  refine KCw_if ?_ ?_
  · skip
    exact kq_B_X8_defer_41.tr rfl
  · skip
    refine KCw_if ?_ ?_
    · skip
      exact kq_B_X8_defer_41.tr rfl
    · skip
      exact kq_B_X8_defer_41.tr rfl
theorem kq_F_X8_defer {N : Nat} {l1 : Int32} {u : CSt}  : KCw (F_X8_defer N l1 u) u := by
  unfold F_X8_defer
  exact kq_B_X8_defer_0.tr rfl
theorem kq_B_X8_settle_171 {N : Nat} {R_3 : Int32 × Int32 × Int32 × CSt → Option (Int32 × CSt)} {l1 : Int32} {l2 : Int32} {l4 : Int32} {u : CSt} (h_R_3 : ∀ a, KCw (R_3 a) a.2.2.2) : KCw (B_X8_settle_171 N R_3 l1 l2 l4 u) u := by
  unfold B_X8_settle_171
  exact (h_R_3 _).tr rfl
theorem kq_B_X8_settle_84 {N : Nat} {R_3 : Int32 × Int32 × Int32 × CSt → Option (Int32 × CSt)} {l1 : Int32} {l2 : Int32} {l6 : Int32} {u : CSt} (h_R_3 : ∀ a, KCw (R_3 a) a.2.2.2) : KCw (B_X8_settle_84 N R_3 l1 l2 l6 u) u := by
  unfold B_X8_settle_84
  refine KCw_ok ?_
  refine KCw_bc (kq_F_X6_step.tr rfl) (fun _ _ => ?_)
  refine KCw_ok ?_
  refine KCw_rd (fun _ => ?_)
  refine KCw_bc (kq_F_X6_land.tr rfl) (fun _ _ => ?_)
  exact (kq_B_X8_settle_171 h_R_3).tr rfl
theorem kq_B_X8_settle_3 {N : Nat} {R_3 : Int32 × Int32 × Int32 × CSt → Option (Int32 × CSt)} {l1 : Int32} {l2 : Int32} {l4 : Int32} {u : CSt} (h_R_3 : ∀ a, KCw (R_3 a) a.2.2.2) : KCw (B_X8_settle_3 N R_3 l1 l2 l4 u) u := by
  unfold B_X8_settle_3
  refine KCw_if ?_ ?_
  · skip
    exact KCw_some rfl
  · skip
    refine KCw_rd (fun _ => ?_)
    refine KCw_pb (fun _ => ?_)
    refine KCw_if ?_ ?_
    · skip
      exact KCw_some rfl
    · skip
      refine KCw_pc ?_
      refine KCw_rd (fun _ => ?_)
      refine KCw_rd (fun _ => ?_)
      refine KCw_pb (fun _ => ?_)
      refine KCw_if ?_ ?_
      · skip
        exact (kq_B_X8_settle_84 h_R_3).tr (fc_xI (by decide) rfl)
      · skip
        refine KCw_if ?_ ?_
        · skip
          exact (kq_B_X8_settle_84 h_R_3).tr (fc_xI (by decide) rfl)
        · skip
          refine KCw_if ?_ ?_
          · skip
            refine KCw_pb (fun _ => ?_)
            refine KCw_rd (fun _ => ?_)
            refine KCw_bc (kq_F_X8_combine.tr (fc_xI (by decide) rfl)) (fun _ _ => ?_)
            exact (kq_B_X8_settle_171 h_R_3).tr rfl
          · skip
            refine KCw_ok ?_
            refine KCw_bc (kq_F_X6_step.tr (fc_xI (by decide) rfl)) (fun _ _ => ?_)
            exact (kq_B_X8_settle_171 h_R_3).tr rfl
theorem kq_LP_X8_settle_3 {N : Nat}  (n : Nat) : ∀ a : Int32 × Int32 × Int32 × CSt, KCw (LP_X8_settle_3 N n a) a.2.2.2 := by
  induction n with
  | zero => exact fun a r z e => by have e : (none : Option _) = some (r, z) := e; cases e
  | succ n ih =>
    intro a
    show KCw (B_X8_settle_3 N (LP_X8_settle_3 N n) a.1 a.2.1 a.2.2.1 a.2.2.2) a.2.2.2
    exact kq_B_X8_settle_3 ih
theorem kq_B_X8_settle_0 {N : Nat} {l1 : Int32} {l2 : Int32} {l3 : Int32} {u : CSt}  : KCw (B_X8_settle_0 N l1 l2 l3 u) u := by
  unfold B_X8_settle_0
  exact (kq_LP_X8_settle_3  _ _).tr rfl
theorem kq_F_X8_settle {N : Nat} {l1 : Int32} {l2 : Int32} {l3 : Int32} {u : CSt}  : KCw (F_X8_settle N l1 l2 l3 u) u := by
  unfold F_X8_settle
  exact kq_B_X8_settle_0.tr rfl
theorem kq_B_X8_number_15 {N : Nat} {l1 : Int32} {s0 : Int32} {u : CSt}  : KCw (B_X8_number_15 N l1 s0 u) u := by
  unfold B_X8_number_15
  refine KCw_bt (kq_F_X9_takeNumber.tr rfl) (fun _ _ => ?_)
  refine KCw_pc ?_
  refine KCw_pc ?_
  refine KCw_ok ?_
  refine KCw_bc (kq_F_X6_constant.tr (fc_xI (by decide) (fc_xL rfl))) (fun _ _ => ?_)
  exact KCw_some rfl
theorem kq_B_X8_number_0 {N : Nat} {l1 : Int32} {u : CSt}  : KCw (B_X8_number_0 N l1 u) u := by
  unfold B_X8_number_0
  refine KCw_bc (kq_F_X9_isWide.tr rfl) (fun _ _ => ?_)
  refine KCw_if ?_ ?_
  · skip
    exact kq_B_X8_number_15.tr rfl
  · skip
    exact kq_B_X8_number_15.tr rfl
theorem kq_F_X8_number {N : Nat} {l1 : Int32} {u : CSt}  : KCw (F_X8_number N l1 u) u := by
  unfold F_X8_number
  exact kq_B_X8_number_0.tr rfl
theorem kq_B_X8_bit_0 {N : Nat} {l1 : Int32} {u : CSt}  : KCw (B_X8_bit_0 N l1 u) u := by
  unfold B_X8_bit_0
  refine KCw_bc (kq_F_X9_next.tr rfl) (fun _ _ => ?_)
  refine KCw_rd (fun _ => ?_)
  refine KCw_bt (kq_F_X9_takeBounded.tr rfl) (fun _ _ => ?_)
  exact KCw_some rfl
theorem kq_F_X8_bit {N : Nat} {l1 : Int32} {u : CSt}  : KCw (F_X8_bit N l1 u) u := by
  unfold F_X8_bit
  exact kq_B_X8_bit_0.tr rfl
theorem kq_B_X8_get_36 {N : Nat} {l1 : Nat} {l2 : Int32} {l3 : Int32} {l4 : Int32} {u : CSt}  : KCw (B_X8_get_36 N l1 l2 l3 l4 u) u := by
  unfold B_X8_get_36
  refine KCw_ok ?_
  refine KCw_bc (kq_F_X6_step.tr rfl) (fun _ _ => ?_)
  exact KCw_some rfl
theorem kq_B_X8_get_34 {N : Nat} {l1 : Nat} {l2 : Int32} {l3 : Int32} {s0 : Int32} {u : CSt}  : KCw (B_X8_get_34 N l1 l2 l3 s0 u) u := by
  unfold B_X8_get_34
  exact kq_B_X8_get_36.tr rfl
theorem kq_B_X8_get_12 {N : Nat} {l1 : Nat} {l2 : Int32} {l3 : Int32} {s0 : Int32} {u : CSt}  : KCw (B_X8_get_12 N l1 l2 l3 s0 u) u := by
  unfold B_X8_get_12
  refine KCw_bc (kq_F_X4_isPlaced.tr rfl) (fun _ _ => ?_)
  refine KCw_if ?_ ?_
  · skip
    exact kq_B_X8_get_36.tr rfl
  · skip
    refine KCw_bc (kq_F_X4_isInput.tr rfl) (fun _ _ => ?_)
    refine KCw_if ?_ ?_
    · skip
      exact kq_B_X8_get_34.tr rfl
    · skip
      exact kq_B_X8_get_34.tr rfl
theorem kq_B_X8_get_0 {N : Nat} {l1 : Nat} {l2 : Int32} {l3 : Int32} {u : CSt}  : KCw (B_X8_get_0 N l1 l2 l3 u) u := by
  unfold B_X8_get_0
  refine KCw_bc (kq_F_X4_isLocal.tr rfl) (fun _ _ => ?_)
  refine KCw_if ?_ ?_
  · skip
    exact kq_B_X8_get_12.tr rfl
  · skip
    exact kq_B_X8_get_12.tr rfl
theorem kq_F_X8_get {N : Nat} {l1 : Nat} {l2 : Int32} {l3 : Int32} {u : CSt}  : KCw (F_X8_get N l1 l2 l3 u) u := by
  unfold F_X8_get
  exact kq_B_X8_get_0.tr rfl
theorem kq_B_X8_set_26 {N : Nat} {l1 : Nat} {l2 : Int32} {s0 : Int32} {u : CSt}  : KCw (B_X8_set_26 N l1 l2 s0 u) u := by
  unfold B_X8_set_26
  refine KCw_ok ?_
  refine KCw_bc (kq_F_X6_step.tr rfl) (fun _ _ => ?_)
  exact KCw_some rfl
theorem kq_B_X8_set_0 {N : Nat} {l1 : Nat} {l2 : Int32} {u : CSt}  : KCw (B_X8_set_0 N l1 l2 u) u := by
  unfold B_X8_set_0
  refine KCw_bc (kq_F_X4_isLocal.tr rfl) (fun _ _ => ?_)
  refine KCw_if ?_ ?_
  · skip
    refine KCw_bc (kq_F_X4_isPlaced.tr rfl) (fun _ _ => ?_)
    refine KCw_if ?_ ?_
    · skip
      exact kq_B_X8_set_26.tr rfl
    · skip
      exact kq_B_X8_set_26.tr rfl
  · skip
    exact kq_B_X8_set_26.tr rfl
theorem kq_F_X8_set {N : Nat} {l1 : Nat} {l2 : Int32} {u : CSt}  : KCw (F_X8_set N l1 l2 u) u := by
  unfold F_X8_set
  exact kq_B_X8_set_0.tr rfl
theorem kq_B_X8_expression_0 {N : Nat} {ro : Nat → Nat → Int32 → Int32 → CSt → Option (Sum Nat Int32 × CSt)} {u : CSt} (h_ro : ∀ q z a b u, KCw (ro q z a b u) u) : KCw (B_X8_expression_0 N ro u) u := by
  unfold B_X8_expression_0
  refine KCw_bt ((h_ro _ _ _ _ _).tr rfl) (fun _ _ => ?_)
  refine KCw_bc (kq_F_X9_is.tr rfl) (fun _ _ => ?_)
  refine KCw_if ?_ ?_
  · skip
    exact KCw_some rfl
  · skip
    refine KCw_bc (kq_F_X9_here.tr rfl) (fun _ _ => ?_)
    refine KCw_ok ?_
    refine KCw_bc (kq_F_X6_step.tr rfl) (fun _ _ => ?_)
    refine KCw_bc (kq_F_X9_next.tr rfl) (fun _ _ => ?_)
    refine KCw_bt ((h_ro _ _ _ _ _).tr rfl) (fun _ _ => ?_)
    refine KCw_ok ?_
    refine KCw_bc (kq_F_X6_step.tr rfl) (fun _ _ => ?_)
    refine KCw_ok ?_
    refine KCw_bc (kq_F_X6_land.tr rfl) (fun _ _ => ?_)
    refine KCw_bc (kq_F_X9_next.tr rfl) (fun _ _ => ?_)
    refine KCw_bt ((h_ro _ _ _ _ _).tr rfl) (fun _ _ => ?_)
    refine KCw_ok ?_
    refine KCw_bc (kq_F_X6_land.tr rfl) (fun _ _ => ?_)
    refine KCw_pc ?_
    exact KCw_some (fc_xI (by decide) rfl)
theorem kq_F_X8_expression {N : Nat} {ro : Nat → Nat → Int32 → Int32 → CSt → Option (Sum Nat Int32 × CSt)} {u : CSt} (h_ro : ∀ q z a b u, KCw (ro q z a b u) u) : KCw (F_X8_expression N ro u) u := by
  unfold F_X8_expression
  exact (kq_B_X8_expression_0 h_ro).tr rfl
theorem kq_B_X8_operators_76 {N : Nat} {ro : Nat → Nat → Int32 → Int32 → CSt → Option (Sum Nat Int32 × CSt)} {l1 : Int32} {l2 : Int32} {u : CSt} (h_ro : ∀ q z a b u, KCw (ro q z a b u) u) : KCw (B_X8_operators_76 N ro l1 l2 u) u := by
  unfold B_X8_operators_76
  refine KCw_bc (kq_F_X8_settle.tr rfl) (fun _ _ => ?_)
  exact KCw_some rfl
theorem kq_B_X8_operators_24 {N : Nat} {ro : Nat → Nat → Int32 → Int32 → CSt → Option (Sum Nat Int32 × CSt)} {R_24 : Int32 × Int32 × Int32 × Int32 × CSt → Option ((Sum Nat Int32) × CSt)} {l1 : Int32} {l2 : Int32} {l3 : Int32} {l4 : Int32} {u : CSt} (h_ro : ∀ q z a b u, KCw (ro q z a b u) u) (h_R_24 : ∀ a, KCw (R_24 a) a.2.2.2.2) : KCw (B_X8_operators_24 N ro R_24 l1 l2 l3 l4 u) u := by
  unfold B_X8_operators_24
  refine KCw_if ?_ ?_
  · skip
    exact (kq_B_X8_operators_76 h_ro).tr rfl
  · skip
    refine KCw_if ?_ ?_
    · skip
      exact (kq_B_X8_operators_76 h_ro).tr rfl
    · skip
      refine KCw_bc (kq_F_X8_settle.tr rfl) (fun _ _ => ?_)
      refine KCw_bc (kq_F_X8_defer.tr rfl) (fun _ _ => ?_)
      refine KCw_bt ((h_ro _ _ _ _ _).tr rfl) (fun _ _ => ?_)
      refine KCw_pc ?_
      refine KCw_bc (kq_F_X9_type.tr (fc_xI (by decide) rfl)) (fun _ _ => ?_)
      refine KCw_pb (fun _ => ?_)
      exact (h_R_24 _).tr rfl
theorem kq_LP_X8_operators_24 {N : Nat} {ro : Nat → Nat → Int32 → Int32 → CSt → Option (Sum Nat Int32 × CSt)} (h_ro : ∀ q z a b u, KCw (ro q z a b u) u) (n : Nat) : ∀ a : Int32 × Int32 × Int32 × Int32 × CSt, KCw (LP_X8_operators_24 N ro n a) a.2.2.2.2 := by
  induction n with
  | zero => exact fun a r z e => by have e : (none : Option _) = some (r, z) := e; cases e
  | succ n ih =>
    intro a
    show KCw (B_X8_operators_24 N ro (LP_X8_operators_24 N ro n) a.1 a.2.1 a.2.2.1 a.2.2.2.1 a.2.2.2.2) a.2.2.2.2
    exact kq_B_X8_operators_24 h_ro ih
theorem kq_B_X8_operators_0 {N : Nat} {ro : Nat → Nat → Int32 → Int32 → CSt → Option (Sum Nat Int32 × CSt)} {u : CSt} (h_ro : ∀ q z a b u, KCw (ro q z a b u) u) : KCw (B_X8_operators_0 N ro u) u := by
  unfold B_X8_operators_0
  refine KCw_bt ((h_ro _ _ _ _ _).tr rfl) (fun _ _ => ?_)
  refine KCw_bc (kq_F_X9_type.tr rfl) (fun _ _ => ?_)
  refine KCw_pb (fun _ => ?_)
  exact (kq_LP_X8_operators_24 h_ro _ _).tr rfl
theorem kq_F_X8_operators {N : Nat} {ro : Nat → Nat → Int32 → Int32 → CSt → Option (Sum Nat Int32 × CSt)} {u : CSt} (h_ro : ∀ q z a b u, KCw (ro q z a b u) u) : KCw (F_X8_operators N ro u) u := by
  unfold F_X8_operators
  exact (kq_B_X8_operators_0 h_ro).tr rfl
theorem kq_B_X8_operand_0 {N : Nat} {ro : Nat → Nat → Int32 → Int32 → CSt → Option (Sum Nat Int32 × CSt)} {u : CSt} (h_ro : ∀ q z a b u, KCw (ro q z a b u) u) : KCw (B_X8_operand_0 N ro u) u := by
  unfold B_X8_operand_0
  refine KCw_bc (kq_F_X9_here.tr rfl) (fun _ _ => ?_)
  refine KCw_bc (kq_F_X9_type.tr rfl) (fun _ _ => ?_)
  refine KCw_if ?_ ?_
  · skip
    refine KCw_ok ?_
    refine KCw_bc (kq_F_X6_step.tr rfl) (fun _ _ => ?_)
    refine KCw_bc (kq_F_X9_next.tr rfl) (fun _ _ => ?_)
    refine KCw_pc ?_
    exact KCw_some (fc_xI (by decide) rfl)
  · skip
    refine KCw_if ?_ ?_
    · skip
      refine KCw_bt ((h_ro _ _ _ _ _).tr rfl) (fun _ _ => ?_)
      exact KCw_some rfl
    · skip
      refine KCw_if ?_ ?_
      · skip
        refine KCw_bt ((h_ro _ _ _ _ _).tr rfl) (fun _ _ => ?_)
        exact KCw_some rfl
      · skip
        refine KCw_if ?_ ?_
        · skip
          refine KCw_bt ((h_ro _ _ _ _ _).tr rfl) (fun _ _ => ?_)
          exact KCw_some rfl
        · skip
          refine KCw_if ?_ ?_
          · skip
            refine KCw_bt ((h_ro _ _ _ _ _).tr rfl) (fun _ _ => ?_)
            exact KCw_some rfl
          · skip
            refine KCw_if ?_ ?_
            · skip
              refine KCw_bt (kq_F_X8_number.tr rfl) (fun _ _ => ?_)
              exact KCw_some rfl
            · skip
              refine KCw_if ?_ ?_
              · skip
                refine KCw_bt (kq_F_X8_number.tr rfl) (fun _ _ => ?_)
                exact KCw_some rfl
              · skip
                refine KCw_bt ((h_ro _ _ _ _ _).tr rfl) (fun _ _ => ?_)
                exact KCw_some rfl
theorem kq_F_X8_operand {N : Nat} {ro : Nat → Nat → Int32 → Int32 → CSt → Option (Sum Nat Int32 × CSt)} {u : CSt} (h_ro : ∀ q z a b u, KCw (ro q z a b u) u) : KCw (F_X8_operand N ro u) u := by
  unfold F_X8_operand
  exact (kq_B_X8_operand_0 h_ro).tr rfl
theorem kq_B_X8_signed_146 {N : Nat} {ro : Nat → Nat → Int32 → Int32 → CSt → Option (Sum Nat Int32 × CSt)} {l2 : Int32} {l4 : Int32} {s1 : Int32} {u : CSt} (h_ro : ∀ q z a b u, KCw (ro q z a b u) u) : KCw (B_X8_signed_146 N ro l2 l4 s1 u) u := by
  unfold B_X8_signed_146
  refine KCw_pc ?_
  refine KCw_if ?_ ?_
  · skip
    exact KCw_some (fc_xL rfl)
  · skip
    exact KCw_some (fc_xL rfl)
theorem kq_B_X8_signed_131 {N : Nat} {ro : Nat → Nat → Int32 → Int32 → CSt → Option (Sum Nat Int32 × CSt)} {l2 : Int32} {l4 : Int32} {s1 : Int32} {u : CSt} (h_ro : ∀ q z a b u, KCw (ro q z a b u) u) : KCw (B_X8_signed_131 N ro l2 l4 s1 u) u := by
  unfold B_X8_signed_131
  refine KCw_zr ?_
  refine KCw_pc ?_
  refine KCw_if ?_ ?_
  · skip
    exact (kq_B_X8_signed_146 h_ro).tr (fc_xI (by decide) rfl)
  · skip
    exact (kq_B_X8_signed_146 h_ro).tr (fc_xI (by decide) rfl)
theorem kq_B_X8_signed_130 {N : Nat} {ro : Nat → Nat → Int32 → Int32 → CSt → Option (Sum Nat Int32 × CSt)} {l2 : Int32} {l4 : Int32} {u : CSt} (h_ro : ∀ q z a b u, KCw (ro q z a b u) u) : KCw (B_X8_signed_130 N ro l2 l4 u) u := by
  unfold B_X8_signed_130
  exact (kq_B_X8_signed_131 h_ro).tr rfl
theorem kq_B_X8_signed_110 {N : Nat} {ro : Nat → Nat → Int32 → Int32 → CSt → Option (Sum Nat Int32 × CSt)} {l1 : Int32} {l2 : Int32} {l3 : Int32} {l4 : Int32} {s0 : Nat} {s1 : Int32} {s2 : Int32} {s3 : Int32} {u : CSt} (h_ro : ∀ q z a b u, KCw (ro q z a b u) u) : KCw (B_X8_signed_110 N ro l1 l2 l3 l4 s0 s1 s2 s3 u) u := by
  unfold B_X8_signed_110
  refine KCw_bc (kq_F_X6_step.tr rfl) (fun _ _ => ?_)
  refine KCw_if ?_ ?_
  · skip
    refine KCw_if ?_ ?_
    · skip
      exact (kq_B_X8_signed_130 h_ro).tr rfl
    · skip
      exact (kq_B_X8_signed_131 h_ro).tr rfl
  · skip
    exact (kq_B_X8_signed_130 h_ro).tr rfl
theorem kq_B_X8_signed_89 {N : Nat} {ro : Nat → Nat → Int32 → Int32 → CSt → Option (Sum Nat Int32 × CSt)} {l1 : Int32} {l2 : Int32} {l3 : Int32} {l4 : Int32} {s0 : Int32} {u : CSt} (h_ro : ∀ q z a b u, KCw (ro q z a b u) u) : KCw (B_X8_signed_89 N ro l1 l2 l3 l4 s0 u) u := by
  unfold B_X8_signed_89
  refine KCw_ok ?_
  refine KCw_if ?_ ?_
  · skip
    exact (kq_B_X8_signed_110 h_ro).tr rfl
  · skip
    exact (kq_B_X8_signed_110 h_ro).tr rfl
theorem kq_B_X8_signed_54 {N : Nat} {ro : Nat → Nat → Int32 → Int32 → CSt → Option (Sum Nat Int32 × CSt)} {l1 : Int32} {l2 : Int32} {s0 : Int32} {u : CSt} (h_ro : ∀ q z a b u, KCw (ro q z a b u) u) : KCw (B_X8_signed_54 N ro l1 l2 s0 u) u := by
  unfold B_X8_signed_54
  refine KCw_bt ((h_ro _ _ _ _ _).tr rfl) (fun _ _ => ?_)
  refine KCw_if ?_ ?_
  · skip
    exact (kq_B_X8_signed_89 h_ro).tr rfl
  · skip
    refine KCw_if ?_ ?_
    · skip
      exact (kq_B_X8_signed_89 h_ro).tr rfl
    · skip
      exact (kq_B_X8_signed_89 h_ro).tr rfl
theorem kq_B_X8_signed_49 {N : Nat} {ro : Nat → Nat → Int32 → Int32 → CSt → Option (Sum Nat Int32 × CSt)} {l1 : Int32} {l2 : Int32} {u : CSt} (h_ro : ∀ q z a b u, KCw (ro q z a b u) u) : KCw (B_X8_signed_49 N ro l1 l2 u) u := by
  unfold B_X8_signed_49
  exact (kq_B_X8_signed_54 h_ro).tr rfl
theorem kq_B_X8_signed_0 {N : Nat} {ro : Nat → Nat → Int32 → Int32 → CSt → Option (Sum Nat Int32 × CSt)} {l1 : Int32} {u : CSt} (h_ro : ∀ q z a b u, KCw (ro q z a b u) u) : KCw (B_X8_signed_0 N ro l1 u) u := by
  unfold B_X8_signed_0
  refine KCw_bc (kq_F_X9_type.tr rfl) (fun _ _ => ?_)
  refine KCw_ok ?_
  refine KCw_bc (kq_F_X6_cost.tr rfl) (fun _ _ => ?_)
  refine KCw_bc (kq_F_X9_next.tr rfl) (fun _ _ => ?_)
  refine KCw_bc (kq_F_X9_is.tr rfl) (fun _ _ => ?_)
  refine KCw_if ?_ ?_
  · skip
    refine KCw_bc (kq_F_X9_is.tr rfl) (fun _ _ => ?_)
    refine KCw_if ?_ ?_
    · skip
      exact (kq_B_X8_signed_54 h_ro).tr rfl
    · skip
      exact (kq_B_X8_signed_49 h_ro).tr rfl
  · skip
    exact (kq_B_X8_signed_49 h_ro).tr rfl
theorem kq_F_X8_signed {N : Nat} {ro : Nat → Nat → Int32 → Int32 → CSt → Option (Sum Nat Int32 × CSt)} {l1 : Int32} {u : CSt} (h_ro : ∀ q z a b u, KCw (ro q z a b u) u) : KCw (F_X8_signed N ro l1 u) u := by
  unfold F_X8_signed
  exact (kq_B_X8_signed_0 h_ro).tr rfl
theorem kq_B_X8_bracket_0 {N : Nat} {ro : Nat → Nat → Int32 → Int32 → CSt → Option (Sum Nat Int32 × CSt)} {l1 : Int32} {u : CSt} (h_ro : ∀ q z a b u, KCw (ro q z a b u) u) : KCw (B_X8_bracket_0 N ro l1 u) u := by
  unfold B_X8_bracket_0
  refine KCw_bc (kq_F_X9_next.tr rfl) (fun _ _ => ?_)
  refine KCw_bc (kq_F_X9_isKindWord.tr rfl) (fun _ _ => ?_)
  refine KCw_if ?_ ?_
  · skip
    refine KCw_bt ((h_ro _ _ _ _ _).tr rfl) (fun _ _ => ?_)
    refine KCw_bc (kq_F_X9_next.tr rfl) (fun _ _ => ?_)
    exact KCw_some rfl
  · skip
    refine KCw_bc (kq_F_X9_takeKind.tr rfl) (fun _ _ => ?_)
    refine KCw_bc (kq_F_X9_next.tr rfl) (fun _ _ => ?_)
    refine KCw_ok ?_
    refine KCw_bc (kq_F_X6_cost.tr rfl) (fun _ _ => ?_)
    refine KCw_bt ((h_ro _ _ _ _ _).tr rfl) (fun _ _ => ?_)
    refine KCw_ok ?_
    refine KCw_bc (kq_F_X6_step.tr rfl) (fun _ _ => ?_)
    refine KCw_pc ?_
    exact KCw_some (fc_xI (by decide) rfl)
theorem kq_F_X8_bracket {N : Nat} {ro : Nat → Nat → Int32 → Int32 → CSt → Option (Sum Nat Int32 × CSt)} {l1 : Int32} {u : CSt} (h_ro : ∀ q z a b u, KCw (ro q z a b u) u) : KCw (F_X8_bracket N ro l1 u) u := by
  unfold F_X8_bracket
  exact (kq_B_X8_bracket_0 h_ro).tr rfl
theorem kq_B_X8_named_58 {N : Nat} {ro : Nat → Nat → Int32 → Int32 → CSt → Option (Sum Nat Int32 × CSt)} {l1 : Int32} {u : CSt} (h_ro : ∀ q z a b u, KCw (ro q z a b u) u) : KCw (B_X8_named_58 N ro l1 u) u := by
  unfold B_X8_named_58
  refine KCw_bt ((h_ro _ _ _ _ _).tr rfl) (fun _ _ => ?_)
  refine KCw_pc ?_
  exact KCw_some (fc_xI (by decide) rfl)
theorem kq_B_X8_named_0 {N : Nat} {ro : Nat → Nat → Int32 → Int32 → CSt → Option (Sum Nat Int32 × CSt)} {l1 : Int32} {u : CSt} (h_ro : ∀ q z a b u, KCw (ro q z a b u) u) : KCw (B_X8_named_0 N ro l1 u) u := by
  unfold B_X8_named_0
  refine KCw_bc (kq_F_X9_typeAhead.tr rfl) (fun _ _ => ?_)
  refine KCw_if ?_ ?_
  · skip
    refine KCw_bt ((h_ro _ _ _ _ _).tr rfl) (fun _ _ => ?_)
    refine KCw_pc ?_
    exact KCw_some (fc_xI (by decide) rfl)
  · skip
    refine KCw_bc (kq_F_X9_typeAhead.tr rfl) (fun _ _ => ?_)
    refine KCw_if ?_ ?_
    · skip
      refine KCw_bc (kq_F_X9_typeAhead.tr rfl) (fun _ _ => ?_)
      refine KCw_if ?_ ?_
      · skip
        refine KCw_bt ((h_ro _ _ _ _ _).tr rfl) (fun _ _ => ?_)
        refine KCw_pc ?_
        exact KCw_some (fc_xI (by decide) rfl)
      · skip
        exact (kq_B_X8_named_58 h_ro).tr rfl
    · skip
      exact (kq_B_X8_named_58 h_ro).tr rfl
theorem kq_F_X8_named {N : Nat} {ro : Nat → Nat → Int32 → Int32 → CSt → Option (Sum Nat Int32 × CSt)} {l1 : Int32} {u : CSt} (h_ro : ∀ q z a b u, KCw (ro q z a b u) u) : KCw (F_X8_named N ro l1 u) u := by
  unfold F_X8_named
  exact (kq_B_X8_named_0 h_ro).tr rfl
theorem kq_B_X8_ofPlace_58 {N : Nat} {ro : Nat → Nat → Int32 → Int32 → CSt → Option (Sum Nat Int32 × CSt)} {l1 : Int32} {l2 : Nat} {u : CSt} (h_ro : ∀ q z a b u, KCw (ro q z a b u) u) : KCw (B_X8_ofPlace_58 N ro l1 l2 u) u := by
  unfold B_X8_ofPlace_58
  refine KCw_bc (kq_F_X9_is.tr rfl) (fun _ _ => ?_)
  refine KCw_if ?_ ?_
  · skip
    exact KCw_some rfl
  · skip
    refine KCw_ok ?_
    refine KCw_bt (kq_F_X8_bit.tr rfl) (fun _ _ => ?_)
    refine KCw_bc (kq_F_X6_step.tr rfl) (fun _ _ => ?_)
    exact KCw_some rfl
theorem kq_B_X8_ofPlace_0 {N : Nat} {ro : Nat → Nat → Int32 → Int32 → CSt → Option (Sum Nat Int32 × CSt)} {l1 : Int32} {u : CSt} (h_ro : ∀ q z a b u, KCw (ro q z a b u) u) : KCw (B_X8_ofPlace_0 N ro l1 u) u := by
  unfold B_X8_ofPlace_0
  refine KCw_bt (kq_F_X8_placeName.tr rfl) (fun _ _ => ?_)
  refine KCw_ok ?_
  refine KCw_bc (kq_F_X9_next.tr rfl) (fun _ _ => ?_)
  refine KCw_if ?_ ?_
  · skip
    refine KCw_bc (kq_F_X8_get.tr rfl) (fun _ _ => ?_)
    exact (kq_B_X8_ofPlace_58 h_ro).tr rfl
  · skip
    refine KCw_ok ?_
    refine KCw_bc (kq_F_X6_cost.tr rfl) (fun _ _ => ?_)
    refine KCw_bt ((h_ro _ _ _ _ _).tr rfl) (fun _ _ => ?_)
    refine KCw_ok ?_
    refine KCw_bc (kq_F_X6_step.tr rfl) (fun _ _ => ?_)
    exact (kq_B_X8_ofPlace_58 h_ro).tr rfl
theorem kq_F_X8_ofPlace {N : Nat} {ro : Nat → Nat → Int32 → Int32 → CSt → Option (Sum Nat Int32 × CSt)} {l1 : Int32} {u : CSt} (h_ro : ∀ q z a b u, KCw (ro q z a b u) u) : KCw (F_X8_ofPlace N ro l1 u) u := by
  unfold F_X8_ofPlace
  exact (kq_B_X8_ofPlace_0 h_ro).tr rfl
theorem kq_B_X8_ofInstance_132 {N : Nat} {ro : Nat → Nat → Int32 → Int32 → CSt → Option (Sum Nat Int32 × CSt)} {l2 : Nat} {l3 : Int32} {l4 : Nat} {u : CSt} (h_ro : ∀ q z a b u, KCw (ro q z a b u) u) : KCw (B_X8_ofInstance_132 N ro l2 l3 l4 u) u := by
  unfold B_X8_ofInstance_132
  refine KCw_bc (kq_F_X9_next.tr rfl) (fun _ _ => ?_)
  refine KCw_if ?_ ?_
  · skip
    refine KCw_ok ?_
    refine KCw_bc (kq_F_X6_step.tr rfl) (fun _ _ => ?_)
    exact KCw_some rfl
  · skip
    refine KCw_ok ?_
    refine KCw_bc (kq_F_X6_cost.tr rfl) (fun _ _ => ?_)
    refine KCw_bt ((h_ro _ _ _ _ _).tr rfl) (fun _ _ => ?_)
    refine KCw_ok ?_
    refine KCw_bc (kq_F_X6_step.tr rfl) (fun _ _ => ?_)
    refine KCw_ok ?_
    refine KCw_bc (kq_F_X6_step.tr rfl) (fun _ _ => ?_)
    exact KCw_some rfl
theorem kq_B_X8_ofInstance_120 {N : Nat} {ro : Nat → Nat → Int32 → Int32 → CSt → Option (Sum Nat Int32 × CSt)} {l2 : Nat} {l3 : Int32} {l4 : Nat} {s0 : Int32} {s1 : Int32} {u : CSt} (h_ro : ∀ q z a b u, KCw (ro q z a b u) u) : KCw (B_X8_ofInstance_120 N ro l2 l3 l4 s0 s1 u) u := by
  unfold B_X8_ofInstance_120
  refine KCw_if ?_ ?_
  · skip
    exact (kq_B_X8_ofInstance_132 h_ro).tr rfl
  · skip
    refine KCw_bt (kq_F_X9_refuse.tr rfl) (fun _ _ => ?_)
    exact (kq_B_X8_ofInstance_132 h_ro).tr rfl
theorem kq_B_X8_ofInstance_97 {N : Nat} {ro : Nat → Nat → Int32 → Int32 → CSt → Option (Sum Nat Int32 × CSt)} {l2 : Nat} {l3 : Int32} {l4 : Nat} {u : CSt} (h_ro : ∀ q z a b u, KCw (ro q z a b u) u) : KCw (B_X8_ofInstance_97 N ro l2 l3 l4 u) u := by
  unfold B_X8_ofInstance_97
  refine KCw_bc (kq_F_X9_typeAhead.tr rfl) (fun _ _ => ?_)
  refine KCw_if ?_ ?_
  · skip
    exact (kq_B_X8_ofInstance_120 h_ro).tr rfl
  · skip
    exact (kq_B_X8_ofInstance_120 h_ro).tr rfl
theorem kq_B_X8_ofInstance_22 {N : Nat} {ro : Nat → Nat → Int32 → Int32 → CSt → Option (Sum Nat Int32 × CSt)} {l2 : Nat} {u : CSt} (h_ro : ∀ q z a b u, KCw (ro q z a b u) u) : KCw (B_X8_ofInstance_22 N ro l2 u) u := by
  unfold B_X8_ofInstance_22
  refine KCw_bc (kq_F_X9_next.tr rfl) (fun _ _ => ?_)
  refine KCw_bc (kq_F_X9_next.tr rfl) (fun _ _ => ?_)
  refine KCw_bc (kq_F_X9_here.tr rfl) (fun _ _ => ?_)
  refine KCw_ok ?_
  refine KCw_bc (kq_F_X6_name.tr rfl) (fun _ _ => ?_)
  refine KCw_ok ?_
  refine KCw_bc (kq_F_X9_head.tr rfl) (fun _ _ => ?_)
  refine KCw_bc (kq_F_X9_tail.tr rfl) (fun _ _ => ?_)
  refine KCw_bc (kq_F_X6_localCalled.tr rfl) (fun _ _ => ?_)
  refine KCw_ok ?_
  refine KCw_if ?_ ?_
  · skip
    refine KCw_bt (kq_F_X9_refuse.tr rfl) (fun _ _ => ?_)
    exact (kq_B_X8_ofInstance_97 h_ro).tr rfl
  · skip
    exact (kq_B_X8_ofInstance_97 h_ro).tr rfl
theorem kq_B_X8_ofInstance_0 {N : Nat} {ro : Nat → Nat → Int32 → Int32 → CSt → Option (Sum Nat Int32 × CSt)} {l1 : Int32} {u : CSt} (h_ro : ∀ q z a b u, KCw (ro q z a b u) u) : KCw (B_X8_ofInstance_0 N ro l1 u) u := by
  unfold B_X8_ofInstance_0
  refine KCw_bc (kq_F_X8_known.tr rfl) (fun _ _ => ?_)
  refine KCw_ok ?_
  refine KCw_if ?_ ?_
  · skip
    exact (kq_B_X8_ofInstance_22 h_ro).tr rfl
  · skip
    refine KCw_bt (kq_F_X9_refuse.tr rfl) (fun _ _ => ?_)
    exact (kq_B_X8_ofInstance_22 h_ro).tr rfl
theorem kq_F_X8_ofInstance {N : Nat} {ro : Nat → Nat → Int32 → Int32 → CSt → Option (Sum Nat Int32 × CSt)} {l1 : Int32} {u : CSt} (h_ro : ∀ q z a b u, KCw (ro q z a b u) u) : KCw (F_X8_ofInstance N ro l1 u) u := by
  unfold F_X8_ofInstance
  exact (kq_B_X8_ofInstance_0 h_ro).tr rfl
theorem kq_B_X8_called_31 {N : Nat} {ro : Nat → Nat → Int32 → Int32 → CSt → Option (Sum Nat Int32 × CSt)} {l1 : Int32} {l2 : Nat} {u : CSt} (h_ro : ∀ q z a b u, KCw (ro q z a b u) u) : KCw (B_X8_called_31 N ro l1 l2 u) u := by
  unfold B_X8_called_31
  refine KCw_ok ?_
  refine KCw_bc (kq_F_X6_cost.tr rfl) (fun _ _ => ?_)
  refine KCw_if ?_ ?_
  · skip
    refine KCw_bt ((h_ro _ _ _ _ _).tr rfl) (fun _ _ => ?_)
    exact KCw_some rfl
  · skip
    refine KCw_bt ((h_ro _ _ _ _ _).tr rfl) (fun _ _ => ?_)
    refine KCw_ok ?_
    refine KCw_bc (kq_F_X6_step.tr rfl) (fun _ _ => ?_)
    exact KCw_some rfl
theorem kq_B_X8_called_0 {N : Nat} {ro : Nat → Nat → Int32 → Int32 → CSt → Option (Sum Nat Int32 × CSt)} {l1 : Int32} {u : CSt} (h_ro : ∀ q z a b u, KCw (ro q z a b u) u) : KCw (B_X8_called_0 N ro l1 u) u := by
  unfold B_X8_called_0
  refine KCw_bc (kq_F_X8_known.tr rfl) (fun _ _ => ?_)
  refine KCw_ok ?_
  refine KCw_if ?_ ?_
  · skip
    exact (kq_B_X8_called_31 h_ro).tr rfl
  · skip
    refine KCw_if ?_ ?_
    · skip
      exact (kq_B_X8_called_31 h_ro).tr rfl
    · skip
      refine KCw_bt (kq_F_X9_refuse.tr rfl) (fun _ _ => ?_)
      exact (kq_B_X8_called_31 h_ro).tr rfl
theorem kq_F_X8_called {N : Nat} {ro : Nat → Nat → Int32 → Int32 → CSt → Option (Sum Nat Int32 × CSt)} {l1 : Int32} {u : CSt} (h_ro : ∀ q z a b u, KCw (ro q z a b u) u) : KCw (F_X8_called N ro l1 u) u := by
  unfold F_X8_called
  exact (kq_B_X8_called_0 h_ro).tr rfl
theorem kq_B_X8_builtIn_71 {N : Nat} {ro : Nat → Nat → Int32 → Int32 → CSt → Option (Sum Nat Int32 × CSt)} {R_22 : Nat × Int32 × Int32 × Int32 × Int32 × CSt → Option ((Sum Nat Int32) × CSt)} {l1 : Nat} {l2 : Int32} {l4 : Int32} {l5 : Int32} {l6 : Int32} {s0 : Int32} {u : CSt} (h_ro : ∀ q z a b u, KCw (ro q z a b u) u) (h_R_22 : ∀ a, KCw (R_22 a) a.2.2.2.2.2) : KCw (B_X8_builtIn_71 N ro R_22 l1 l2 l4 l5 l6 s0 u) u := by
  unfold B_X8_builtIn_71
  exact (h_R_22 _).tr rfl
theorem kq_B_X8_builtIn_54 {N : Nat} {ro : Nat → Nat → Int32 → Int32 → CSt → Option (Sum Nat Int32 × CSt)} {R_22 : Nat × Int32 × Int32 × Int32 × Int32 × CSt → Option ((Sum Nat Int32) × CSt)} {l1 : Nat} {l2 : Int32} {l3 : Int32} {l4 : Int32} {l5 : Int32} {u : CSt} (h_ro : ∀ q z a b u, KCw (ro q z a b u) u) (h_R_22 : ∀ a, KCw (R_22 a) a.2.2.2.2.2) : KCw (B_X8_builtIn_54 N ro R_22 l1 l2 l3 l4 l5 u) u := by
  unfold B_X8_builtIn_54
  refine KCw_bt ((h_ro _ _ _ _ _).tr rfl) (fun _ _ => ?_)
  refine KCw_if ?_ ?_
  · skip
    exact (kq_B_X8_builtIn_71 h_ro h_R_22).tr rfl
  · skip
    exact (kq_B_X8_builtIn_71 h_ro h_R_22).tr rfl
theorem kq_B_X8_builtIn_215 {N : Nat} {ro : Nat → Nat → Int32 → Int32 → CSt → Option (Sum Nat Int32 × CSt)} {u : CSt} (h_ro : ∀ q z a b u, KCw (ro q z a b u) u) : KCw (B_X8_builtIn_215 N ro u) u := by
  unfold B_X8_builtIn_215
  exact KCw_some rfl
theorem kq_B_X8_builtIn_192 {N : Nat} {ro : Nat → Nat → Int32 → Int32 → CSt → Option (Sum Nat Int32 × CSt)} {l1 : Nat} {l2 : Int32} {l7 : Int32} {s0 : Nat} {s1 : Int32} {s2 : Int32} {s3 : Int32} {u : CSt} (h_ro : ∀ q z a b u, KCw (ro q z a b u) u) : KCw (B_X8_builtIn_192 N ro l1 l2 l7 s0 s1 s2 s3 u) u := by
  unfold B_X8_builtIn_192
  refine KCw_bc (kq_F_X6_step.tr rfl) (fun _ _ => ?_)
  refine KCw_if ?_ ?_
  · skip
    exact (kq_B_X8_builtIn_215 h_ro).tr rfl
  · skip
    refine KCw_if ?_ ?_
    · skip
      exact (kq_B_X8_builtIn_215 h_ro).tr rfl
    · skip
      exact KCw_some rfl
theorem kq_B_X8_builtIn_169 {N : Nat} {ro : Nat → Nat → Int32 → Int32 → CSt → Option (Sum Nat Int32 × CSt)} {l1 : Nat} {l2 : Int32} {l7 : Int32} {s0 : Int32} {u : CSt} (h_ro : ∀ q z a b u, KCw (ro q z a b u) u) : KCw (B_X8_builtIn_169 N ro l1 l2 l7 s0 u) u := by
  unfold B_X8_builtIn_169
  refine KCw_ok ?_
  refine KCw_if ?_ ?_
  · skip
    exact (kq_B_X8_builtIn_192 h_ro).tr rfl
  · skip
    exact (kq_B_X8_builtIn_192 h_ro).tr rfl
theorem kq_B_X8_builtIn_152 {N : Nat} {ro : Nat → Nat → Int32 → Int32 → CSt → Option (Sum Nat Int32 × CSt)} {l1 : Nat} {l2 : Int32} {s0 : Int32} {u : CSt} (h_ro : ∀ q z a b u, KCw (ro q z a b u) u) : KCw (B_X8_builtIn_152 N ro l1 l2 s0 u) u := by
  unfold B_X8_builtIn_152
  refine KCw_if ?_ ?_
  · skip
    exact (kq_B_X8_builtIn_169 h_ro).tr rfl
  · skip
    exact (kq_B_X8_builtIn_169 h_ro).tr rfl
theorem kq_B_X8_builtIn_135 {N : Nat} {ro : Nat → Nat → Int32 → Int32 → CSt → Option (Sum Nat Int32 × CSt)} {l1 : Nat} {l2 : Int32} {l3 : Int32} {l4 : Int32} {s0 : Int32} {u : CSt} (h_ro : ∀ q z a b u, KCw (ro q z a b u) u) : KCw (B_X8_builtIn_135 N ro l1 l2 l3 l4 s0 u) u := by
  unfold B_X8_builtIn_135
  refine KCw_if ?_ ?_
  · skip
    exact (kq_B_X8_builtIn_152 h_ro).tr rfl
  · skip
    exact (kq_B_X8_builtIn_152 h_ro).tr rfl
theorem kq_B_X8_builtIn_130 {N : Nat} {ro : Nat → Nat → Int32 → Int32 → CSt → Option (Sum Nat Int32 × CSt)} {l1 : Nat} {l2 : Int32} {l3 : Int32} {l4 : Int32} {u : CSt} (h_ro : ∀ q z a b u, KCw (ro q z a b u) u) : KCw (B_X8_builtIn_130 N ro l1 l2 l3 l4 u) u := by
  unfold B_X8_builtIn_130
  exact (kq_B_X8_builtIn_135 h_ro).tr rfl
theorem kq_B_X8_builtIn_112 {N : Nat} {ro : Nat → Nat → Int32 → Int32 → CSt → Option (Sum Nat Int32 × CSt)} {l1 : Nat} {l2 : Int32} {l3 : Int32} {l4 : Int32} {u : CSt} (h_ro : ∀ q z a b u, KCw (ro q z a b u) u) : KCw (B_X8_builtIn_112 N ro l1 l2 l3 l4 u) u := by
  unfold B_X8_builtIn_112
  refine KCw_if ?_ ?_
  · skip
    exact (kq_B_X8_builtIn_130 h_ro).tr rfl
  · skip
    refine KCw_if ?_ ?_
    · skip
      exact (kq_B_X8_builtIn_130 h_ro).tr rfl
    · skip
      exact (kq_B_X8_builtIn_135 h_ro).tr rfl
theorem kq_B_X8_builtIn_87 {N : Nat} {ro : Nat → Nat → Int32 → Int32 → CSt → Option (Sum Nat Int32 × CSt)} {l1 : Nat} {l2 : Int32} {l3 : Int32} {l4 : Int32} {l5 : Int32} {u : CSt} (h_ro : ∀ q z a b u, KCw (ro q z a b u) u) : KCw (B_X8_builtIn_87 N ro l1 l2 l3 l4 l5 u) u := by
  unfold B_X8_builtIn_87
  refine KCw_bc (kq_F_X9_next.tr rfl) (fun _ _ => ?_)
  refine KCw_if ?_ ?_
  · skip
    exact (kq_B_X8_builtIn_112 h_ro).tr rfl
  · skip
    refine KCw_bt (kq_F_X9_refuse.tr rfl) (fun _ _ => ?_)
    exact (kq_B_X8_builtIn_112 h_ro).tr rfl
theorem kq_B_X8_builtIn_22 {N : Nat} {ro : Nat → Nat → Int32 → Int32 → CSt → Option (Sum Nat Int32 × CSt)} {R_22 : Nat × Int32 × Int32 × Int32 × Int32 × CSt → Option ((Sum Nat Int32) × CSt)} {l1 : Nat} {l2 : Int32} {l3 : Int32} {l4 : Int32} {l5 : Int32} {u : CSt} (h_ro : ∀ q z a b u, KCw (ro q z a b u) u) (h_R_22 : ∀ a, KCw (R_22 a) a.2.2.2.2.2) : KCw (B_X8_builtIn_22 N ro R_22 l1 l2 l3 l4 l5 u) u := by
  unfold B_X8_builtIn_22
  refine KCw_if ?_ ?_
  · skip
    exact (kq_B_X8_builtIn_87 h_ro).tr rfl
  · skip
    refine KCw_bc (kq_F_X9_is.tr rfl) (fun _ _ => ?_)
    refine KCw_if ?_ ?_
    · skip
      refine KCw_if ?_ ?_
      · skip
        exact (kq_B_X8_builtIn_54 h_ro h_R_22).tr rfl
      · skip
        refine KCw_bc (kq_F_X9_next.tr rfl) (fun _ _ => ?_)
        exact (kq_B_X8_builtIn_54 h_ro h_R_22).tr rfl
    · skip
      exact (kq_B_X8_builtIn_87 h_ro).tr rfl
theorem kq_LP_X8_builtIn_22 {N : Nat} {ro : Nat → Nat → Int32 → Int32 → CSt → Option (Sum Nat Int32 × CSt)} (h_ro : ∀ q z a b u, KCw (ro q z a b u) u) (n : Nat) : ∀ a : Nat × Int32 × Int32 × Int32 × Int32 × CSt, KCw (LP_X8_builtIn_22 N ro n a) a.2.2.2.2.2 := by
  induction n with
  | zero => exact fun a r z e => by have e : (none : Option _) = some (r, z) := e; cases e
  | succ n ih =>
    intro a
    show KCw (B_X8_builtIn_22 N ro (LP_X8_builtIn_22 N ro n) a.1 a.2.1 a.2.2.1 a.2.2.2.1 a.2.2.2.2.1 a.2.2.2.2.2) a.2.2.2.2.2
    exact kq_B_X8_builtIn_22 h_ro ih
theorem kq_B_X8_builtIn_0 {N : Nat} {ro : Nat → Nat → Int32 → Int32 → CSt → Option (Sum Nat Int32 × CSt)} {l1 : Nat} {l2 : Int32} {u : CSt} (h_ro : ∀ q z a b u, KCw (ro q z a b u) u) : KCw (B_X8_builtIn_0 N ro l1 l2 u) u := by
  unfold B_X8_builtIn_0
  refine KCw_bc (kq_F_X9_next.tr rfl) (fun _ _ => ?_)
  refine KCw_bc (kq_F_X9_next.tr rfl) (fun _ _ => ?_)
  exact (kq_LP_X8_builtIn_22 h_ro _ _).tr rfl
theorem kq_F_X8_builtIn {N : Nat} {ro : Nat → Nat → Int32 → Int32 → CSt → Option (Sum Nat Int32 × CSt)} {l1 : Nat} {l2 : Int32} {u : CSt} (h_ro : ∀ q z a b u, KCw (ro q z a b u) u) : KCw (F_X8_builtIn N ro l1 l2 u) u := by
  unfold F_X8_builtIn
  exact (kq_B_X8_builtIn_0 h_ro).tr rfl
theorem kq_B_X8_arguments_147 {N : Nat} {ro : Nat → Nat → Int32 → Int32 → CSt → Option (Sum Nat Int32 × CSt)} {R_17 : Nat × Int32 × Int32 × Int32 × CSt → Option ((Sum Nat Int32) × CSt)} {l1 : Nat} {l2 : Int32} {l3 : Int32} {l4 : Int32} {u : CSt} (h_ro : ∀ q z a b u, KCw (ro q z a b u) u) (h_R_17 : ∀ a, KCw (R_17 a) a.2.2.2.2) : KCw (B_X8_arguments_147 N ro R_17 l1 l2 l3 l4 u) u := by
  unfold B_X8_arguments_147
  exact (h_R_17 _).tr rfl
theorem kq_B_X8_arguments_109 {N : Nat} {ro : Nat → Nat → Int32 → Int32 → CSt → Option (Sum Nat Int32 × CSt)} {R_17 : Nat × Int32 × Int32 × Int32 × CSt → Option ((Sum Nat Int32) × CSt)} {l1 : Nat} {l2 : Int32} {l3 : Int32} {l4 : Int32} {l5 : Int32} {l7 : Nat} {u : CSt} (h_ro : ∀ q z a b u, KCw (ro q z a b u) u) (h_R_17 : ∀ a, KCw (R_17 a) a.2.2.2.2) : KCw (B_X8_arguments_109 N ro R_17 l1 l2 l3 l4 l5 l7 u) u := by
  unfold B_X8_arguments_109
  refine KCw_if ?_ ?_
  · skip
    refine KCw_if ?_ ?_
    · skip
      exact (kq_B_X8_arguments_147 h_ro h_R_17).tr rfl
    · skip
      refine KCw_ok ?_
      refine KCw_bc (kq_F_X6_step.tr rfl) (fun _ _ => ?_)
      exact (kq_B_X8_arguments_147 h_ro h_R_17).tr rfl
  · skip
    exact (kq_B_X8_arguments_147 h_ro h_R_17).tr rfl
theorem kq_B_X8_arguments_49 {N : Nat} {ro : Nat → Nat → Int32 → Int32 → CSt → Option (Sum Nat Int32 × CSt)} {R_17 : Nat × Int32 × Int32 × Int32 × CSt → Option ((Sum Nat Int32) × CSt)} {l1 : Nat} {l2 : Int32} {l3 : Int32} {l4 : Int32} {u : CSt} (h_ro : ∀ q z a b u, KCw (ro q z a b u) u) (h_R_17 : ∀ a, KCw (R_17 a) a.2.2.2.2) : KCw (B_X8_arguments_49 N ro R_17 l1 l2 l3 l4 u) u := by
  unfold B_X8_arguments_49
  refine KCw_bc (kq_F_X9_here.tr rfl) (fun _ _ => ?_)
  refine KCw_bt ((h_ro _ _ _ _ _).tr rfl) (fun _ _ => ?_)
  refine KCw_ok ?_
  refine KCw_bc (kq_F_X6_local.tr rfl) (fun _ _ => ?_)
  refine KCw_ok ?_
  refine KCw_if ?_ ?_
  · skip
    refine KCw_bc (kq_F_X8_isTooWide.tr rfl) (fun _ _ => ?_)
    refine KCw_if ?_ ?_
    · skip
      exact (kq_B_X8_arguments_109 h_ro h_R_17).tr rfl
    · skip
      refine KCw_bt (kq_F_X9_refuse.tr rfl) (fun _ _ => ?_)
      exact (kq_B_X8_arguments_109 h_ro h_R_17).tr rfl
  · skip
    exact (kq_B_X8_arguments_109 h_ro h_R_17).tr rfl
theorem kq_B_X8_arguments_153 {N : Nat} {ro : Nat → Nat → Int32 → Int32 → CSt → Option (Sum Nat Int32 × CSt)} {l1 : Nat} {l3 : Int32} {l4 : Int32} {u : CSt} (h_ro : ∀ q z a b u, KCw (ro q z a b u) u) : KCw (B_X8_arguments_153 N ro l1 l3 l4 u) u := by
  unfold B_X8_arguments_153
  refine KCw_bc (kq_F_X9_next.tr rfl) (fun _ _ => ?_)
  refine KCw_if ?_ ?_
  · skip
    exact KCw_some rfl
  · skip
    refine KCw_bt (kq_F_X9_refuse.tr rfl) (fun _ _ => ?_)
    exact KCw_some rfl
theorem kq_B_X8_arguments_17 {N : Nat} {ro : Nat → Nat → Int32 → Int32 → CSt → Option (Sum Nat Int32 × CSt)} {R_17 : Nat × Int32 × Int32 × Int32 × CSt → Option ((Sum Nat Int32) × CSt)} {l1 : Nat} {l2 : Int32} {l3 : Int32} {l4 : Int32} {u : CSt} (h_ro : ∀ q z a b u, KCw (ro q z a b u) u) (h_R_17 : ∀ a, KCw (R_17 a) a.2.2.2.2) : KCw (B_X8_arguments_17 N ro R_17 l1 l2 l3 l4 u) u := by
  unfold B_X8_arguments_17
  refine KCw_if ?_ ?_
  · skip
    exact (kq_B_X8_arguments_153 h_ro).tr rfl
  · skip
    refine KCw_bc (kq_F_X9_is.tr rfl) (fun _ _ => ?_)
    refine KCw_if ?_ ?_
    · skip
      refine KCw_if ?_ ?_
      · skip
        exact (kq_B_X8_arguments_49 h_ro h_R_17).tr rfl
      · skip
        refine KCw_bc (kq_F_X9_next.tr rfl) (fun _ _ => ?_)
        exact (kq_B_X8_arguments_49 h_ro h_R_17).tr rfl
    · skip
      exact (kq_B_X8_arguments_153 h_ro).tr rfl
theorem kq_LP_X8_arguments_17 {N : Nat} {ro : Nat → Nat → Int32 → Int32 → CSt → Option (Sum Nat Int32 × CSt)} (h_ro : ∀ q z a b u, KCw (ro q z a b u) u) (n : Nat) : ∀ a : Nat × Int32 × Int32 × Int32 × CSt, KCw (LP_X8_arguments_17 N ro n a) a.2.2.2.2 := by
  induction n with
  | zero => exact fun a r z e => by have e : (none : Option _) = some (r, z) := e; cases e
  | succ n ih =>
    intro a
    show KCw (B_X8_arguments_17 N ro (LP_X8_arguments_17 N ro n) a.1 a.2.1 a.2.2.1 a.2.2.2.1 a.2.2.2.2) a.2.2.2.2
    exact kq_B_X8_arguments_17 h_ro ih
theorem kq_B_X8_arguments_0 {N : Nat} {ro : Nat → Nat → Int32 → Int32 → CSt → Option (Sum Nat Int32 × CSt)} {l1 : Nat} {l2 : Int32} {l3 : Int32} {u : CSt} (h_ro : ∀ q z a b u, KCw (ro q z a b u) u) : KCw (B_X8_arguments_0 N ro l1 l2 l3 u) u := by
  unfold B_X8_arguments_0
  refine KCw_bc (kq_F_X9_next.tr rfl) (fun _ _ => ?_)
  refine KCw_bc (kq_F_X9_next.tr rfl) (fun _ _ => ?_)
  exact (kq_LP_X8_arguments_17 h_ro _ _).tr rfl
theorem kq_F_X8_arguments {N : Nat} {ro : Nat → Nat → Int32 → Int32 → CSt → Option (Sum Nat Int32 × CSt)} {l1 : Nat} {l2 : Int32} {l3 : Int32} {u : CSt} (h_ro : ∀ q z a b u, KCw (ro q z a b u) u) : KCw (F_X8_arguments N ro l1 l2 l3 u) u := by
  unfold F_X8_arguments
  exact (kq_B_X8_arguments_0 h_ro).tr rfl
theorem kq_B_X8_index_22 {N : Nat} {ro : Nat → Nat → Int32 → Int32 → CSt → Option (Sum Nat Int32 × CSt)} {l1 : Nat} {l2 : Int32} {s0 : Nat} {s1 : Int32} {u : CSt} (h_ro : ∀ q z a b u, KCw (ro q z a b u) u) : KCw (B_X8_index_22 N ro l1 l2 s0 s1 u) u := by
  unfold B_X8_index_22
  refine KCw_bc (kq_F_X6_step.tr rfl) (fun _ _ => ?_)
  exact KCw_some rfl
theorem kq_B_X8_index_0 {N : Nat} {ro : Nat → Nat → Int32 → Int32 → CSt → Option (Sum Nat Int32 × CSt)} {l1 : Nat} {l2 : Int32} {u : CSt} (h_ro : ∀ q z a b u, KCw (ro q z a b u) u) : KCw (B_X8_index_0 N ro l1 l2 u) u := by
  unfold B_X8_index_0
  refine KCw_bt ((h_ro _ _ _ _ _).tr rfl) (fun _ _ => ?_)
  refine KCw_ok ?_
  refine KCw_bc (kq_F_X4_isLocal.tr rfl) (fun _ _ => ?_)
  refine KCw_if ?_ ?_
  · skip
    exact (kq_B_X8_index_22 h_ro).tr rfl
  · skip
    exact (kq_B_X8_index_22 h_ro).tr rfl
theorem kq_F_X8_index {N : Nat} {ro : Nat → Nat → Int32 → Int32 → CSt → Option (Sum Nat Int32 × CSt)} {l1 : Nat} {l2 : Int32} {u : CSt} (h_ro : ∀ q z a b u, KCw (ro q z a b u) u) : KCw (F_X8_index N ro l1 l2 u) u := by
  unfold F_X8_index
  exact (kq_B_X8_index_0 h_ro).tr rfl
theorem kq_B_X8_indexNumber_32 {N : Nat} {ro : Nat → Nat → Int32 → Int32 → CSt → Option (Sum Nat Int32 × CSt)} {u : CSt} (h_ro : ∀ q z a b u, KCw (ro q z a b u) u) : KCw (B_X8_indexNumber_32 N ro u) u := by
  unfold B_X8_indexNumber_32
  refine KCw_bc (kq_F_X9_next.tr rfl) (fun _ _ => ?_)
  exact KCw_some rfl
theorem kq_B_X8_indexNumber_0 {N : Nat} {ro : Nat → Nat → Int32 → Int32 → CSt → Option (Sum Nat Int32 × CSt)} {u : CSt} (h_ro : ∀ q z a b u, KCw (ro q z a b u) u) : KCw (B_X8_indexNumber_0 N ro u) u := by
  unfold B_X8_indexNumber_0
  refine KCw_bc (kq_F_X9_next.tr rfl) (fun _ _ => ?_)
  refine KCw_bc (kq_F_X9_here.tr rfl) (fun _ _ => ?_)
  refine KCw_bt ((h_ro _ _ _ _ _).tr rfl) (fun _ _ => ?_)
  refine KCw_if ?_ ?_
  · skip
    refine KCw_bt (kq_F_X9_refuse.tr rfl) (fun _ _ => ?_)
    exact (kq_B_X8_indexNumber_32 h_ro).tr rfl
  · skip
    exact (kq_B_X8_indexNumber_32 h_ro).tr rfl
theorem kq_F_X8_indexNumber {N : Nat} {ro : Nat → Nat → Int32 → Int32 → CSt → Option (Sum Nat Int32 × CSt)} {u : CSt} (h_ro : ∀ q z a b u, KCw (ro q z a b u) u) : KCw (F_X8_indexNumber N ro u) u := by
  unfold F_X8_indexNumber
  exact (kq_B_X8_indexNumber_0 h_ro).tr rfl
theorem kq_FTE_ {N : Nat} : ∀ (d q z : Nat) (a b : Int32) (u : CSt), KCw (FTE_ N d q z a b u) u := by
  intro d
  induction d with
  | zero => exact fun q z a b u => KCw_none
  | succ d ih =>
    intro q z a b u
    show KCw (if q = 0 then F_X8_expression N (FTE_ N d) u else if q = 1 then F_X8_operators N (FTE_ N d) u else if q = 2 then F_X8_operand N (FTE_ N d) u else if q = 3 then F_X8_signed N (FTE_ N d) a u else if q = 4 then F_X8_bracket N (FTE_ N d) a u else if q = 5 then F_X8_named N (FTE_ N d) a u else if q = 6 then F_X8_ofPlace N (FTE_ N d) a u else if q = 7 then F_X8_ofInstance N (FTE_ N d) a u else if q = 8 then F_X8_called N (FTE_ N d) a u else if q = 9 then F_X8_builtIn N (FTE_ N d) z a u else if q = 10 then F_X8_arguments N (FTE_ N d) z a b u else if q = 11 then F_X8_index N (FTE_ N d) z a u else if q = 12 then F_X8_indexNumber N (FTE_ N d) u else none) u
    refine KCw_if (kq_F_X8_expression ih) ?_
    refine KCw_if (kq_F_X8_operators ih) ?_
    refine KCw_if (kq_F_X8_operand ih) ?_
    refine KCw_if (kq_F_X8_signed ih) ?_
    refine KCw_if (kq_F_X8_bracket ih) ?_
    refine KCw_if (kq_F_X8_named ih) ?_
    refine KCw_if (kq_F_X8_ofPlace ih) ?_
    refine KCw_if (kq_F_X8_ofInstance ih) ?_
    refine KCw_if (kq_F_X8_called ih) ?_
    refine KCw_if (kq_F_X8_builtIn ih) ?_
    refine KCw_if (kq_F_X8_arguments ih) ?_
    refine KCw_if (kq_F_X8_index ih) ?_
    refine KCw_if (kq_F_X8_indexNumber ih) ?_
    exact KCw_none
theorem kq_G_X8_expression {N : Nat} {u : CSt} : KCw (G_X8_expression N u) u := kq_FTE_ _ _ _ _ _ _
theorem kq_G_X8_arguments {N : Nat} {l1 : Nat} {l2 : Int32} {l3 : Int32} {u : CSt} : KCw (G_X8_arguments N l1 l2 l3 u) u := kq_FTE_ _ _ _ _ _ _
theorem kq_G_X8_index {N : Nat} {l1 : Nat} {l2 : Int32} {u : CSt} : KCw (G_X8_index N l1 l2 u) u := kq_FTE_ _ _ _ _ _ _
theorem kq_B_X3_newName_108 {N : Nat} {l1 : Int32} {l3 : Int64} {l5 : Int32} {u : CSt}  : KCw (B_X3_newName_108 N l1 l3 l5 u) u := by
  unfold B_X3_newName_108
  refine KCw_bc (kq_F_X9_next.tr rfl) (fun _ _ => ?_)
  refine KCw_ok ?_
  refine KCw_bc (kq_F_X6_add.tr rfl) (fun _ _ => ?_)
  refine KCw_ok ?_
  exact KCw_some rfl
theorem kq_B_X3_newName_88 {N : Nat} {l1 : Int32} {l2 : Int32} {l3 : Int64} {l5 : Int32} {u : CSt}  : KCw (B_X3_newName_88 N l1 l2 l3 l5 u) u := by
  unfold B_X3_newName_88
  refine KCw_ok ?_
  refine KCw_bc (kq_F_X6_hasRoomFor.tr rfl) (fun _ _ => ?_)
  refine KCw_if ?_ ?_
  · skip
    refine KCw_bt (kq_F_X9_refuse.tr rfl) (fun _ _ => ?_)
    exact kq_B_X3_newName_108.tr rfl
  · skip
    exact kq_B_X3_newName_108.tr rfl
theorem kq_B_X3_newName_67 {N : Nat} {l1 : Int32} {l2 : Int32} {l3 : Int64} {l5 : Int32} {s0 : Nat} {u : CSt}  : KCw (B_X3_newName_67 N l1 l2 l3 l5 s0 u) u := by
  unfold B_X3_newName_67
  refine KCw_if ?_ ?_
  · skip
    exact kq_B_X3_newName_88.tr rfl
  · skip
    refine KCw_bt (kq_F_X9_refuse.tr rfl) (fun _ _ => ?_)
    exact kq_B_X3_newName_88.tr rfl
theorem kq_B_X3_newName_0 {N : Nat} {l1 : Int32} {u : CSt}  : KCw (B_X3_newName_0 N l1 u) u := by
  unfold B_X3_newName_0
  refine KCw_bc (kq_F_X9_here.tr rfl) (fun _ _ => ?_)
  refine KCw_bc (kq_F_X9_head.tr rfl) (fun _ _ => ?_)
  refine KCw_bc (kq_F_X9_tail.tr rfl) (fun _ _ => ?_)
  refine KCw_if ?_ ?_
  · skip
    refine KCw_ok ?_
    refine KCw_bc (kq_F_X6_name.tr rfl) (fun _ _ => ?_)
    refine KCw_ok ?_
    refine KCw_bc (kq_F_X6_localCalled.tr rfl) (fun _ _ => ?_)
    refine KCw_ok ?_
    exact kq_B_X3_newName_67.tr rfl
  · skip
    refine KCw_ok ?_
    refine KCw_bc (kq_F_X6_ofText.tr rfl) (fun _ _ => ?_)
    refine KCw_ok ?_
    exact kq_B_X3_newName_67.tr rfl
theorem kq_F_X3_newName {N : Nat} {l1 : Int32} {u : CSt}  : KCw (F_X3_newName N l1 u) u := by
  unfold F_X3_newName
  exact kq_B_X3_newName_0.tr rfl
theorem kq_B_X3_allot_0 {N : Nat} {l1 : Int32} {l2 : Int32} {l3 : Int32} {u : CSt}  : KCw (B_X3_allot_0 N l1 l2 l3 u) u := by
  unfold B_X3_allot_0
  refine KCw_rd (fun _ => ?_)
  refine KCw_wc ?_
  refine KCw_pc ?_
  refine KCw_rd (fun _ => ?_)
  refine KCw_if ?_ ?_
  · skip
    exact KCw_some (fc_xI (by decide) (fc_xA rfl))
  · skip
    refine KCw_bt (kq_F_X9_refuse.tr (fc_xI (by decide) (fc_xA rfl))) (fun _ _ => ?_)
    exact KCw_some rfl
theorem kq_F_X3_allot {N : Nat} {l1 : Int32} {l2 : Int32} {l3 : Int32} {u : CSt}  : KCw (F_X3_allot N l1 l2 l3 u) u := by
  unfold F_X3_allot
  exact kq_B_X3_allot_0.tr rfl
theorem kq_B_X3_join_64 {N : Nat} {l2 : Int32} {l3 : Nat} {s0 : Nat} {s1 : Int32} {s2 : Int32} {u : CSt}  : KCw (B_X3_join_64 N l2 l3 s0 s1 s2 u) u := by
  unfold B_X3_join_64
  refine KCw_pc ?_
  refine KCw_if ?_ ?_
  · skip
    exact KCw_some (fc_xmI rfl)
  · skip
    refine KCw_bt (kq_F_X9_refuse.tr (fc_xmI rfl)) (fun _ _ => ?_)
    exact KCw_some rfl
theorem kq_B_X3_join_0 {N : Nat} {l1 : Nat} {l2 : Int32} {u : CSt}  : KCw (B_X3_join_0 N l1 l2 u) u := by
  unfold B_X3_join_0
  refine KCw_ok ?_
  refine KCw_bc (kq_F_X6_name.tr rfl) (fun _ _ => ?_)
  refine KCw_ok ?_
  refine KCw_pc ?_
  refine KCw_pc ?_
  refine KCw_pc ?_
  refine KCw_if ?_ ?_
  · skip
    exact kq_B_X3_join_64.tr (fc_xmI (fc_xmI (fc_xmI rfl)))
  · skip
    exact kq_B_X3_join_64.tr (fc_xmI (fc_xmI (fc_xmI rfl)))
theorem kq_F_X3_join {N : Nat} {l1 : Nat} {l2 : Int32} {u : CSt}  : KCw (F_X3_join N l1 l2 u) u := by
  unfold F_X3_join
  exact kq_B_X3_join_0.tr rfl
theorem kq_B_X3_constant_60 {N : Nat} {l1 : Int32} {l3 : Int32} {l5 : Int64} {u : CSt}  : KCw (B_X3_constant_60 N l1 l3 l5 u) u := by
  unfold B_X3_constant_60
  refine KCw_if ?_ ?_
  · skip
    refine KCw_bt (kq_F_X9_refuse.tr rfl) (fun _ _ => ?_)
    exact KCw_some rfl
  · skip
    exact KCw_some rfl
theorem kq_B_X3_constant_21 {N : Nat} {l1 : Int32} {l2 : Int32} {u : CSt}  : KCw (B_X3_constant_21 N l1 l2 u) u := by
  unfold B_X3_constant_21
  refine KCw_bc (kq_F_X9_here.tr rfl) (fun _ _ => ?_)
  refine KCw_bc (kq_F_X9_isWide.tr rfl) (fun _ _ => ?_)
  refine KCw_bt (kq_F_X9_takeNumber.tr rfl) (fun _ _ => ?_)
  refine KCw_if ?_ ?_
  · skip
    exact kq_B_X3_constant_60.tr rfl
  · skip
    exact kq_B_X3_constant_60.tr rfl
theorem kq_B_X3_constant_0 {N : Nat} {l1 : Int32} {u : CSt}  : KCw (B_X3_constant_0 N l1 u) u := by
  unfold B_X3_constant_0
  refine KCw_bc (kq_F_X9_is.tr rfl) (fun _ _ => ?_)
  refine KCw_if ?_ ?_
  · skip
    exact kq_B_X3_constant_21.tr rfl
  · skip
    refine KCw_bc (kq_F_X9_next.tr rfl) (fun _ _ => ?_)
    exact kq_B_X3_constant_21.tr rfl
theorem kq_F_X3_constant {N : Nat} {l1 : Int32} {u : CSt}  : KCw (F_X3_constant N l1 u) u := by
  unfold F_X3_constant
  exact kq_B_X3_constant_0.tr rfl
theorem kq_B_X3_oneVariable_112 {N : Nat} {l1 : Int32} {l3 : Int32} {l4 : Int32} {l5 : Nat} {u : CSt}  : KCw (B_X3_oneVariable_112 N l1 l3 l4 l5 u) u := by
  unfold B_X3_oneVariable_112
  refine KCw_if ?_ ?_
  · skip
    refine KCw_pc ?_
    refine KCw_bt (kq_F_X3_allot.tr (fc_xmI rfl)) (fun _ _ => ?_)
    exact KCw_some rfl
  · skip
    refine KCw_bt (kq_F_X3_join.tr rfl) (fun _ _ => ?_)
    exact KCw_some rfl
theorem kq_B_X3_oneVariable_83 {N : Nat} {l1 : Int32} {l3 : Int32} {l4 : Int32} {l5 : Nat} {u : CSt}  : KCw (B_X3_oneVariable_83 N l1 l3 l4 l5 u) u := by
  unfold B_X3_oneVariable_83
  refine KCw_bc (kq_F_X9_is.tr rfl) (fun _ _ => ?_)
  refine KCw_if ?_ ?_
  · skip
    exact kq_B_X3_oneVariable_112.tr rfl
  · skip
    refine KCw_bc (kq_F_X9_next.tr rfl) (fun _ _ => ?_)
    refine KCw_bt (kq_F_X3_constant.tr rfl) (fun _ _ => ?_)
    refine KCw_pc ?_
    exact kq_B_X3_oneVariable_112.tr (fc_xmL rfl)
theorem kq_B_X3_oneVariable_0 {N : Nat} {l1 : Int32} {l2 : Int32} {l3 : Int32} {u : CSt}  : KCw (B_X3_oneVariable_0 N l1 l2 l3 u) u := by
  unfold B_X3_oneVariable_0
  refine KCw_bc (kq_F_X9_here.tr rfl) (fun _ _ => ?_)
  refine KCw_bt (kq_F_X3_newName.tr rfl) (fun _ _ => ?_)
  refine KCw_ok ?_
  refine KCw_pc ?_
  refine KCw_pc ?_
  refine KCw_pc ?_
  refine KCw_bc (kq_F_X9_is.tr (fc_xmI (fc_xmI (fc_xmI rfl)))) (fun _ _ => ?_)
  refine KCw_if ?_ ?_
  · skip
    exact kq_B_X3_oneVariable_83.tr rfl
  · skip
    refine KCw_bc (kq_F_X9_next.tr rfl) (fun _ _ => ?_)
    refine KCw_pc ?_
    refine KCw_bt (kq_F_X9_takeBounded.tr (fc_xmI rfl)) (fun _ _ => ?_)
    refine KCw_pc ?_
    refine KCw_bc (kq_F_X9_next.tr (fc_xmI rfl)) (fun _ _ => ?_)
    exact kq_B_X3_oneVariable_83.tr rfl
theorem kq_F_X3_oneVariable {N : Nat} {l1 : Int32} {l2 : Int32} {l3 : Int32} {u : CSt}  : KCw (F_X3_oneVariable N l1 l2 l3 u) u := by
  unfold F_X3_oneVariable
  exact kq_B_X3_oneVariable_0.tr rfl
theorem kq_B_X3_variables_58 {N : Nat} {u : CSt}  : KCw (B_X3_variables_58 N u) u := by
  unfold B_X3_variables_58
  refine KCw_bc (kq_F_X9_next.tr rfl) (fun _ _ => ?_)
  exact KCw_some rfl
theorem kq_B_X3_variables_18 {N : Nat} {R_18 : Int32 × Int32 × Int32 × Int32 × CSt → Option ((Sum Nat Int32) × CSt)} {l1 : Int32} {l2 : Int32} {l3 : Int32} {l4 : Int32} {u : CSt} (h_R_18 : ∀ a, KCw (R_18 a) a.2.2.2.2) : KCw (B_X3_variables_18 N R_18 l1 l2 l3 l4 u) u := by
  unfold B_X3_variables_18
  refine KCw_if ?_ ?_
  · skip
    exact kq_B_X3_variables_58.tr rfl
  · skip
    refine KCw_bc (kq_F_X9_is.tr rfl) (fun _ _ => ?_)
    refine KCw_if ?_ ?_
    · skip
      exact kq_B_X3_variables_58.tr rfl
    · skip
      refine KCw_bc (kq_F_X9_next.tr rfl) (fun _ _ => ?_)
      refine KCw_bt (kq_F_X3_oneVariable.tr rfl) (fun _ _ => ?_)
      exact (h_R_18 _).tr rfl
theorem kq_LP_X3_variables_18 {N : Nat}  (n : Nat) : ∀ a : Int32 × Int32 × Int32 × Int32 × CSt, KCw (LP_X3_variables_18 N n a) a.2.2.2.2 := by
  induction n with
  | zero => exact fun a r z e => by have e : (none : Option _) = some (r, z) := e; cases e
  | succ n ih =>
    intro a
    show KCw (B_X3_variables_18 N (LP_X3_variables_18 N n) a.1 a.2.1 a.2.2.1 a.2.2.2.1 a.2.2.2.2) a.2.2.2.2
    exact kq_B_X3_variables_18 ih
theorem kq_B_X3_variables_0 {N : Nat} {l1 : Int32} {l2 : Int32} {u : CSt}  : KCw (B_X3_variables_0 N l1 l2 u) u := by
  unfold B_X3_variables_0
  refine KCw_bc (kq_F_X9_takeKind.tr rfl) (fun _ _ => ?_)
  refine KCw_bt (kq_F_X3_oneVariable.tr rfl) (fun _ _ => ?_)
  exact (kq_LP_X3_variables_18  _ _).tr rfl
theorem kq_F_X3_variables {N : Nat} {l1 : Int32} {l2 : Int32} {u : CSt}  : KCw (F_X3_variables N l1 l2 u) u := by
  unfold F_X3_variables
  exact kq_B_X3_variables_0.tr rfl
theorem kq_B_X3_placed_0 {N : Nat} {l1 : Int32} {u : CSt}  : KCw (B_X3_placed_0 N l1 u) u := by
  unfold B_X3_placed_0
  refine KCw_bc (kq_F_X9_takeKind.tr rfl) (fun _ _ => ?_)
  refine KCw_bt (kq_F_X3_newName.tr rfl) (fun _ _ => ?_)
  refine KCw_ok ?_
  refine KCw_pc ?_
  refine KCw_pc ?_
  refine KCw_pc ?_
  refine KCw_bc (kq_F_X9_next.tr (fc_xmI (fc_xmI (fc_xmI rfl)))) (fun _ _ => ?_)
  refine KCw_rd (fun _ => ?_)
  refine KCw_bt (kq_F_X9_takeBounded.tr rfl) (fun _ _ => ?_)
  refine KCw_pc ?_
  refine KCw_bc (kq_F_X9_next.tr (fc_xmI rfl)) (fun _ _ => ?_)
  exact KCw_some rfl
theorem kq_F_X3_placed {N : Nat} {l1 : Int32} {u : CSt}  : KCw (F_X3_placed N l1 u) u := by
  unfold F_X3_placed
  exact kq_B_X3_placed_0.tr rfl
theorem kq_B_X3_oneUse_33 {N : Nat} {R_33 : Nat × Int32 × Int32 × CSt → Option ((Sum Nat Int32) × CSt)} {l1 : Nat} {l2 : Int32} {l4 : Int32} {u : CSt} (h_R_33 : ∀ a, KCw (R_33 a) a.2.2.2) : KCw (B_X3_oneUse_33 N R_33 l1 l2 l4 u) u := by
  unfold B_X3_oneUse_33
  refine KCw_if ?_ ?_
  · skip
    exact KCw_some rfl
  · skip
    refine KCw_ok ?_
    refine KCw_bc (kq_F_X6_local.tr rfl) (fun _ _ => ?_)
    refine KCw_ok ?_
    refine KCw_bt (kq_F_X3_allot.tr rfl) (fun _ _ => ?_)
    exact (h_R_33 _).tr rfl
theorem kq_LP_X3_oneUse_33 {N : Nat}  (n : Nat) : ∀ a : Nat × Int32 × Int32 × CSt, KCw (LP_X3_oneUse_33 N n a) a.2.2.2 := by
  induction n with
  | zero => exact fun a r z e => by have e : (none : Option _) = some (r, z) := e; cases e
  | succ n ih =>
    intro a
    show KCw (B_X3_oneUse_33 N (LP_X3_oneUse_33 N n) a.1 a.2.1 a.2.2.1 a.2.2.2) a.2.2.2
    exact kq_B_X3_oneUse_33 ih
theorem kq_B_X3_oneUse_0 {N : Nat} {l1 : Nat} {u : CSt}  : KCw (B_X3_oneUse_0 N l1 u) u := by
  unfold B_X3_oneUse_0
  refine KCw_bc (kq_F_X9_here.tr rfl) (fun _ _ => ?_)
  refine KCw_bt (kq_F_X3_newName.tr rfl) (fun _ _ => ?_)
  refine KCw_ok ?_
  refine KCw_pc ?_
  refine KCw_pc ?_
  exact (kq_LP_X3_oneUse_33  _ _).tr (fc_xmI (fc_xmI rfl))
theorem kq_F_X3_oneUse {N : Nat} {l1 : Nat} {u : CSt}  : KCw (F_X3_oneUse N l1 u) u := by
  unfold F_X3_oneUse
  exact kq_B_X3_oneUse_0.tr rfl
theorem kq_B_X3_uses_82 {N : Nat} {u : CSt}  : KCw (B_X3_uses_82 N u) u := by
  unfold B_X3_uses_82
  refine KCw_bc (kq_F_X9_next.tr rfl) (fun _ _ => ?_)
  exact KCw_some rfl
theorem kq_B_X3_uses_45 {N : Nat} {R_45 : Nat × Int32 × CSt → Option ((Sum Nat Int32) × CSt)} {l1 : Nat} {l2 : Int32} {u : CSt} (h_R_45 : ∀ a, KCw (R_45 a) a.2.2) : KCw (B_X3_uses_45 N R_45 l1 l2 u) u := by
  unfold B_X3_uses_45
  refine KCw_if ?_ ?_
  · skip
    exact kq_B_X3_uses_82.tr rfl
  · skip
    refine KCw_bc (kq_F_X9_is.tr rfl) (fun _ _ => ?_)
    refine KCw_if ?_ ?_
    · skip
      exact kq_B_X3_uses_82.tr rfl
    · skip
      refine KCw_bc (kq_F_X9_next.tr rfl) (fun _ _ => ?_)
      refine KCw_bt (kq_F_X3_oneUse.tr rfl) (fun _ _ => ?_)
      exact (h_R_45 _).tr rfl
theorem kq_LP_X3_uses_45 {N : Nat}  (n : Nat) : ∀ a : Nat × Int32 × CSt, KCw (LP_X3_uses_45 N n a) a.2.2 := by
  induction n with
  | zero => exact fun a r z e => by have e : (none : Option _) = some (r, z) := e; cases e
  | succ n ih =>
    intro a
    show KCw (B_X3_uses_45 N (LP_X3_uses_45 N n) a.1 a.2.1 a.2.2) a.2.2
    exact kq_B_X3_uses_45 ih
theorem kq_B_X3_uses_31 {N : Nat} {l1 : Nat} {u : CSt}  : KCw (B_X3_uses_31 N l1 u) u := by
  unfold B_X3_uses_31
  refine KCw_bc (kq_F_X9_next.tr rfl) (fun _ _ => ?_)
  refine KCw_bt (kq_F_X3_oneUse.tr rfl) (fun _ _ => ?_)
  exact (kq_LP_X3_uses_45  _ _).tr rfl
theorem kq_B_X3_uses_0 {N : Nat} {u : CSt}  : KCw (B_X3_uses_0 N u) u := by
  unfold B_X3_uses_0
  refine KCw_bc (kq_F_X8_known.tr rfl) (fun _ _ => ?_)
  refine KCw_ok ?_
  refine KCw_if ?_ ?_
  · skip
    exact kq_B_X3_uses_31.tr rfl
  · skip
    refine KCw_bc (kq_F_X9_here.tr rfl) (fun _ _ => ?_)
    refine KCw_bt (kq_F_X9_refuse.tr rfl) (fun _ _ => ?_)
    exact kq_B_X3_uses_31.tr rfl
theorem kq_F_X3_uses {N : Nat} {u : CSt}  : KCw (F_X3_uses N u) u := by
  unfold F_X3_uses
  exact kq_B_X3_uses_0.tr rfl
theorem kq_B_X3_parameter_19 {N : Nat} {u : CSt}  : KCw (B_X3_parameter_19 N u) u := by
  unfold B_X3_parameter_19
  refine KCw_bc (kq_F_X9_takeKind.tr rfl) (fun _ _ => ?_)
  refine KCw_bc (kq_F_X9_here.tr rfl) (fun _ _ => ?_)
  refine KCw_bt (kq_F_X3_newName.tr rfl) (fun _ _ => ?_)
  refine KCw_ok ?_
  refine KCw_pc ?_
  refine KCw_pc ?_
  refine KCw_bt (kq_F_X3_join.tr (fc_xmI (fc_xmI rfl))) (fun _ _ => ?_)
  exact KCw_some rfl
theorem kq_B_X3_parameter_0 {N : Nat} {u : CSt}  : KCw (B_X3_parameter_0 N u) u := by
  unfold B_X3_parameter_0
  refine KCw_bc (kq_F_X9_is.tr rfl) (fun _ _ => ?_)
  refine KCw_if ?_ ?_
  · skip
    exact kq_B_X3_parameter_19.tr rfl
  · skip
    refine KCw_bc (kq_F_X9_next.tr rfl) (fun _ _ => ?_)
    exact kq_B_X3_parameter_19.tr rfl
theorem kq_F_X3_parameter {N : Nat} {u : CSt}  : KCw (F_X3_parameter N u) u := by
  unfold F_X3_parameter
  exact kq_B_X3_parameter_0.tr rfl
theorem kq_B_X3_put_0 {N : Nat} {l1 : Nat} {l2 : Int32} {u : CSt}  : KCw (B_X3_put_0 N l1 l2 u) u := by
  unfold B_X3_put_0
  refine KCw_if ?_ ?_
  · skip
    refine KCw_bc (kq_F_X8_set.tr rfl) (fun _ _ => ?_)
    exact KCw_some rfl
  · skip
    refine KCw_ok ?_
    refine KCw_bc (kq_F_X6_step.tr rfl) (fun _ _ => ?_)
    exact KCw_some rfl
theorem kq_F_X3_put {N : Nat} {l1 : Nat} {l2 : Int32} {u : CSt}  : KCw (F_X3_put N l1 l2 u) u := by
  unfold F_X3_put
  exact kq_B_X3_put_0.tr rfl
theorem kq_B_X3_setPlain_0 {N : Nat} {l1 : Nat} {u : CSt}  : KCw (B_X3_setPlain_0 N l1 u) u := by
  unfold B_X3_setPlain_0
  refine KCw_bc (kq_F_X9_here.tr rfl) (fun _ _ => ?_)
  refine KCw_bc (kq_F_X9_next.tr rfl) (fun _ _ => ?_)
  refine KCw_bt (kq_G_X8_expression.tr rfl) (fun _ _ => ?_)
  refine KCw_bc (kq_F_X8_isTooWide.tr rfl) (fun _ _ => ?_)
  refine KCw_if ?_ ?_
  · skip
    exact KCw_some rfl
  · skip
    refine KCw_bt (kq_F_X9_refuse.tr rfl) (fun _ _ => ?_)
    exact KCw_some rfl
theorem kq_F_X3_setPlain {N : Nat} {l1 : Nat} {u : CSt}  : KCw (F_X3_setPlain N l1 u) u := by
  unfold F_X3_setPlain
  exact kq_B_X3_setPlain_0.tr rfl
theorem kq_B_X3_setBit_75 {N : Nat} {l1 : Nat} {l2 : Int32} {l3 : Int32} {u : CSt}  : KCw (B_X3_setBit_75 N l1 l2 l3 u) u := by
  unfold B_X3_setBit_75
  refine KCw_ok ?_
  refine KCw_bc (kq_F_X6_step.tr rfl) (fun _ _ => ?_)
  refine KCw_bc (kq_F_X3_put.tr rfl) (fun _ _ => ?_)
  exact KCw_some rfl
theorem kq_B_X3_setBit_27 {N : Nat} {l1 : Nat} {l2 : Int32} {l3 : Int32} {u : CSt}  : KCw (B_X3_setBit_27 N l1 l2 l3 u) u := by
  unfold B_X3_setBit_27
  refine KCw_bc (kq_F_X9_next.tr rfl) (fun _ _ => ?_)
  refine KCw_bt (kq_G_X8_expression.tr rfl) (fun _ _ => ?_)
  refine KCw_if ?_ ?_
  · skip
    refine KCw_bc (kq_F_X8_get.tr rfl) (fun _ _ => ?_)
    exact kq_B_X3_setBit_75.tr rfl
  · skip
    refine KCw_ok ?_
    refine KCw_bc (kq_F_X6_step.tr rfl) (fun _ _ => ?_)
    exact kq_B_X3_setBit_75.tr rfl
theorem kq_B_X3_setBit_0 {N : Nat} {l1 : Nat} {l2 : Int32} {l3 : Int32} {u : CSt}  : KCw (B_X3_setBit_0 N l1 l2 l3 u) u := by
  unfold B_X3_setBit_0
  refine KCw_bc (kq_F_X9_is.tr rfl) (fun _ _ => ?_)
  refine KCw_if ?_ ?_
  · skip
    refine KCw_bc (kq_F_X9_here.tr rfl) (fun _ _ => ?_)
    refine KCw_bt (kq_F_X9_refuse.tr rfl) (fun _ _ => ?_)
    exact kq_B_X3_setBit_27.tr rfl
  · skip
    exact kq_B_X3_setBit_27.tr rfl
theorem kq_F_X3_setBit {N : Nat} {l1 : Nat} {l2 : Int32} {l3 : Int32} {u : CSt}  : KCw (F_X3_setBit N l1 l2 l3 u) u := by
  unfold F_X3_setBit
  exact kq_B_X3_setBit_0.tr rfl
theorem kq_B_X3_change_98 {N : Nat} {l1 : Nat} {l4 : Int32} {s1 : Int32} {u : CSt}  : KCw (B_X3_change_98 N l1 l4 s1 u) u := by
  unfold B_X3_change_98
  refine KCw_bc (kq_F_X8_combine.tr rfl) (fun _ _ => ?_)
  exact KCw_some rfl
theorem kq_B_X3_change_71 {N : Nat} {l1 : Nat} {l3 : Int32} {l4 : Int32} {u : CSt}  : KCw (B_X3_change_71 N l1 l3 l4 u) u := by
  unfold B_X3_change_71
  refine KCw_ok ?_
  refine KCw_bc (kq_F_X6_constant.tr rfl) (fun _ _ => ?_)
  refine KCw_if ?_ ?_
  · skip
    exact kq_B_X3_change_98.tr rfl
  · skip
    exact kq_B_X3_change_98.tr rfl
theorem kq_B_X3_change_50 {N : Nat} {l1 : Nat} {l3 : Int32} {l4 : Int32} {u : CSt}  : KCw (B_X3_change_50 N l1 l3 l4 u) u := by
  unfold B_X3_change_50
  refine KCw_bc (kq_F_X9_next.tr rfl) (fun _ _ => ?_)
  refine KCw_if ?_ ?_
  · skip
    exact kq_B_X3_change_71.tr rfl
  · skip
    refine KCw_if ?_ ?_
    · skip
      exact kq_B_X3_change_71.tr rfl
    · skip
      refine KCw_bt (kq_G_X8_expression.tr rfl) (fun _ _ => ?_)
      refine KCw_pb (fun _ => ?_)
      refine KCw_bc (kq_F_X8_combine.tr rfl) (fun _ _ => ?_)
      exact KCw_some rfl
theorem kq_B_X3_change_0 {N : Nat} {l1 : Nat} {l2 : Int32} {u : CSt}  : KCw (B_X3_change_0 N l1 l2 u) u := by
  unfold B_X3_change_0
  refine KCw_bc (kq_F_X9_type.tr rfl) (fun _ _ => ?_)
  refine KCw_bc (kq_F_X9_here.tr rfl) (fun _ _ => ?_)
  refine KCw_if ?_ ?_
  · skip
    refine KCw_bc (kq_F_X8_get.tr rfl) (fun _ _ => ?_)
    exact kq_B_X3_change_50.tr rfl
  · skip
    refine KCw_ok ?_
    refine KCw_bc (kq_F_X6_step.tr rfl) (fun _ _ => ?_)
    exact kq_B_X3_change_50.tr rfl
theorem kq_F_X3_change {N : Nat} {l1 : Nat} {l2 : Int32} {u : CSt}  : KCw (F_X3_change N l1 l2 u) u := by
  unfold F_X3_change
  exact kq_B_X3_change_0.tr rfl
theorem kq_B_X3_assignment_104 {N : Nat} {u : CSt}  : KCw (B_X3_assignment_104 N u) u := by
  unfold B_X3_assignment_104
  refine KCw_bc (kq_F_X9_next.tr rfl) (fun _ _ => ?_)
  exact KCw_some rfl
theorem kq_B_X3_assignment_32 {N : Nat} {l1 : Int32} {l2 : Nat} {u : CSt}  : KCw (B_X3_assignment_32 N l1 l2 u) u := by
  unfold B_X3_assignment_32
  refine KCw_bc (kq_F_X9_is.tr rfl) (fun _ _ => ?_)
  refine KCw_if ?_ ?_
  · skip
    refine KCw_bc (kq_F_X9_is.tr rfl) (fun _ _ => ?_)
    refine KCw_if ?_ ?_
    · skip
      refine KCw_bt (kq_F_X3_change.tr rfl) (fun _ _ => ?_)
      refine KCw_bc (kq_F_X3_put.tr rfl) (fun _ _ => ?_)
      exact kq_B_X3_assignment_104.tr rfl
    · skip
      refine KCw_bt (kq_F_X3_setPlain.tr rfl) (fun _ _ => ?_)
      refine KCw_bc (kq_F_X3_put.tr rfl) (fun _ _ => ?_)
      exact kq_B_X3_assignment_104.tr rfl
  · skip
    refine KCw_bt (kq_F_X8_bit.tr rfl) (fun _ _ => ?_)
    refine KCw_bt (kq_F_X3_setBit.tr rfl) (fun _ _ => ?_)
    exact kq_B_X3_assignment_104.tr rfl
theorem kq_B_X3_assignment_0 {N : Nat} {l1 : Int32} {u : CSt}  : KCw (B_X3_assignment_0 N l1 u) u := by
  unfold B_X3_assignment_0
  refine KCw_bt (kq_F_X8_placeName.tr rfl) (fun _ _ => ?_)
  refine KCw_ok ?_
  refine KCw_bc (kq_F_X9_next.tr rfl) (fun _ _ => ?_)
  refine KCw_if ?_ ?_
  · skip
    exact kq_B_X3_assignment_32.tr rfl
  · skip
    refine KCw_bt (kq_G_X8_index.tr rfl) (fun _ _ => ?_)
    exact kq_B_X3_assignment_32.tr rfl
theorem kq_F_X3_assignment {N : Nat} {l1 : Int32} {u : CSt}  : KCw (F_X3_assignment N l1 u) u := by
  unfold F_X3_assignment
  exact kq_B_X3_assignment_0.tr rfl
theorem kq_B_X3_instanceCall_25 {N : Nat} {l1 : Int32} {l2 : Nat} {u : CSt}  : KCw (B_X3_instanceCall_25 N l1 l2 u) u := by
  unfold B_X3_instanceCall_25
  refine KCw_ok ?_
  refine KCw_bc (kq_F_X6_cost.tr rfl) (fun _ _ => ?_)
  refine KCw_ok ?_
  refine KCw_bc (kq_F_X6_name.tr rfl) (fun _ _ => ?_)
  refine KCw_ok ?_
  refine KCw_bt (kq_G_X8_arguments.tr rfl) (fun _ _ => ?_)
  refine KCw_ok ?_
  refine KCw_bc (kq_F_X6_step.tr rfl) (fun _ _ => ?_)
  refine KCw_bc (kq_F_X9_next.tr rfl) (fun _ _ => ?_)
  exact KCw_some rfl
theorem kq_B_X3_instanceCall_0 {N : Nat} {l1 : Int32} {u : CSt}  : KCw (B_X3_instanceCall_0 N l1 u) u := by
  unfold B_X3_instanceCall_0
  refine KCw_bc (kq_F_X8_known.tr rfl) (fun _ _ => ?_)
  refine KCw_ok ?_
  refine KCw_if ?_ ?_
  · skip
    exact kq_B_X3_instanceCall_25.tr rfl
  · skip
    refine KCw_bt (kq_F_X9_refuse.tr rfl) (fun _ _ => ?_)
    exact kq_B_X3_instanceCall_25.tr rfl
theorem kq_F_X3_instanceCall {N : Nat} {l1 : Int32} {u : CSt}  : KCw (F_X3_instanceCall N l1 u) u := by
  unfold F_X3_instanceCall
  exact kq_B_X3_instanceCall_0.tr rfl
theorem kq_B_X3_leave_69 {N : Nat} {u : CSt}  : KCw (B_X3_leave_69 N u) u := by
  unfold B_X3_leave_69
  refine KCw_bc (kq_F_X9_next.tr rfl) (fun _ _ => ?_)
  refine KCw_bc (kq_F_X9_next.tr rfl) (fun _ _ => ?_)
  exact KCw_some rfl
theorem kq_B_X3_leave_16 {N : Nat} {l1 : Int32} {u : CSt}  : KCw (B_X3_leave_16 N l1 u) u := by
  unfold B_X3_leave_16
  refine KCw_bc (kq_F_X9_is.tr rfl) (fun _ _ => ?_)
  refine KCw_if ?_ ?_
  · skip
    refine KCw_ok ?_
    refine KCw_bc (kq_F_X6_step.tr rfl) (fun _ _ => ?_)
    refine KCw_pc ?_
    exact kq_B_X3_leave_69.tr (fc_xI (by decide) rfl)
  · skip
    refine KCw_ok ?_
    refine KCw_bc (kq_F_X6_step.tr rfl) (fun _ _ => ?_)
    refine KCw_pc ?_
    exact kq_B_X3_leave_69.tr (fc_xI (by decide) rfl)
theorem kq_B_X3_leave_0 {N : Nat} {l1 : Int32} {u : CSt}  : KCw (B_X3_leave_0 N l1 u) u := by
  unfold B_X3_leave_0
  refine KCw_if ?_ ?_
  · skip
    refine KCw_bt (kq_F_X9_refuse.tr rfl) (fun _ _ => ?_)
    exact kq_B_X3_leave_16.tr rfl
  · skip
    exact kq_B_X3_leave_16.tr rfl
theorem kq_F_X3_leave {N : Nat} {l1 : Int32} {u : CSt}  : KCw (F_X3_leave N l1 u) u := by
  unfold F_X3_leave
  exact kq_B_X3_leave_0.tr rfl
theorem kq_B_X3_returned_147 {N : Nat} {u : CSt}  : KCw (B_X3_returned_147 N u) u := by
  unfold B_X3_returned_147
  refine KCw_bc (kq_F_X9_next.tr rfl) (fun _ _ => ?_)
  exact KCw_some rfl
theorem kq_B_X3_returned_115 {N : Nat} {l1 : Int32} {l3 : Nat} {u : CSt}  : KCw (B_X3_returned_115 N l1 l3 u) u := by
  unfold B_X3_returned_115
  refine KCw_ok ?_
  refine KCw_bc (kq_F_X6_step.tr rfl) (fun _ _ => ?_)
  exact kq_B_X3_returned_147.tr rfl
theorem kq_B_X3_returned_60 {N : Nat} {l1 : Int32} {l2 : Int32} {l3 : Nat} {u : CSt}  : KCw (B_X3_returned_60 N l1 l2 l3 u) u := by
  unfold B_X3_returned_60
  refine KCw_bc (kq_F_X9_next.tr rfl) (fun _ _ => ?_)
  refine KCw_if ?_ ?_
  · skip
    refine KCw_ok ?_
    refine KCw_bc (kq_F_X6_step.tr rfl) (fun _ _ => ?_)
    exact kq_B_X3_returned_147.tr rfl
  · skip
    refine KCw_bc (kq_F_X9_here.tr rfl) (fun _ _ => ?_)
    refine KCw_bt (kq_G_X8_expression.tr rfl) (fun _ _ => ?_)
    refine KCw_bc (kq_F_X8_isTooWide.tr rfl) (fun _ _ => ?_)
    refine KCw_if ?_ ?_
    · skip
      exact kq_B_X3_returned_115.tr rfl
    · skip
      refine KCw_bt (kq_F_X9_refuse.tr rfl) (fun _ _ => ?_)
      exact kq_B_X3_returned_115.tr rfl
theorem kq_B_X3_returned_48 {N : Nat} {l1 : Int32} {l2 : Int32} {l3 : Nat} {s0 : Int32} {s1 : Int32} {u : CSt}  : KCw (B_X3_returned_48 N l1 l2 l3 s0 s1 u) u := by
  unfold B_X3_returned_48
  refine KCw_if ?_ ?_
  · skip
    exact kq_B_X3_returned_60.tr rfl
  · skip
    refine KCw_bt (kq_F_X9_refuse.tr rfl) (fun _ _ => ?_)
    exact kq_B_X3_returned_60.tr rfl
theorem kq_B_X3_returned_18 {N : Nat} {l1 : Int32} {s0 : Int32} {u : CSt}  : KCw (B_X3_returned_18 N l1 s0 u) u := by
  unfold B_X3_returned_18
  refine KCw_ok ?_
  refine KCw_bc (kq_F_X6_name.tr rfl) (fun _ _ => ?_)
  refine KCw_ok ?_
  refine KCw_if ?_ ?_
  · skip
    exact kq_B_X3_returned_48.tr rfl
  · skip
    exact kq_B_X3_returned_48.tr rfl
theorem kq_B_X3_returned_0 {N : Nat} {l1 : Int32} {u : CSt}  : KCw (B_X3_returned_0 N l1 u) u := by
  unfold B_X3_returned_0
  refine KCw_bc (kq_F_X9_typeAhead.tr rfl) (fun _ _ => ?_)
  refine KCw_if ?_ ?_
  · skip
    exact kq_B_X3_returned_18.tr rfl
  · skip
    exact kq_B_X3_returned_18.tr rfl
theorem kq_F_X3_returned {N : Nat} {l1 : Int32} {u : CSt}  : KCw (F_X3_returned N l1 u) u := by
  unfold F_X3_returned
  exact kq_B_X3_returned_0.tr rfl
theorem kq_B_X3_labels_90 {N : Nat} {R_2 : Int32 × CSt → Option ((Sum Nat Int32) × CSt)} {l1 : Int32} {l2 : Int64} {l4 : Int64} {u : CSt} (h_R_2 : ∀ a, KCw (R_2 a) a.2) : KCw (B_X3_labels_90 N R_2 l1 l2 l4 u) u := by
  unfold B_X3_labels_90
  refine KCw_ok ?_
  refine KCw_bc (kq_F_X6_label.tr rfl) (fun _ _ => ?_)
  exact (h_R_2 _).tr rfl
theorem kq_B_X3_labels_2 {N : Nat} {R_2 : Int32 × CSt → Option ((Sum Nat Int32) × CSt)} {l1 : Int32} {u : CSt} (h_R_2 : ∀ a, KCw (R_2 a) a.2) : KCw (B_X3_labels_2 N R_2 l1 u) u := by
  unfold B_X3_labels_2
  refine KCw_if ?_ ?_
  · skip
    exact KCw_some rfl
  · skip
    refine KCw_bc (kq_F_X9_is.tr rfl) (fun _ _ => ?_)
    refine KCw_if ?_ ?_
    · skip
      refine KCw_bc (kq_F_X9_next.tr rfl) (fun _ _ => ?_)
      refine KCw_bt (kq_F_X3_constant.tr rfl) (fun _ _ => ?_)
      refine KCw_bc (kq_F_X9_is.tr rfl) (fun _ _ => ?_)
      refine KCw_if ?_ ?_
      · skip
        exact (kq_B_X3_labels_90 h_R_2).tr rfl
      · skip
        refine KCw_bc (kq_F_X9_next.tr rfl) (fun _ _ => ?_)
        refine KCw_bc (kq_F_X9_here.tr rfl) (fun _ _ => ?_)
        refine KCw_bt (kq_F_X3_constant.tr rfl) (fun _ _ => ?_)
        refine KCw_if ?_ ?_
        · skip
          exact (kq_B_X3_labels_90 h_R_2).tr rfl
        · skip
          refine KCw_bt (kq_F_X9_refuse.tr rfl) (fun _ _ => ?_)
          exact (kq_B_X3_labels_90 h_R_2).tr rfl
    · skip
      exact KCw_some rfl
theorem kq_LP_X3_labels_2 {N : Nat}  (n : Nat) : ∀ a : Int32 × CSt, KCw (LP_X3_labels_2 N n a) a.2 := by
  induction n with
  | zero => exact fun a r z e => by have e : (none : Option _) = some (r, z) := e; cases e
  | succ n ih =>
    intro a
    show KCw (B_X3_labels_2 N (LP_X3_labels_2 N n) a.1 a.2) a.2
    exact kq_B_X3_labels_2 ih
theorem kq_B_X3_labels_0 {N : Nat} {u : CSt}  : KCw (B_X3_labels_0 N u) u := by
  unfold B_X3_labels_0
  exact (kq_LP_X3_labels_2  _ _).tr rfl
theorem kq_F_X3_labels {N : Nat} {u : CSt}  : KCw (F_X3_labels N u) u := by
  unfold F_X3_labels
  exact kq_B_X3_labels_0.tr rfl
theorem kq_B_X3_body_0 {N : Nat} {ro : Nat → Nat → Int32 → Int32 → CSt → Option (Sum Nat Int32 × CSt)} {u : CSt} (h_ro : ∀ q z a b u, KCw (ro q z a b u) u) : KCw (B_X3_body_0 N ro u) u := by
  unfold B_X3_body_0
  refine KCw_bc (kq_F_X9_next.tr rfl) (fun _ _ => ?_)
  refine KCw_bt ((h_ro _ _ _ _ _).tr rfl) (fun _ _ => ?_)
  exact KCw_some rfl
theorem kq_F_X3_body {N : Nat} {ro : Nat → Nat → Int32 → Int32 → CSt → Option (Sum Nat Int32 × CSt)} {u : CSt} (h_ro : ∀ q z a b u, KCw (ro q z a b u) u) : KCw (F_X3_body N ro u) u := by
  unfold F_X3_body
  exact (kq_B_X3_body_0 h_ro).tr rfl
theorem kq_B_X3_statements_31 {N : Nat} {ro : Nat → Nat → Int32 → Int32 → CSt → Option (Sum Nat Int32 × CSt)} {u : CSt} (h_ro : ∀ q z a b u, KCw (ro q z a b u) u) : KCw (B_X3_statements_31 N ro u) u := by
  unfold B_X3_statements_31
  refine KCw_bc (kq_F_X9_here.tr rfl) (fun _ _ => ?_)
  refine KCw_bc (kq_F_X9_next.tr rfl) (fun _ _ => ?_)
  exact KCw_some rfl
theorem kq_B_X3_statements_2 {N : Nat} {ro : Nat → Nat → Int32 → Int32 → CSt → Option (Sum Nat Int32 × CSt)} {R_2 : Int32 × CSt → Option ((Sum Nat Int32) × CSt)} {l1 : Int32} {u : CSt} (h_ro : ∀ q z a b u, KCw (ro q z a b u) u) (h_R_2 : ∀ a, KCw (R_2 a) a.2) : KCw (B_X3_statements_2 N ro R_2 l1 u) u := by
  unfold B_X3_statements_2
  refine KCw_if ?_ ?_
  · skip
    exact (kq_B_X3_statements_31 h_ro).tr rfl
  · skip
    refine KCw_bc (kq_F_X9_is.tr rfl) (fun _ _ => ?_)
    refine KCw_if ?_ ?_
    · skip
      refine KCw_bt ((h_ro _ _ _ _ _).tr rfl) (fun _ _ => ?_)
      exact (h_R_2 _).tr rfl
    · skip
      exact (kq_B_X3_statements_31 h_ro).tr rfl
theorem kq_LP_X3_statements_2 {N : Nat} {ro : Nat → Nat → Int32 → Int32 → CSt → Option (Sum Nat Int32 × CSt)} (h_ro : ∀ q z a b u, KCw (ro q z a b u) u) (n : Nat) : ∀ a : Int32 × CSt, KCw (LP_X3_statements_2 N ro n a) a.2 := by
  induction n with
  | zero => exact fun a r z e => by have e : (none : Option _) = some (r, z) := e; cases e
  | succ n ih =>
    intro a
    show KCw (B_X3_statements_2 N ro (LP_X3_statements_2 N ro n) a.1 a.2) a.2
    exact kq_B_X3_statements_2 h_ro ih
theorem kq_B_X3_statements_0 {N : Nat} {ro : Nat → Nat → Int32 → Int32 → CSt → Option (Sum Nat Int32 × CSt)} {u : CSt} (h_ro : ∀ q z a b u, KCw (ro q z a b u) u) : KCw (B_X3_statements_0 N ro u) u := by
  unfold B_X3_statements_0
  exact (kq_LP_X3_statements_2 h_ro _ _).tr rfl
theorem kq_F_X3_statements {N : Nat} {ro : Nat → Nat → Int32 → Int32 → CSt → Option (Sum Nat Int32 × CSt)} {u : CSt} (h_ro : ∀ q z a b u, KCw (ro q z a b u) u) : KCw (F_X3_statements N ro u) u := by
  unfold F_X3_statements
  exact (kq_B_X3_statements_0 h_ro).tr rfl
theorem kq_B_X3_statement_0 {N : Nat} {ro : Nat → Nat → Int32 → Int32 → CSt → Option (Sum Nat Int32 × CSt)} {u : CSt} (h_ro : ∀ q z a b u, KCw (ro q z a b u) u) : KCw (B_X3_statement_0 N ro u) u := by
  unfold B_X3_statement_0
  refine KCw_bc (kq_F_X9_here.tr rfl) (fun _ _ => ?_)
  refine KCw_ok ?_
  refine KCw_bc (kq_F_X6_cost.tr rfl) (fun _ _ => ?_)
  refine KCw_bc (kq_F_X9_type.tr rfl) (fun _ _ => ?_)
  refine KCw_if ?_ ?_
  · skip
    refine KCw_bt ((h_ro _ _ _ _ _).tr rfl) (fun _ _ => ?_)
    exact KCw_some rfl
  · skip
    refine KCw_if ?_ ?_
    · skip
      refine KCw_bt ((h_ro _ _ _ _ _).tr rfl) (fun _ _ => ?_)
      exact KCw_some rfl
    · skip
      refine KCw_if ?_ ?_
      · skip
        refine KCw_bt ((h_ro _ _ _ _ _).tr rfl) (fun _ _ => ?_)
        exact KCw_some rfl
      · skip
        refine KCw_if ?_ ?_
        · skip
          refine KCw_bt ((h_ro _ _ _ _ _).tr rfl) (fun _ _ => ?_)
          exact KCw_some rfl
        · skip
          refine KCw_if ?_ ?_
          · skip
            refine KCw_bt (kq_F_X3_leave.tr rfl) (fun _ _ => ?_)
            exact KCw_some rfl
          · skip
            refine KCw_if ?_ ?_
            · skip
              refine KCw_bt (kq_F_X3_leave.tr rfl) (fun _ _ => ?_)
              exact KCw_some rfl
            · skip
              refine KCw_if ?_ ?_
              · skip
                refine KCw_bt (kq_F_X3_returned.tr rfl) (fun _ _ => ?_)
                exact KCw_some rfl
              · skip
                refine KCw_if ?_ ?_
                · skip
                  refine KCw_bc (kq_F_X9_next.tr rfl) (fun _ _ => ?_)
                  refine KCw_bt (kq_G_X8_expression.tr rfl) (fun _ _ => ?_)
                  refine KCw_ok ?_
                  refine KCw_bc (kq_F_X6_step.tr rfl) (fun _ _ => ?_)
                  refine KCw_bc (kq_F_X9_next.tr rfl) (fun _ _ => ?_)
                  exact KCw_some rfl
                · skip
                  refine KCw_bc (kq_F_X9_typeAhead.tr rfl) (fun _ _ => ?_)
                  refine KCw_if ?_ ?_
                  · skip
                    refine KCw_bt (kq_F_X3_instanceCall.tr rfl) (fun _ _ => ?_)
                    exact KCw_some rfl
                  · skip
                    refine KCw_bt (kq_F_X3_assignment.tr rfl) (fun _ _ => ?_)
                    exact KCw_some rfl
theorem kq_F_X3_statement {N : Nat} {ro : Nat → Nat → Int32 → Int32 → CSt → Option (Sum Nat Int32 × CSt)} {u : CSt} (h_ro : ∀ q z a b u, KCw (ro q z a b u) u) : KCw (F_X3_statement N ro u) u := by
  unfold F_X3_statement
  exact (kq_B_X3_statement_0 h_ro).tr rfl
theorem kq_B_X3_choice_113 {N : Nat} {ro : Nat → Nat → Int32 → Int32 → CSt → Option (Sum Nat Int32 × CSt)} {l2 : Int32} {u : CSt} (h_ro : ∀ q z a b u, KCw (ro q z a b u) u) : KCw (B_X3_choice_113 N ro l2 u) u := by
  unfold B_X3_choice_113
  refine KCw_ok ?_
  refine KCw_bc (kq_F_X6_land.tr rfl) (fun _ _ => ?_)
  exact KCw_some rfl
theorem kq_B_X3_choice_90 {N : Nat} {ro : Nat → Nat → Int32 → Int32 → CSt → Option (Sum Nat Int32 × CSt)} {l2 : Int32} {u : CSt} (h_ro : ∀ q z a b u, KCw (ro q z a b u) u) : KCw (B_X3_choice_90 N ro l2 u) u := by
  unfold B_X3_choice_90
  refine KCw_bc (kq_F_X9_is.tr rfl) (fun _ _ => ?_)
  refine KCw_if ?_ ?_
  · skip
    exact (kq_B_X3_choice_113 h_ro).tr rfl
  · skip
    refine KCw_bc (kq_F_X9_next.tr rfl) (fun _ _ => ?_)
    refine KCw_bt ((h_ro _ _ _ _ _).tr rfl) (fun _ _ => ?_)
    exact (kq_B_X3_choice_113 h_ro).tr rfl
theorem kq_B_X3_choice_7 {N : Nat} {ro : Nat → Nat → Int32 → Int32 → CSt → Option (Sum Nat Int32 × CSt)} {R_7 : Int32 × Int32 × Int32 × Int32 × CSt → Option ((Sum Nat Int32) × CSt)} {l1 : Int32} {l2 : Int32} {l3 : Int32} {l4 : Int32} {u : CSt} (h_ro : ∀ q z a b u, KCw (ro q z a b u) u) (h_R_7 : ∀ a, KCw (R_7 a) a.2.2.2.2) : KCw (B_X3_choice_7 N ro R_7 l1 l2 l3 l4 u) u := by
  unfold B_X3_choice_7
  refine KCw_if ?_ ?_
  · skip
    exact (kq_B_X3_choice_90 h_ro).tr rfl
  · skip
    refine KCw_if ?_ ?_
    · skip
      exact (kq_B_X3_choice_90 h_ro).tr rfl
    · skip
      refine KCw_bc (kq_F_X9_next.tr rfl) (fun _ _ => ?_)
      refine KCw_bt (kq_G_X8_expression.tr rfl) (fun _ _ => ?_)
      refine KCw_ok ?_
      refine KCw_bc (kq_F_X6_step.tr rfl) (fun _ _ => ?_)
      refine KCw_bt ((h_ro _ _ _ _ _).tr rfl) (fun _ _ => ?_)
      refine KCw_ok ?_
      refine KCw_bc (kq_F_X6_step.tr rfl) (fun _ _ => ?_)
      refine KCw_ok ?_
      refine KCw_bc (kq_F_X6_land.tr rfl) (fun _ _ => ?_)
      refine KCw_bc (kq_F_X9_is.tr rfl) (fun _ _ => ?_)
      exact (h_R_7 _).tr rfl
theorem kq_LP_X3_choice_7 {N : Nat} {ro : Nat → Nat → Int32 → Int32 → CSt → Option (Sum Nat Int32 × CSt)} (h_ro : ∀ q z a b u, KCw (ro q z a b u) u) (n : Nat) : ∀ a : Int32 × Int32 × Int32 × Int32 × CSt, KCw (LP_X3_choice_7 N ro n a) a.2.2.2.2 := by
  induction n with
  | zero => exact fun a r z e => by have e : (none : Option _) = some (r, z) := e; cases e
  | succ n ih =>
    intro a
    show KCw (B_X3_choice_7 N ro (LP_X3_choice_7 N ro n) a.1 a.2.1 a.2.2.1 a.2.2.2.1 a.2.2.2.2) a.2.2.2.2
    exact kq_B_X3_choice_7 h_ro ih
theorem kq_B_X3_choice_0 {N : Nat} {ro : Nat → Nat → Int32 → Int32 → CSt → Option (Sum Nat Int32 × CSt)} {l1 : Int32} {u : CSt} (h_ro : ∀ q z a b u, KCw (ro q z a b u) u) : KCw (B_X3_choice_0 N ro l1 u) u := by
  unfold B_X3_choice_0
  exact (kq_LP_X3_choice_7 h_ro _ _).tr rfl
theorem kq_F_X3_choice {N : Nat} {ro : Nat → Nat → Int32 → Int32 → CSt → Option (Sum Nat Int32 × CSt)} {l1 : Int32} {u : CSt} (h_ro : ∀ q z a b u, KCw (ro q z a b u) u) : KCw (F_X3_choice N ro l1 u) u := by
  unfold F_X3_choice
  exact (kq_B_X3_choice_0 h_ro).tr rfl
theorem kq_B_X3_loop_0 {N : Nat} {ro : Nat → Nat → Int32 → Int32 → CSt → Option (Sum Nat Int32 × CSt)} {l1 : Int32} {u : CSt} (h_ro : ∀ q z a b u, KCw (ro q z a b u) u) : KCw (B_X3_loop_0 N ro l1 u) u := by
  unfold B_X3_loop_0
  refine KCw_bc (kq_F_X9_next.tr rfl) (fun _ _ => ?_)
  refine KCw_ok ?_
  refine KCw_bt (kq_G_X8_expression.tr rfl) (fun _ _ => ?_)
  refine KCw_ok ?_
  refine KCw_bc (kq_F_X6_step.tr rfl) (fun _ _ => ?_)
  refine KCw_pc ?_
  refine KCw_bt ((h_ro _ _ _ _ _).tr (fc_xI (by decide) rfl)) (fun _ _ => ?_)
  refine KCw_ok ?_
  refine KCw_bc (kq_F_X6_step.tr rfl) (fun _ _ => ?_)
  refine KCw_ok ?_
  refine KCw_bc (kq_F_X6_land.tr rfl) (fun _ _ => ?_)
  refine KCw_pc ?_
  exact KCw_some (fc_xI (by decide) rfl)
theorem kq_F_X3_loop {N : Nat} {ro : Nat → Nat → Int32 → Int32 → CSt → Option (Sum Nat Int32 × CSt)} {l1 : Int32} {u : CSt} (h_ro : ∀ q z a b u, KCw (ro q z a b u) u) : KCw (F_X3_loop N ro l1 u) u := by
  unfold F_X3_loop
  exact (kq_B_X3_loop_0 h_ro).tr rfl
theorem kq_B_X3_round_0 {N : Nat} {ro : Nat → Nat → Int32 → Int32 → CSt → Option (Sum Nat Int32 × CSt)} {l1 : Int32} {u : CSt} (h_ro : ∀ q z a b u, KCw (ro q z a b u) u) : KCw (B_X3_round_0 N ro l1 u) u := by
  unfold B_X3_round_0
  refine KCw_pc ?_
  refine KCw_pc ?_
  refine KCw_ok ?_
  refine KCw_bc (kq_F_X6_cost.tr (fc_xI (by decide) (fc_xI (by decide) rfl))) (fun _ _ => ?_)
  refine KCw_bt ((h_ro _ _ _ _ _).tr rfl) (fun _ _ => ?_)
  refine KCw_pc ?_
  refine KCw_ok ?_
  refine KCw_bc (kq_F_X6_land.tr (fc_xI (by decide) rfl)) (fun _ _ => ?_)
  refine KCw_pc ?_
  exact KCw_some (fc_xI (by decide) rfl)
theorem kq_F_X3_round {N : Nat} {ro : Nat → Nat → Int32 → Int32 → CSt → Option (Sum Nat Int32 × CSt)} {l1 : Int32} {u : CSt} (h_ro : ∀ q z a b u, KCw (ro q z a b u) u) : KCw (F_X3_round N ro l1 u) u := by
  unfold F_X3_round
  exact (kq_B_X3_round_0 h_ro).tr rfl
theorem kq_B_X3_counted_71 {N : Nat} {ro : Nat → Nat → Int32 → Int32 → CSt → Option (Sum Nat Int32 × CSt)} {l1 : Int32} {l2 : Int32} {l3 : Nat} {u : CSt} (h_ro : ∀ q z a b u, KCw (ro q z a b u) u) : KCw (B_X3_counted_71 N ro l1 l2 l3 u) u := by
  unfold B_X3_counted_71
  refine KCw_bc (kq_F_X9_next.tr rfl) (fun _ _ => ?_)
  refine KCw_bt (kq_F_X3_setPlain.tr rfl) (fun _ _ => ?_)
  refine KCw_bc (kq_F_X8_set.tr rfl) (fun _ _ => ?_)
  refine KCw_bc (kq_F_X9_next.tr rfl) (fun _ _ => ?_)
  refine KCw_bt (kq_G_X8_expression.tr rfl) (fun _ _ => ?_)
  refine KCw_ok ?_
  refine KCw_bc (kq_F_X8_get.tr rfl) (fun _ _ => ?_)
  refine KCw_ok ?_
  refine KCw_bc (kq_F_X6_step.tr rfl) (fun _ _ => ?_)
  refine KCw_pc ?_
  refine KCw_bt ((h_ro _ _ _ _ _).tr (fc_xI (by decide) rfl)) (fun _ _ => ?_)
  refine KCw_bc (kq_F_X8_get.tr rfl) (fun _ _ => ?_)
  refine KCw_ok ?_
  refine KCw_bc (kq_F_X6_step.tr rfl) (fun _ _ => ?_)
  refine KCw_pc ?_
  refine KCw_bc (kq_F_X8_get.tr (fc_xI (by decide) rfl)) (fun _ _ => ?_)
  refine KCw_ok ?_
  refine KCw_bc (kq_F_X6_constant.tr rfl) (fun _ _ => ?_)
  refine KCw_bc (kq_F_X8_combine.tr rfl) (fun _ _ => ?_)
  refine KCw_bc (kq_F_X8_set.tr rfl) (fun _ _ => ?_)
  refine KCw_ok ?_
  refine KCw_bc (kq_F_X6_step.tr rfl) (fun _ _ => ?_)
  refine KCw_ok ?_
  refine KCw_bc (kq_F_X6_land.tr rfl) (fun _ _ => ?_)
  refine KCw_pc ?_
  refine KCw_ok ?_
  refine KCw_bc (kq_F_X6_step.tr (fc_xI (by decide) rfl)) (fun _ _ => ?_)
  exact KCw_some rfl
theorem kq_B_X3_counted_62 {N : Nat} {ro : Nat → Nat → Int32 → Int32 → CSt → Option (Sum Nat Int32 × CSt)} {l1 : Int32} {l2 : Int32} {l3 : Nat} {u : CSt} (h_ro : ∀ q z a b u, KCw (ro q z a b u) u) : KCw (B_X3_counted_62 N ro l1 l2 l3 u) u := by
  unfold B_X3_counted_62
  refine KCw_bt (kq_F_X9_refuse.tr rfl) (fun _ _ => ?_)
  exact (kq_B_X3_counted_71 h_ro).tr rfl
theorem kq_B_X3_counted_41 {N : Nat} {ro : Nat → Nat → Int32 → Int32 → CSt → Option (Sum Nat Int32 × CSt)} {l1 : Int32} {l2 : Int32} {l3 : Nat} {u : CSt} (h_ro : ∀ q z a b u, KCw (ro q z a b u) u) : KCw (B_X3_counted_41 N ro l1 l2 l3 u) u := by
  unfold B_X3_counted_41
  refine KCw_bc (kq_F_X4_hasNumbers.tr rfl) (fun _ _ => ?_)
  refine KCw_if ?_ ?_
  · skip
    exact (kq_B_X3_counted_62 h_ro).tr rfl
  · skip
    refine KCw_if ?_ ?_
    · skip
      refine KCw_bc (kq_F_X4_isInput.tr rfl) (fun _ _ => ?_)
      refine KCw_if ?_ ?_
      · skip
        exact (kq_B_X3_counted_71 h_ro).tr rfl
      · skip
        exact (kq_B_X3_counted_62 h_ro).tr rfl
    · skip
      exact (kq_B_X3_counted_62 h_ro).tr rfl
theorem kq_B_X3_counted_0 {N : Nat} {ro : Nat → Nat → Int32 → Int32 → CSt → Option (Sum Nat Int32 × CSt)} {l1 : Int32} {u : CSt} (h_ro : ∀ q z a b u, KCw (ro q z a b u) u) : KCw (B_X3_counted_0 N ro l1 u) u := by
  unfold B_X3_counted_0
  refine KCw_bc (kq_F_X9_next.tr rfl) (fun _ _ => ?_)
  refine KCw_bc (kq_F_X9_here.tr rfl) (fun _ _ => ?_)
  refine KCw_bc (kq_F_X8_known.tr rfl) (fun _ _ => ?_)
  refine KCw_ok ?_
  refine KCw_if ?_ ?_
  · skip
    refine KCw_bt (kq_F_X9_refuse.tr rfl) (fun _ _ => ?_)
    exact (kq_B_X3_counted_41 h_ro).tr rfl
  · skip
    exact (kq_B_X3_counted_41 h_ro).tr rfl
theorem kq_F_X3_counted {N : Nat} {ro : Nat → Nat → Int32 → Int32 → CSt → Option (Sum Nat Int32 × CSt)} {l1 : Int32} {u : CSt} (h_ro : ∀ q z a b u, KCw (ro q z a b u) u) : KCw (F_X3_counted N ro l1 u) u := by
  unfold F_X3_counted
  exact (kq_B_X3_counted_0 h_ro).tr rfl
theorem kq_B_X3_cases_176 {N : Nat} {ro : Nat → Nat → Int32 → Int32 → CSt → Option (Sum Nat Int32 × CSt)} {l2 : Int32} {u : CSt} (h_ro : ∀ q z a b u, KCw (ro q z a b u) u) : KCw (B_X3_cases_176 N ro l2 u) u := by
  unfold B_X3_cases_176
  refine KCw_bc (kq_F_X9_next.tr rfl) (fun _ _ => ?_)
  refine KCw_ok ?_
  refine KCw_bc (kq_F_X6_land.tr rfl) (fun _ _ => ?_)
  exact KCw_some rfl
theorem kq_B_X3_cases_140 {N : Nat} {ro : Nat → Nat → Int32 → Int32 → CSt → Option (Sum Nat Int32 × CSt)} {l1 : Int32} {l2 : Int32} {u : CSt} (h_ro : ∀ q z a b u, KCw (ro q z a b u) u) : KCw (B_X3_cases_140 N ro l1 l2 u) u := by
  unfold B_X3_cases_140
  refine KCw_ok ?_
  refine KCw_bc (kq_F_X6_step.tr rfl) (fun _ _ => ?_)
  refine KCw_bc (kq_F_X9_is.tr rfl) (fun _ _ => ?_)
  refine KCw_if ?_ ?_
  · skip
    exact (kq_B_X3_cases_176 h_ro).tr rfl
  · skip
    refine KCw_bc (kq_F_X9_next.tr rfl) (fun _ _ => ?_)
    refine KCw_bt ((h_ro _ _ _ _ _).tr rfl) (fun _ _ => ?_)
    exact (kq_B_X3_cases_176 h_ro).tr rfl
theorem kq_B_X3_cases_26 {N : Nat} {ro : Nat → Nat → Int32 → Int32 → CSt → Option (Sum Nat Int32 × CSt)} {R_26 : Int32 × Int32 × Int32 × CSt → Option ((Sum Nat Int32) × CSt)} {l1 : Int32} {l2 : Int32} {l3 : Int32} {u : CSt} (h_ro : ∀ q z a b u, KCw (ro q z a b u) u) (h_R_26 : ∀ a, KCw (R_26 a) a.2.2.2) : KCw (B_X3_cases_26 N ro R_26 l1 l2 l3 u) u := by
  unfold B_X3_cases_26
  refine KCw_if ?_ ?_
  · skip
    exact (kq_B_X3_cases_140 h_ro).tr rfl
  · skip
    refine KCw_bc (kq_F_X9_is.tr rfl) (fun _ _ => ?_)
    refine KCw_if ?_ ?_
    · skip
      exact (kq_B_X3_cases_140 h_ro).tr rfl
    · skip
      refine KCw_ok ?_
      refine KCw_bt (kq_F_X3_labels.tr rfl) (fun _ _ => ?_)
      refine KCw_ok ?_
      refine KCw_bc (kq_F_X6_step.tr rfl) (fun _ _ => ?_)
      refine KCw_ok ?_
      refine KCw_bc (kq_F_X6_step.tr rfl) (fun _ _ => ?_)
      refine KCw_ok ?_
      refine KCw_bc (kq_F_X6_step.tr rfl) (fun _ _ => ?_)
      refine KCw_bt ((h_ro _ _ _ _ _).tr rfl) (fun _ _ => ?_)
      refine KCw_ok ?_
      refine KCw_bc (kq_F_X6_step.tr rfl) (fun _ _ => ?_)
      refine KCw_ok ?_
      refine KCw_bc (kq_F_X6_land.tr rfl) (fun _ _ => ?_)
      exact (h_R_26 _).tr rfl
theorem kq_LP_X3_cases_26 {N : Nat} {ro : Nat → Nat → Int32 → Int32 → CSt → Option (Sum Nat Int32 × CSt)} (h_ro : ∀ q z a b u, KCw (ro q z a b u) u) (n : Nat) : ∀ a : Int32 × Int32 × Int32 × CSt, KCw (LP_X3_cases_26 N ro n a) a.2.2.2 := by
  induction n with
  | zero => exact fun a r z e => by have e : (none : Option _) = some (r, z) := e; cases e
  | succ n ih =>
    intro a
    show KCw (B_X3_cases_26 N ro (LP_X3_cases_26 N ro n) a.1 a.2.1 a.2.2.1 a.2.2.2) a.2.2.2
    exact kq_B_X3_cases_26 h_ro ih
theorem kq_B_X3_cases_0 {N : Nat} {ro : Nat → Nat → Int32 → Int32 → CSt → Option (Sum Nat Int32 × CSt)} {l1 : Int32} {u : CSt} (h_ro : ∀ q z a b u, KCw (ro q z a b u) u) : KCw (B_X3_cases_0 N ro l1 u) u := by
  unfold B_X3_cases_0
  refine KCw_bc (kq_F_X9_next.tr rfl) (fun _ _ => ?_)
  refine KCw_bt (kq_G_X8_expression.tr rfl) (fun _ _ => ?_)
  refine KCw_bc (kq_F_X9_next.tr rfl) (fun _ _ => ?_)
  exact (kq_LP_X3_cases_26 h_ro _ _).tr rfl
theorem kq_F_X3_cases {N : Nat} {ro : Nat → Nat → Int32 → Int32 → CSt → Option (Sum Nat Int32 × CSt)} {l1 : Int32} {u : CSt} (h_ro : ∀ q z a b u, KCw (ro q z a b u) u) : KCw (F_X3_cases N ro l1 u) u := by
  unfold F_X3_cases
  exact (kq_B_X3_cases_0 h_ro).tr rfl
theorem kq_FMS_ {N : Nat} : ∀ (d q z : Nat) (a b : Int32) (u : CSt), KCw (FMS_ N d q z a b u) u := by
  intro d
  induction d with
  | zero => exact fun q z a b u => KCw_none
  | succ d ih =>
    intro q z a b u
    show KCw (if q = 0 then F_X3_body N (FMS_ N d) u else if q = 1 then F_X3_statements N (FMS_ N d) u else if q = 2 then F_X3_statement N (FMS_ N d) u else if q = 3 then F_X3_choice N (FMS_ N d) a u else if q = 4 then F_X3_loop N (FMS_ N d) a u else if q = 5 then F_X3_round N (FMS_ N d) a u else if q = 6 then F_X3_counted N (FMS_ N d) a u else if q = 7 then F_X3_cases N (FMS_ N d) a u else none) u
    refine KCw_if (kq_F_X3_body ih) ?_
    refine KCw_if (kq_F_X3_statements ih) ?_
    refine KCw_if (kq_F_X3_statement ih) ?_
    refine KCw_if (kq_F_X3_choice ih) ?_
    refine KCw_if (kq_F_X3_loop ih) ?_
    refine KCw_if (kq_F_X3_round ih) ?_
    refine KCw_if (kq_F_X3_counted ih) ?_
    refine KCw_if (kq_F_X3_cases ih) ?_
    exact KCw_none
theorem kq_G_X3_statements {N : Nat} {u : CSt} : KCw (G_X3_statements N u) u := kq_FMS_ _ _ _ _ _ _
theorem kq_B_X3_routine_118 {N : Nat} {l1 : Int32} {l2 : Int32} {l3 : Nat} {u : CSt}  : KCw (B_X3_routine_118 N l1 l2 l3 u) u := by
  unfold B_X3_routine_118
  refine KCw_ok ?_
  refine KCw_pc ?_
  refine KCw_bt (kq_G_X3_statements.tr (fc_xmI rfl)) (fun _ _ => ?_)
  refine KCw_if ?_ ?_
  · skip
    refine KCw_ok ?_
    refine KCw_bc (kq_F_X6_constant.tr rfl) (fun _ _ => ?_)
    refine KCw_ok ?_
    refine KCw_bc (kq_F_X6_step.tr rfl) (fun _ _ => ?_)
    refine KCw_ok ?_
    refine KCw_pc ?_
    exact KCw_some (fc_xpI rfl)
  · skip
    refine KCw_ok ?_
    refine KCw_bc (kq_F_X6_step.tr rfl) (fun _ _ => ?_)
    refine KCw_ok ?_
    refine KCw_pc ?_
    exact KCw_some (fc_xpI rfl)
theorem kq_B_X3_routine_79 {N : Nat} {R_79 : Int32 × Int32 × Nat × Int32 × CSt → Option ((Sum Nat Int32) × CSt)} {l1 : Int32} {l2 : Int32} {l3 : Nat} {l4 : Int32} {u : CSt} (h_R_79 : ∀ a, KCw (R_79 a) a.2.2.2.2) : KCw (B_X3_routine_79 N R_79 l1 l2 l3 l4 u) u := by
  unfold B_X3_routine_79
  refine KCw_if ?_ ?_
  · skip
    exact kq_B_X3_routine_118.tr rfl
  · skip
    refine KCw_bc (kq_F_X9_is.tr rfl) (fun _ _ => ?_)
    refine KCw_if ?_ ?_
    · skip
      exact kq_B_X3_routine_118.tr rfl
    · skip
      refine KCw_bc (kq_F_X9_next.tr rfl) (fun _ _ => ?_)
      refine KCw_bt (kq_F_X3_variables.tr rfl) (fun _ _ => ?_)
      exact (h_R_79 _).tr rfl
theorem kq_LP_X3_routine_79 {N : Nat}  (n : Nat) : ∀ a : Int32 × Int32 × Nat × Int32 × CSt, KCw (LP_X3_routine_79 N n a) a.2.2.2.2 := by
  induction n with
  | zero => exact fun a r z e => by have e : (none : Option _) = some (r, z) := e; cases e
  | succ n ih =>
    intro a
    show KCw (B_X3_routine_79 N (LP_X3_routine_79 N n) a.1 a.2.1 a.2.2.1 a.2.2.2.1 a.2.2.2.2) a.2.2.2.2
    exact kq_B_X3_routine_79 ih
theorem kq_B_X3_routine_62 {N : Nat} {l1 : Int32} {l2 : Int32} {l3 : Nat} {u : CSt}  : KCw (B_X3_routine_62 N l1 l2 l3 u) u := by
  unfold B_X3_routine_62
  refine KCw_bc (kq_F_X9_next.tr rfl) (fun _ _ => ?_)
  refine KCw_bc (kq_F_X9_next.tr rfl) (fun _ _ => ?_)
  exact (kq_LP_X3_routine_79  _ _).tr rfl
theorem kq_B_X3_routine_32 {N : Nat} {R_32 : Int32 × Int32 × Nat × Int32 × CSt → Option ((Sum Nat Int32) × CSt)} {l1 : Int32} {l2 : Int32} {l3 : Nat} {l4 : Int32} {u : CSt} (h_R_32 : ∀ a, KCw (R_32 a) a.2.2.2.2) : KCw (B_X3_routine_32 N R_32 l1 l2 l3 l4 u) u := by
  unfold B_X3_routine_32
  refine KCw_if ?_ ?_
  · skip
    exact kq_B_X3_routine_62.tr rfl
  · skip
    refine KCw_bc (kq_F_X9_is.tr rfl) (fun _ _ => ?_)
    refine KCw_if ?_ ?_
    · skip
      refine KCw_bt (kq_F_X3_parameter.tr rfl) (fun _ _ => ?_)
      exact (h_R_32 _).tr rfl
    · skip
      exact kq_B_X3_routine_62.tr rfl
theorem kq_LP_X3_routine_32 {N : Nat}  (n : Nat) : ∀ a : Int32 × Int32 × Nat × Int32 × CSt, KCw (LP_X3_routine_32 N n a) a.2.2.2.2 := by
  induction n with
  | zero => exact fun a r z e => by have e : (none : Option _) = some (r, z) := e; cases e
  | succ n ih =>
    intro a
    show KCw (B_X3_routine_32 N (LP_X3_routine_32 N n) a.1 a.2.1 a.2.2.1 a.2.2.2.1 a.2.2.2.2) a.2.2.2.2
    exact kq_B_X3_routine_32 ih
theorem kq_B_X3_routine_0 {N : Nat} {l1 : Int32} {l2 : Int32} {u : CSt}  : KCw (B_X3_routine_0 N l1 l2 u) u := by
  unfold B_X3_routine_0
  refine KCw_bt (kq_F_X3_newName.tr rfl) (fun _ _ => ?_)
  refine KCw_ok ?_
  refine KCw_pc ?_
  refine KCw_ok ?_
  refine KCw_pc ?_
  refine KCw_bc (kq_F_X9_next.tr (fc_xpI (fc_xmI rfl))) (fun _ _ => ?_)
  exact (kq_LP_X3_routine_32  _ _).tr rfl
theorem kq_F_X3_routine {N : Nat} {l1 : Int32} {l2 : Int32} {u : CSt}  : KCw (F_X3_routine N l1 l2 u) u := by
  unfold F_X3_routine
  exact kq_B_X3_routine_0.tr rfl
theorem kq_B_X3_cyclic_94 {N : Nat} {u : CSt}  : KCw (B_X3_cyclic_94 N u) u := by
  unfold B_X3_cyclic_94
  refine KCw_bc (kq_F_X9_next.tr rfl) (fun _ _ => ?_)
  refine KCw_ok ?_
  refine KCw_bt (kq_G_X3_statements.tr rfl) (fun _ _ => ?_)
  refine KCw_bc (kq_F_X6_step.tr rfl) (fun _ _ => ?_)
  exact KCw_some rfl
theorem kq_B_X3_cyclic_61 {N : Nat} {l1 : Nat} {l2 : Int32} {l3 : Int32} {u : CSt}  : KCw (B_X3_cyclic_61 N l1 l2 l3 u) u := by
  unfold B_X3_cyclic_61
  refine KCw_if ?_ ?_
  · skip
    exact kq_B_X3_cyclic_94.tr rfl
  · skip
    refine KCw_ok ?_
    refine KCw_ix ?_
    refine KCw_bc (kq_F_X7_become.tr rfl) (fun _ _ => ?_)
    exact kq_B_X3_cyclic_94.tr rfl
theorem kq_B_X3_cyclic_0 {N : Nat} {u : CSt}  : KCw (B_X3_cyclic_0 N u) u := by
  unfold B_X3_cyclic_0
  refine KCw_bt (kq_F_X3_newName.tr rfl) (fun _ _ => ?_)
  refine KCw_ok ?_
  refine KCw_bc (kq_F_X9_next.tr rfl) (fun _ _ => ?_)
  refine KCw_bt (kq_F_X9_takeBounded.tr rfl) (fun _ _ => ?_)
  refine KCw_bc (kq_F_X9_is.tr rfl) (fun _ _ => ?_)
  refine KCw_if ?_ ?_
  · skip
    exact kq_B_X3_cyclic_61.tr rfl
  · skip
    refine KCw_bc (kq_F_X9_next.tr rfl) (fun _ _ => ?_)
    refine KCw_bt (kq_F_X9_takeBounded.tr rfl) (fun _ _ => ?_)
    exact kq_B_X3_cyclic_61.tr rfl
theorem kq_F_X3_cyclic {N : Nat} {u : CSt}  : KCw (F_X3_cyclic N u) u := by
  unfold F_X3_cyclic
  exact kq_B_X3_cyclic_0.tr rfl
theorem kq_B_X3_make_205 {N : Nat} {R_57 : Int32 × CSt → Option ((Sum Nat Int32) × CSt)} {l2 : Int32} {u : CSt} (h_R_57 : ∀ a, KCw (R_57 a) a.2) : KCw (B_X3_make_205 N R_57 l2 u) u := by
  unfold B_X3_make_205
  exact (h_R_57 _).tr rfl
theorem kq_B_X3_make_57 {N : Nat} {R_57 : Int32 × CSt → Option ((Sum Nat Int32) × CSt)} {l2 : Int32} {u : CSt} (h_R_57 : ∀ a, KCw (R_57 a) a.2) : KCw (B_X3_make_57 N R_57 l2 u) u := by
  unfold B_X3_make_57
  refine KCw_if ?_ ?_
  · skip
    exact KCw_some rfl
  · skip
    refine KCw_bc (kq_F_X9_is.tr rfl) (fun _ _ => ?_)
    refine KCw_if ?_ ?_
    · skip
      refine KCw_bc (kq_F_X9_type.tr rfl) (fun _ _ => ?_)
      refine KCw_bc (kq_F_X9_next.tr rfl) (fun _ _ => ?_)
      refine KCw_if ?_ ?_
      · skip
        refine KCw_bt (kq_F_X3_variables.tr rfl) (fun _ _ => ?_)
        exact (kq_B_X3_make_205 h_R_57).tr rfl
      · skip
        refine KCw_if ?_ ?_
        · skip
          refine KCw_bt (kq_F_X3_variables.tr rfl) (fun _ _ => ?_)
          exact (kq_B_X3_make_205 h_R_57).tr rfl
        · skip
          refine KCw_if ?_ ?_
          · skip
            refine KCw_bt (kq_F_X3_placed.tr rfl) (fun _ _ => ?_)
            exact (kq_B_X3_make_205 h_R_57).tr rfl
          · skip
            refine KCw_if ?_ ?_
            · skip
              refine KCw_bt (kq_F_X3_placed.tr rfl) (fun _ _ => ?_)
              exact (kq_B_X3_make_205 h_R_57).tr rfl
            · skip
              refine KCw_if ?_ ?_
              · skip
                refine KCw_bt (kq_F_X3_routine.tr rfl) (fun _ _ => ?_)
                exact (kq_B_X3_make_205 h_R_57).tr rfl
              · skip
                refine KCw_if ?_ ?_
                · skip
                  refine KCw_bt (kq_F_X3_uses.tr rfl) (fun _ _ => ?_)
                  exact (kq_B_X3_make_205 h_R_57).tr rfl
                · skip
                  refine KCw_if ?_ ?_
                  · skip
                    refine KCw_bc (kq_F_X9_takeKind.tr rfl) (fun _ _ => ?_)
                    refine KCw_bt (kq_F_X3_routine.tr rfl) (fun _ _ => ?_)
                    exact (kq_B_X3_make_205 h_R_57).tr rfl
                  · skip
                    refine KCw_bt (kq_F_X3_cyclic.tr rfl) (fun _ _ => ?_)
                    exact (kq_B_X3_make_205 h_R_57).tr rfl
    · skip
      exact KCw_some rfl
theorem kq_LP_X3_make_57 {N : Nat}  (n : Nat) : ∀ a : Int32 × CSt, KCw (LP_X3_make_57 N n a) a.2 := by
  induction n with
  | zero => exact fun a r z e => by have e : (none : Option _) = some (r, z) := e; cases e
  | succ n ih =>
    intro a
    show KCw (B_X3_make_57 N (LP_X3_make_57 N n) a.1 a.2) a.2
    exact kq_B_X3_make_57 ih
theorem kq_B_X3_make_0 {N : Nat} {l1 : Nat} {u : CSt}  : KCw (B_X3_make_0 N l1 u) u := by
  unfold B_X3_make_0
  refine KCw_pc ?_
  refine KCw_ok ?_
  refine KCw_bc (kq_F_X6_empty.tr (fc_xR rfl)) (fun _ _ => ?_)
  refine KCw_bc (kq_F_X8_begin.tr rfl) (fun _ _ => ?_)
  refine KCw_pc ?_
  refine KCw_pc ?_
  refine KCw_pc ?_
  refine KCw_pc ?_
  refine KCw_pc ?_
  refine KCw_bc (kq_F_X9_rewind.tr (fc_xI (by decide) (fc_xI (by decide) (fc_xI (by decide) (fc_xI (by decide) (fc_xF rfl)))))) (fun _ _ => ?_)
  exact (kq_LP_X3_make_57  _ _).tr rfl
theorem kq_F_X3_make {N : Nat} {l1 : Nat} {u : CSt}  : KCw (F_X3_make N l1 u) u := by
  unfold F_X3_make
  exact kq_B_X3_make_0.tr rfl
theorem kq_B_X11_install_0 {N : Nat} {l1 : Int32} {u : CSt}  : KCw (B_X11_install_0 N l1 u) u := by
  unfold B_X11_install_0
  refine KCw_ok ?_
  refine KCw_ok ?_
  refine KCw_pc ?_
  refine KCw_pc ?_
  refine KCw_ok ?_
  refine KCw_bc (kq_F_X2_install.tr (fc_xR (fc_xR rfl))) (fun _ _ => ?_)
  refine KCw_bc (kq_F_X10_forget.tr rfl) (fun _ _ => ?_)
  refine KCw_if ?_ ?_
  · skip
    refine KCw_bc (kq_F_X1_wipe.tr rfl) (fun _ _ => ?_)
    refine KCw_pc ?_
    exact KCw_some (fc_xI (by decide) rfl)
  · skip
    exact KCw_some rfl
theorem kq_F_X11_install {N : Nat} {l1 : Int32} {u : CSt}  : KCw (F_X11_install N l1 u) u := by
  unfold F_X11_install
  exact kq_B_X11_install_0.tr rfl
