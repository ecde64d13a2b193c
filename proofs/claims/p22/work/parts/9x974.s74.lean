/-! Loading leaves the words; reading and checking leave the names. -/
def kw5 (u w : CSt) : Prop := cB w 207 = cB u 207
def KW5 {β : Type} (x : Option (β × CSt)) (u : CSt) : Prop := ∀ r w, x = some (r, w) → kw5 u w
section KW5s
variable {α β γ : Type} {u v w : CSt}
theorem kw5_rf : kw5 u u := rfl
theorem kw5_tr (h : kw5 u v) (h2 : kw5 v w) : kw5 u w := Eq.trans h2 h
theorem KW5.tr {x : Option (β × CSt)} (hx : KW5 x w) (h : kw5 u w) : KW5 x u := fun r z e => kw5_tr h (hx r z e)
theorem f5_xI {k : Nat} {a : Int32} (h : kw5 u w) : kw5 u (xI w k a) := h
theorem f5_xL {k : Nat} {a : Int64} (h : kw5 u w) : kw5 u (xL w k a) := h
theorem f5_xA {k i : Nat} {a : Int32} (h : kw5 u w) : kw5 u (xA w k i a) := h
theorem f5_xF {k : Nat} {g : Nat → Int32} (h : kw5 u w) : kw5 u (xF w k g) := h
theorem f5_xpI {q k : Nat} {a : Int32} (h : kw5 u w) : kw5 u (xpI w q k a) := h
theorem f5_xpA {q k i : Nat} {a : Int32} (h : kw5 u w) : kw5 u (xpA w q k i a) := h
theorem f5_xpF {q k : Nat} {g : Nat → Int32} (h : kw5 u w) : kw5 u (xpF w q k g) := h
theorem f5_xpB {q k i : Nat} {a : Int64} (h : kw5 u w) : kw5 u (xpB w q k i a) := h
theorem f5_xtI {q k : Nat} {a : Int32} (h : kw5 u w) : kw5 u (xtI w q k a) := h
theorem f5_xR {k a : Nat} (h : kw5 u w) : kw5 u (xR w k a) := h
theorem f5_xmI {q k : Nat} {a : Int32} (h : kw5 u w) : kw5 u (xmI w q k a) := h
theorem f5_xmL {q k : Nat} {a : Int64} (h : kw5 u w) : kw5 u (xmL w q k a) := h
theorem f5_xB {k i : Nat} {a : Int64} (hk : k ≠ 207) (h : kw5 u w) : kw5 u (xB w k i a) := by
  refine kw5_tr h ?_
  show (if 207 = k then vp_updL (cB w k) i a else cB w 207) = cB w 207
  rw [if_neg (fun q => hk q.symm)]
theorem KW5_some {r : β} (h : kw5 u w) : KW5 (some (r, w)) u := fun _ _ e => by cases e; exact h
theorem KW5_none : KW5 (none : Option (β × CSt)) u := fun _ _ e => nomatch e
theorem KW5_rd {f : Nat → α} {n : Nat} {i : Int32} {k : α → Option (β × CSt)} (h : ∀ a, KW5 (k a) u) : KW5 (rd f n i k) u := by
  intro r z e
  have q : wq (rd f n i k) (fun r' z' => r' = r ∧ z' = z) := ⟨r, z, e, rfl, rfl⟩
  obtain ⟨r1, z1, e1, rfl, rfl⟩ := (wq_rd.mp q).2
  exact h _ _ _ e1
theorem KW5_if {c : Prop} {d : Decidable c} {a b : Option (β × CSt)} (ha : KW5 a u) (hb : KW5 b u) : KW5 (if c then a else b) u := by
  by_cases q : c
  · rw [if_pos q]; exact ha
  · rw [if_neg q]; exact hb
theorem KW5_zr {v : Int32} {x : Option (β × CSt)} (h : KW5 x u) : KW5 (zr v x) u := fun r z e => h r z (zr_of e).2
theorem KW5_nz {v : Int32} {x : Option (β × CSt)} (h : KW5 x u) : KW5 (nz v x) u := fun r z e => h r z (nz_of e).2
theorem KW5_ok {P : Prop} {d : Decidable P} {x : Option (β × CSt)} (h : KW5 x u) : KW5 (ok P d x) u := fun r z e => h r z (ok_of e).2
theorem KW5_pc {x : CSt} {k : CSt → Option (β × CSt)} (h : KW5 (k x) u) : KW5 (pc x k) u := h
theorem KW5_wc {n : Nat} {i : Int32} {x : CSt} {k : CSt → Option (β × CSt)} (h : KW5 (k x) u) : KW5 (wc n i x k) u := by
  intro r z e
  have q : wq (wc n i x k) (fun r' z' => r' = r ∧ z' = z) := ⟨r, z, e, rfl, rfl⟩
  obtain ⟨r1, z1, e1, rfl, rfl⟩ := (wq_wc.mp q).2
  exact h _ _ e1
theorem KW5_bc {x : Option (α × CSt)} {k : α → CSt → Option (β × CSt)} (hx : KW5 x u) (h : ∀ r w, KW5 (k r w) w) : KW5 (bc x k) u := by
  intro r z e
  have q : wq (bc x k) (fun r' z' => r' = r ∧ z' = z) := ⟨r, z, e, rfl, rfl⟩
  obtain ⟨r1, z1, e1, r2, z2, e2, rfl, rfl⟩ := wq_bc.mp q
  exact kw5_tr (hx _ _ e1) (h _ _ _ _ e2)
theorem KW5_pb {x : Option α} {k : α → Option (β × CSt)} (h : ∀ a, KW5 (k a) u) : KW5 (pb x k) u := by
  intro r z e
  have q : wq (pb x k) (fun r' z' => r' = r ∧ z' = z) := ⟨r, z, e, rfl, rfl⟩
  obtain ⟨a, -, r1, z1, e1, rfl, rfl⟩ := wq_pb.mp q
  exact h _ _ _ e1
theorem KW5_bt {x : Option (Sum Nat α × CSt)} {k : α → CSt → Option (Sum Nat γ × CSt)} (hx : KW5 x u) (h : ∀ r w, KW5 (k r w) w) : KW5 (bt x k) u := by
  intro r z e
  unfold bt at e
  cases hq : x with
  | none => rw [hq] at e; cases e
  | some a =>
    obtain ⟨y, v⟩ := a
    rw [hq] at e
    cases y with
    | inl n => cases e; exact hx _ _ hq
    | inr b => exact kw5_tr (hx _ _ hq) (h _ _ _ _ e)
theorem KW5_ix {n : Nat} {i : Int32} {x : Option (β × CSt)} (h : KW5 x u) : KW5 (ix n i x) u := by
  intro r z e
  have q : wq (ix n i x) (fun r' z' => r' = r ∧ z' = z) := ⟨r, z, e, rfl, rfl⟩
  obtain ⟨r1, z1, e1, rfl, rfl⟩ := (wq_ix.mp q).2
  exact h _ _ e1
theorem KW5_bh {x : Option (Sum Nat α × CSt)} {kc : CSt → Option (β × CSt)} {k : α → CSt → Option (β × CSt)} (hx : KW5 x u) (h0 : ∀ w, KW5 (kc w) w) (h : ∀ r w, KW5 (k r w) w) : KW5 (bh x kc k) u := by
  intro r z e
  obtain ⟨y1, w1, e1, ⟨-, e2⟩ | ⟨q, -, e2⟩⟩ := bh_of e
  · exact kw5_tr (hx _ _ e1) (h0 _ _ _ e2)
  · exact kw5_tr (hx _ _ e1) (h _ _ _ _ e2)
end KW5s
theorem w5_B_X4_become_0 {N : Nat} {l0 : Nat} {l1 : Int32} {l2 : Int64} {l4 : Int32} {u : CSt}  : KW5 (B_X4_become_0 N l0 l1 l2 l4 u) u := by
  unfold B_X4_become_0
  refine KW5_pc ?_
  refine KW5_pc ?_
  refine KW5_pc ?_
  refine KW5_pc ?_
  refine KW5_pc ?_
  refine KW5_pc ?_
  refine KW5_pc ?_
  refine KW5_pc ?_
  refine KW5_pc ?_
  refine KW5_pc ?_
  refine KW5_pc ?_
  refine KW5_pc ?_
  refine KW5_pc ?_
  refine KW5_pc ?_
  exact KW5_some (f5_xmI (f5_xmI (f5_xmI (f5_xmI (f5_xmL (f5_xmI (f5_xmI (f5_xmI (f5_xmI (f5_xmI (f5_xmI (f5_xmI (f5_xmI (f5_xmL kw5_rf))))))))))))))
theorem w5_F_X4_become {N : Nat} {l0 : Nat} {l1 : Int32} {l2 : Int64} {l4 : Int32} {u : CSt}  : KW5 (F_X4_become N l0 l1 l2 l4 u) u := by
  unfold F_X4_become
  exact w5_B_X4_become_0.tr kw5_rf
theorem w5_B_X4_isLocal_17 {N : Nat} {u : CSt}  : KW5 (B_X4_isLocal_17 N u) u := by
  unfold B_X4_isLocal_17
  exact KW5_some kw5_rf
theorem w5_B_X4_isLocal_0 {N : Nat} {l0 : Nat} {u : CSt}  : KW5 (B_X4_isLocal_0 N l0 u) u := by
  unfold B_X4_isLocal_0
  refine KW5_if ?_ ?_
  · skip
    exact w5_B_X4_isLocal_17.tr kw5_rf
  · skip
    refine KW5_if ?_ ?_
    · skip
      exact w5_B_X4_isLocal_17.tr kw5_rf
    · skip
      exact KW5_some kw5_rf
theorem w5_F_X4_isLocal {N : Nat} {l0 : Nat} {u : CSt}  : KW5 (F_X4_isLocal N l0 u) u := by
  unfold F_X4_isLocal
  exact w5_B_X4_isLocal_0.tr kw5_rf
theorem w5_B_X4_hasNumbers_14 {N : Nat} {u : CSt}  : KW5 (B_X4_hasNumbers_14 N u) u := by
  unfold B_X4_hasNumbers_14
  exact KW5_some kw5_rf
theorem w5_B_X4_hasNumbers_0 {N : Nat} {l0 : Nat} {u : CSt}  : KW5 (B_X4_hasNumbers_0 N l0 u) u := by
  unfold B_X4_hasNumbers_0
  refine KW5_if ?_ ?_
  · skip
    exact w5_B_X4_hasNumbers_14.tr kw5_rf
  · skip
    refine KW5_bc (w5_F_X4_isLocal.tr kw5_rf) (fun _ _ => ?_)
    refine KW5_if ?_ ?_
    · skip
      exact KW5_some kw5_rf
    · skip
      exact w5_B_X4_hasNumbers_14.tr kw5_rf
theorem w5_F_X4_hasNumbers {N : Nat} {l0 : Nat} {u : CSt}  : KW5 (F_X4_hasNumbers N l0 u) u := by
  unfold F_X4_hasNumbers
  exact w5_B_X4_hasNumbers_0.tr kw5_rf
theorem w5_B_X4_isPlaced_23 {N : Nat} {u : CSt}  : KW5 (B_X4_isPlaced_23 N u) u := by
  unfold B_X4_isPlaced_23
  exact KW5_some kw5_rf
theorem w5_B_X4_isPlaced_0 {N : Nat} {l0 : Nat} {u : CSt}  : KW5 (B_X4_isPlaced_0 N l0 u) u := by
  unfold B_X4_isPlaced_0
  refine KW5_if ?_ ?_
  · skip
    refine KW5_if ?_ ?_
    · skip
      exact w5_B_X4_isPlaced_23.tr kw5_rf
    · skip
      refine KW5_if ?_ ?_
      · skip
        exact w5_B_X4_isPlaced_23.tr kw5_rf
      · skip
        exact KW5_some kw5_rf
  · skip
    exact KW5_some kw5_rf
theorem w5_F_X4_isPlaced {N : Nat} {l0 : Nat} {u : CSt}  : KW5 (F_X4_isPlaced N l0 u) u := by
  unfold F_X4_isPlaced
  exact w5_B_X4_isPlaced_0.tr kw5_rf
theorem w5_B_X4_isInput_0 {N : Nat} {l0 : Nat} {u : CSt}  : KW5 (B_X4_isInput_0 N l0 u) u := by
  unfold B_X4_isInput_0
  refine KW5_if ?_ ?_
  · skip
    refine KW5_if ?_ ?_
    · skip
      exact KW5_some kw5_rf
    · skip
      exact KW5_some kw5_rf
  · skip
    exact KW5_some kw5_rf
theorem w5_F_X4_isInput {N : Nat} {l0 : Nat} {u : CSt}  : KW5 (F_X4_isInput N l0 u) u := by
  unfold F_X4_isInput
  exact w5_B_X4_isInput_0.tr kw5_rf
theorem w5_B_X7_become_0 {N : Nat} {l0 : Nat} {l1 : Int32} {l2 : Int32} {l3 : Int32} {u : CSt}  : KW5 (B_X7_become_0 N l0 l1 l2 l3 u) u := by
  unfold B_X7_become_0
  refine KW5_pc ?_
  refine KW5_pc ?_
  refine KW5_pc ?_
  refine KW5_pc ?_
  refine KW5_pc ?_
  refine KW5_pc ?_
  refine KW5_pc ?_
  refine KW5_pc ?_
  refine KW5_pc ?_
  refine KW5_pc ?_
  exact KW5_some (f5_xtI (f5_xtI (f5_xtI (f5_xtI (f5_xtI (f5_xtI (f5_xtI (f5_xtI (f5_xtI (f5_xtI kw5_rf))))))))))
theorem w5_F_X7_become {N : Nat} {l0 : Nat} {l1 : Int32} {l2 : Int32} {l3 : Int32} {u : CSt}  : KW5 (F_X7_become N l0 l1 l2 l3 u) u := by
  unfold F_X7_become
  exact w5_B_X7_become_0.tr kw5_rf
theorem w5_B_X6_name_0 {N : Nat} {l0 : Nat} {l1 : Int32} {u : CSt}  : KW5 (B_X6_name_0 N l0 l1 u) u := by
  unfold B_X6_name_0
  refine KW5_if ?_ ?_
  · skip
    exact KW5_some kw5_rf
  · skip
    refine KW5_if ?_ ?_
    · skip
      exact KW5_some kw5_rf
    · skip
      refine KW5_ix ?_
      exact KW5_some kw5_rf
theorem w5_F_X6_name {N : Nat} {l0 : Nat} {l1 : Int32} {u : CSt}  : KW5 (F_X6_name N l0 l1 u) u := by
  unfold F_X6_name
  exact w5_B_X6_name_0.tr kw5_rf
theorem w5_B_X6_local_0 {N : Nat} {l0 : Nat} {l1 : Nat} {l2 : Int32} {u : CSt}  : KW5 (B_X6_local_0 N l0 l1 l2 u) u := by
  unfold B_X6_local_0
  refine KW5_if ?_ ?_
  · skip
    exact KW5_some kw5_rf
  · skip
    refine KW5_if ?_ ?_
    · skip
      exact KW5_some kw5_rf
    · skip
      refine KW5_bc (w5_F_X6_name.tr kw5_rf) (fun _ _ => ?_)
      refine KW5_ok ?_
      exact KW5_some kw5_rf
theorem w5_F_X6_local {N : Nat} {l0 : Nat} {l1 : Nat} {l2 : Int32} {u : CSt}  : KW5 (F_X6_local N l0 l1 l2 u) u := by
  unfold F_X6_local
  exact w5_B_X6_local_0.tr kw5_rf
theorem w5_B_X6_localCalled_71 {N : Nat} {R_12 : Nat × Nat × Int64 × Int32 × Int32 × Int32 × CSt → Option (Nat × CSt)} {l0 : Nat} {l1 : Nat} {l2 : Int64} {l4 : Int32} {l5 : Int32} {l6 : Int32} {u : CSt} (h_R_12 : ∀ a, KW5 (R_12 a) a.2.2.2.2.2.2) : KW5 (B_X6_localCalled_71 N R_12 l0 l1 l2 l4 l5 l6 u) u := by
  unfold B_X6_localCalled_71
  exact (h_R_12 _).tr kw5_rf
theorem w5_B_X6_localCalled_12 {N : Nat} {R_12 : Nat × Nat × Int64 × Int32 × Int32 × Int32 × CSt → Option (Nat × CSt)} {l0 : Nat} {l1 : Nat} {l2 : Int64} {l4 : Int32} {l5 : Int32} {l6 : Int32} {u : CSt} (h_R_12 : ∀ a, KW5 (R_12 a) a.2.2.2.2.2.2) : KW5 (B_X6_localCalled_12 N R_12 l0 l1 l2 l4 l5 l6 u) u := by
  unfold B_X6_localCalled_12
  refine KW5_if ?_ ?_
  · skip
    exact KW5_some kw5_rf
  · skip
    refine KW5_if ?_ ?_
    · skip
      exact KW5_some kw5_rf
    · skip
      refine KW5_ix ?_
      refine KW5_if ?_ ?_
      · skip
        refine KW5_ix ?_
        refine KW5_if ?_ ?_
        · skip
          refine KW5_ix ?_
          exact KW5_some kw5_rf
        · skip
          exact (w5_B_X6_localCalled_71 h_R_12).tr kw5_rf
      · skip
        exact (w5_B_X6_localCalled_71 h_R_12).tr kw5_rf
theorem w5_LP_X6_localCalled_12 {N : Nat}  (n : Nat) : ∀ a : Nat × Nat × Int64 × Int32 × Int32 × Int32 × CSt, KW5 (LP_X6_localCalled_12 N n a) a.2.2.2.2.2.2 := by
  induction n with
  | zero => exact fun a r z e => by have e : (none : Option _) = some (r, z) := e; cases e
  | succ n ih =>
    intro a
    show KW5 (B_X6_localCalled_12 N (LP_X6_localCalled_12 N n) a.1 a.2.1 a.2.2.1 a.2.2.2.1 a.2.2.2.2.1 a.2.2.2.2.2.1 a.2.2.2.2.2.2) a.2.2.2.2.2.2
    exact w5_B_X6_localCalled_12 ih
theorem w5_B_X6_localCalled_0 {N : Nat} {l0 : Nat} {l1 : Nat} {l2 : Int64} {l4 : Int32} {u : CSt}  : KW5 (B_X6_localCalled_0 N l0 l1 l2 l4 u) u := by
  unfold B_X6_localCalled_0
  exact (w5_LP_X6_localCalled_12  _ _).tr kw5_rf
theorem w5_F_X6_localCalled {N : Nat} {l0 : Nat} {l1 : Nat} {l2 : Int64} {l4 : Int32} {u : CSt}  : KW5 (F_X6_localCalled N l0 l1 l2 l4 u) u := by
  unfold F_X6_localCalled
  exact w5_B_X6_localCalled_0.tr kw5_rf
theorem w5_B_X6_ofText_52 {N : Nat} {R_3 : Nat × Int64 × Int32 × Int32 × CSt → Option (Nat × CSt)} {l0 : Nat} {l1 : Int64} {l3 : Int32} {l4 : Int32} {u : CSt} (h_R_3 : ∀ a, KW5 (R_3 a) a.2.2.2.2) : KW5 (B_X6_ofText_52 N R_3 l0 l1 l3 l4 u) u := by
  unfold B_X6_ofText_52
  exact (h_R_3 _).tr kw5_rf
theorem w5_B_X6_ofText_61 {N : Nat} {R_61 : Nat × Int64 × Int32 × Int32 × CSt → Option (Nat × CSt)} {l0 : Nat} {l1 : Int64} {l3 : Int32} {l4 : Int32} {u : CSt} (h_R_61 : ∀ a, KW5 (R_61 a) a.2.2.2.2) : KW5 (B_X6_ofText_61 N R_61 l0 l1 l3 l4 u) u := by
  unfold B_X6_ofText_61
  refine KW5_if ?_ ?_
  · skip
    exact KW5_some kw5_rf
  · skip
    refine KW5_if ?_ ?_
    · skip
      refine KW5_ix ?_
      refine KW5_if ?_ ?_
      · skip
        refine KW5_ix ?_
        exact KW5_some kw5_rf
      · skip
        exact (h_R_61 _).tr kw5_rf
    · skip
      exact KW5_some kw5_rf
theorem w5_LP_X6_ofText_61 {N : Nat}  (n : Nat) : ∀ a : Nat × Int64 × Int32 × Int32 × CSt, KW5 (LP_X6_ofText_61 N n a) a.2.2.2.2 := by
  induction n with
  | zero => exact fun a r z e => by have e : (none : Option _) = some (r, z) := e; cases e
  | succ n ih =>
    intro a
    show KW5 (B_X6_ofText_61 N (LP_X6_ofText_61 N n) a.1 a.2.1 a.2.2.1 a.2.2.2.1 a.2.2.2.2) a.2.2.2.2
    exact w5_B_X6_ofText_61 ih
theorem w5_B_X6_ofText_3 {N : Nat} {R_3 : Nat × Int64 × Int32 × Int32 × CSt → Option (Nat × CSt)} {l0 : Nat} {l1 : Int64} {l3 : Int32} {l4 : Int32} {u : CSt} (h_R_3 : ∀ a, KW5 (R_3 a) a.2.2.2.2) : KW5 (B_X6_ofText_3 N R_3 l0 l1 l3 l4 u) u := by
  unfold B_X6_ofText_3
  refine KW5_if ?_ ?_
  · skip
    exact (w5_LP_X6_ofText_61  _ _).tr kw5_rf
  · skip
    refine KW5_ix ?_
    refine KW5_if ?_ ?_
    · skip
      refine KW5_if ?_ ?_
      · skip
        refine KW5_if ?_ ?_
        · skip
          exact (w5_B_X6_ofText_52 h_R_3).tr kw5_rf
        · skip
          exact KW5_some kw5_rf
      · skip
        exact (w5_B_X6_ofText_52 h_R_3).tr kw5_rf
    · skip
      exact (w5_B_X6_ofText_52 h_R_3).tr kw5_rf
theorem w5_LP_X6_ofText_3 {N : Nat}  (n : Nat) : ∀ a : Nat × Int64 × Int32 × Int32 × CSt, KW5 (LP_X6_ofText_3 N n a) a.2.2.2.2 := by
  induction n with
  | zero => exact fun a r z e => by have e : (none : Option _) = some (r, z) := e; cases e
  | succ n ih =>
    intro a
    show KW5 (B_X6_ofText_3 N (LP_X6_ofText_3 N n) a.1 a.2.1 a.2.2.1 a.2.2.2.1 a.2.2.2.2) a.2.2.2.2
    exact w5_B_X6_ofText_3 ih
theorem w5_B_X6_ofText_0 {N : Nat} {l0 : Nat} {l1 : Int64} {l3 : Int32} {u : CSt}  : KW5 (B_X6_ofText_0 N l0 l1 l3 u) u := by
  unfold B_X6_ofText_0
  exact (w5_LP_X6_ofText_3  _ _).tr kw5_rf
theorem w5_F_X6_ofText {N : Nat} {l0 : Nat} {l1 : Int64} {l3 : Int32} {u : CSt}  : KW5 (F_X6_ofText N l0 l1 l3 u) u := by
  unfold F_X6_ofText
  exact w5_B_X6_ofText_0.tr kw5_rf
theorem w5_B_X6_add_86 {N : Nat} {l0 : Nat} {l5 : Nat} {u : CSt}  : KW5 (B_X6_add_86 N l0 l5 u) u := by
  unfold B_X6_add_86
  refine KW5_pc ?_
  exact KW5_some (f5_xpI kw5_rf)
theorem w5_B_X6_add_0 {N : Nat} {l0 : Nat} {l1 : Int32} {l2 : Int64} {l4 : Int32} {u : CSt}  : KW5 (B_X6_add_0 N l0 l1 l2 l4 u) u := by
  unfold B_X6_add_0
  refine KW5_if ?_ ?_
  · skip
    refine KW5_ix ?_
    refine KW5_bc (w5_F_X4_become.tr kw5_rf) (fun _ _ => ?_)
    refine KW5_pc ?_
    refine KW5_if ?_ ?_
    · skip
      exact w5_B_X6_add_86.tr (f5_xmI kw5_rf)
    · skip
      refine KW5_rd (fun _ => ?_)
      refine KW5_pc ?_
      refine KW5_ix ?_
      refine KW5_wc ?_
      refine KW5_rd (fun _ => ?_)
      refine KW5_wc ?_
      exact w5_B_X6_add_86.tr (f5_xpA (f5_xpA (f5_xmI (f5_xmI kw5_rf))))
  · skip
    exact KW5_some kw5_rf
theorem w5_F_X6_add {N : Nat} {l0 : Nat} {l1 : Int32} {l2 : Int64} {l4 : Int32} {u : CSt}  : KW5 (F_X6_add N l0 l1 l2 l4 u) u := by
  unfold F_X6_add
  exact w5_B_X6_add_0.tr kw5_rf
theorem w5_B_X6_step_0 {N : Nat} {l0 : Nat} {l1 : Int32} {l2 : Int32} {l3 : Int32} {l4 : Int32} {u : CSt}  : KW5 (B_X6_step_0 N l0 l1 l2 l3 l4 u) u := by
  unfold B_X6_step_0
  refine KW5_if ?_ ?_
  · skip
    refine KW5_wc ?_
    refine KW5_wc ?_
    refine KW5_wc ?_
    refine KW5_wc ?_
    refine KW5_pc ?_
    exact KW5_some (f5_xpI (f5_xpA (f5_xpA (f5_xpA (f5_xpA kw5_rf)))))
  · skip
    exact KW5_some kw5_rf
theorem w5_F_X6_step {N : Nat} {l0 : Nat} {l1 : Int32} {l2 : Int32} {l3 : Int32} {l4 : Int32} {u : CSt}  : KW5 (F_X6_step N l0 l1 l2 l3 l4 u) u := by
  unfold F_X6_step
  exact w5_B_X6_step_0.tr kw5_rf
theorem w5_B_X6_cost_0 {N : Nat} {l0 : Nat} {l1 : Int32} {u : CSt}  : KW5 (B_X6_cost_0 N l0 l1 u) u := by
  unfold B_X6_cost_0
  refine KW5_bc (w5_F_X6_step.tr kw5_rf) (fun _ _ => ?_)
  exact KW5_some kw5_rf
theorem w5_F_X6_cost {N : Nat} {l0 : Nat} {l1 : Int32} {u : CSt}  : KW5 (F_X6_cost N l0 l1 u) u := by
  unfold F_X6_cost
  exact w5_B_X6_cost_0.tr kw5_rf
theorem w5_B_X6_constant_0 {N : Nat} {l0 : Nat} {l1 : Int64} {l3 : Int32} {l4 : Int32} {u : CSt}  : KW5 (B_X6_constant_0 N l0 l1 l3 l4 u) u := by
  unfold B_X6_constant_0
  refine KW5_bc (w5_F_X6_step.tr kw5_rf) (fun _ _ => ?_)
  exact KW5_some kw5_rf
theorem w5_F_X6_constant {N : Nat} {l0 : Nat} {l1 : Int64} {l3 : Int32} {l4 : Int32} {u : CSt}  : KW5 (F_X6_constant N l0 l1 l3 l4 u) u := by
  unfold F_X6_constant
  exact w5_B_X6_constant_0.tr kw5_rf
theorem w5_B_X6_land_4 {N : Nat} {R_4 : Nat × Int32 × Int32 × CSt → Option (Int32 × CSt)} {l0 : Nat} {l2 : Int32} {l3 : Int32} {u : CSt} (h_R_4 : ∀ a, KW5 (R_4 a) a.2.2.2) : KW5 (B_X6_land_4 N R_4 l0 l2 l3 u) u := by
  unfold B_X6_land_4
  refine KW5_if ?_ ?_
  · skip
    exact KW5_some kw5_rf
  · skip
    refine KW5_if ?_ ?_
    · skip
      exact KW5_some kw5_rf
    · skip
      refine KW5_if ?_ ?_
      · skip
        exact KW5_some kw5_rf
      · skip
        refine KW5_rd (fun _ => ?_)
        refine KW5_wc ?_
        exact (h_R_4 _).tr (f5_xpA kw5_rf)
theorem w5_LP_X6_land_4 {N : Nat}  (n : Nat) : ∀ a : Nat × Int32 × Int32 × CSt, KW5 (LP_X6_land_4 N n a) a.2.2.2 := by
  induction n with
  | zero => exact fun a r z e => by have e : (none : Option _) = some (r, z) := e; cases e
  | succ n ih =>
    intro a
    show KW5 (B_X6_land_4 N (LP_X6_land_4 N n) a.1 a.2.1 a.2.2.1 a.2.2.2) a.2.2.2
    exact w5_B_X6_land_4 ih
theorem w5_B_X6_land_0 {N : Nat} {l0 : Nat} {l1 : Int32} {u : CSt}  : KW5 (B_X6_land_0 N l0 l1 u) u := by
  unfold B_X6_land_0
  exact (w5_LP_X6_land_4  _ _).tr kw5_rf
theorem w5_F_X6_land {N : Nat} {l0 : Nat} {l1 : Int32} {u : CSt}  : KW5 (F_X6_land N l0 l1 u) u := by
  unfold F_X6_land
  exact w5_B_X6_land_0.tr kw5_rf
theorem w5_B_X6_label_0 {N : Nat} {l0 : Nat} {l1 : Int64} {l3 : Int64} {u : CSt}  : KW5 (B_X6_label_0 N l0 l1 l3 u) u := by
  unfold B_X6_label_0
  refine KW5_if ?_ ?_
  · skip
    exact KW5_some kw5_rf
  · skip
    refine KW5_wc ?_
    refine KW5_wc ?_
    refine KW5_pc ?_
    exact KW5_some (f5_xpI (f5_xpB (f5_xpB kw5_rf)))
theorem w5_F_X6_label {N : Nat} {l0 : Nat} {l1 : Int64} {l3 : Int64} {u : CSt}  : KW5 (F_X6_label N l0 l1 l3 u) u := by
  unfold F_X6_label
  exact w5_B_X6_label_0.tr kw5_rf
theorem w5_B_X9_rewind_0 {N : Nat} {u : CSt}  : KW5 (B_X9_rewind_0 N u) u := by
  unfold B_X9_rewind_0
  refine KW5_pc ?_
  exact KW5_some (f5_xI kw5_rf)
theorem w5_F_X9_rewind {N : Nat} {u : CSt}  : KW5 (F_X9_rewind N u) u := by
  unfold F_X9_rewind
  exact w5_B_X9_rewind_0.tr kw5_rf
theorem w5_B_X9_type_0 {N : Nat} {u : CSt}  : KW5 (B_X9_type_0 N u) u := by
  unfold B_X9_type_0
  refine KW5_rd (fun _ => ?_)
  exact KW5_some kw5_rf
theorem w5_F_X9_type {N : Nat} {u : CSt}  : KW5 (F_X9_type N u) u := by
  unfold F_X9_type
  exact w5_B_X9_type_0.tr kw5_rf
theorem w5_B_X9_typeAhead_0 {N : Nat} {l1 : Int32} {u : CSt}  : KW5 (B_X9_typeAhead_0 N l1 u) u := by
  unfold B_X9_typeAhead_0
  refine KW5_if ?_ ?_
  · skip
    exact KW5_some kw5_rf
  · skip
    refine KW5_rd (fun _ => ?_)
    exact KW5_some kw5_rf
theorem w5_F_X9_typeAhead {N : Nat} {l1 : Int32} {u : CSt}  : KW5 (F_X9_typeAhead N l1 u) u := by
  unfold F_X9_typeAhead
  exact w5_B_X9_typeAhead_0.tr kw5_rf
theorem w5_B_X9_is_0 {N : Nat} {l1 : Int32} {u : CSt}  : KW5 (B_X9_is_0 N l1 u) u := by
  unfold B_X9_is_0
  refine KW5_rd (fun _ => ?_)
  refine KW5_if ?_ ?_
  · skip
    exact KW5_some kw5_rf
  · skip
    exact KW5_some kw5_rf
theorem w5_F_X9_is {N : Nat} {l1 : Int32} {u : CSt}  : KW5 (F_X9_is N l1 u) u := by
  unfold F_X9_is
  exact w5_B_X9_is_0.tr kw5_rf
theorem w5_B_X9_isKindWord_0 {N : Nat} {u : CSt}  : KW5 (B_X9_isKindWord_0 N u) u := by
  unfold B_X9_isKindWord_0
  refine KW5_rd (fun _ => ?_)
  refine KW5_if ?_ ?_
  · skip
    exact KW5_some kw5_rf
  · skip
    refine KW5_rd (fun _ => ?_)
    refine KW5_if ?_ ?_
    · skip
      exact KW5_some kw5_rf
    · skip
      exact KW5_some kw5_rf
theorem w5_F_X9_isKindWord {N : Nat} {u : CSt}  : KW5 (F_X9_isKindWord N u) u := by
  unfold F_X9_isKindWord
  exact w5_B_X9_isKindWord_0.tr kw5_rf
theorem w5_B_X9_here_0 {N : Nat} {u : CSt}  : KW5 (B_X9_here_0 N u) u := by
  unfold B_X9_here_0
  refine KW5_rd (fun _ => ?_)
  exact KW5_some kw5_rf
theorem w5_F_X9_here {N : Nat} {u : CSt}  : KW5 (F_X9_here N u) u := by
  unfold F_X9_here
  exact w5_B_X9_here_0.tr kw5_rf
theorem w5_B_X9_head_0 {N : Nat} {u : CSt}  : KW5 (B_X9_head_0 N u) u := by
  unfold B_X9_head_0
  refine KW5_rd (fun _ => ?_)
  exact KW5_some kw5_rf
theorem w5_F_X9_head {N : Nat} {u : CSt}  : KW5 (F_X9_head N u) u := by
  unfold F_X9_head
  exact w5_B_X9_head_0.tr kw5_rf
theorem w5_B_X9_tail_0 {N : Nat} {u : CSt}  : KW5 (B_X9_tail_0 N u) u := by
  unfold B_X9_tail_0
  refine KW5_rd (fun _ => ?_)
  exact KW5_some kw5_rf
theorem w5_F_X9_tail {N : Nat} {u : CSt}  : KW5 (F_X9_tail N u) u := by
  unfold F_X9_tail
  exact w5_B_X9_tail_0.tr kw5_rf
theorem w5_B_X9_isWide_0 {N : Nat} {u : CSt}  : KW5 (B_X9_isWide_0 N u) u := by
  unfold B_X9_isWide_0
  refine KW5_rd (fun _ => ?_)
  refine KW5_if ?_ ?_
  · skip
    exact KW5_some kw5_rf
  · skip
    exact KW5_some kw5_rf
theorem w5_F_X9_isWide {N : Nat} {u : CSt}  : KW5 (F_X9_isWide N u) u := by
  unfold F_X9_isWide
  exact w5_B_X9_isWide_0.tr kw5_rf
theorem w5_B_X9_next_0 {N : Nat} {u : CSt}  : KW5 (B_X9_next_0 N u) u := by
  unfold B_X9_next_0
  refine KW5_if ?_ ?_
  · skip
    exact KW5_some kw5_rf
  · skip
    refine KW5_pc ?_
    exact KW5_some (f5_xI kw5_rf)
theorem w5_F_X9_next {N : Nat} {u : CSt}  : KW5 (F_X9_next N u) u := by
  unfold F_X9_next
  exact w5_B_X9_next_0.tr kw5_rf
theorem w5_B_X9_misfit_0 {N : Nat} {u : CSt}  : KW5 (B_X9_misfit_0 N u) u := by
  unfold B_X9_misfit_0
  refine KW5_rd (fun _ => ?_)
  refine KW5_if ?_ ?_
  · skip
    exact KW5_some kw5_rf
  · skip
    exact KW5_some kw5_rf
theorem w5_F_X9_misfit {N : Nat} {u : CSt}  : KW5 (F_X9_misfit N u) u := by
  unfold F_X9_misfit
  exact w5_B_X9_misfit_0.tr kw5_rf
theorem w5_B_X9_refuse_0 {N : Nat} {l1 : Int32} {l2 : Int32} {u : CSt}  : KW5 (B_X9_refuse_0 N l1 l2 u) u := by
  unfold B_X9_refuse_0
  refine KW5_pc ?_
  refine KW5_pc ?_
  exact KW5_some (f5_xI (f5_xI kw5_rf))
theorem w5_F_X9_refuse {N : Nat} {l1 : Int32} {l2 : Int32} {u : CSt}  : KW5 (F_X9_refuse N l1 l2 u) u := by
  unfold F_X9_refuse
  exact w5_B_X9_refuse_0.tr kw5_rf
theorem w5_B_X9_take_30 {N : Nat} {u : CSt}  : KW5 (B_X9_take_30 N u) u := by
  unfold B_X9_take_30
  refine KW5_bc (w5_F_X9_next.tr kw5_rf) (fun _ _ => ?_)
  exact KW5_some kw5_rf
theorem w5_B_X9_take_0 {N : Nat} {l1 : Int32} {u : CSt}  : KW5 (B_X9_take_0 N l1 u) u := by
  unfold B_X9_take_0
  refine KW5_rd (fun _ => ?_)
  refine KW5_if ?_ ?_
  · skip
    exact w5_B_X9_take_30.tr kw5_rf
  · skip
    refine KW5_bc (w5_F_X9_misfit.tr kw5_rf) (fun _ _ => ?_)
    refine KW5_rd (fun _ => ?_)
    refine KW5_bt (w5_F_X9_refuse.tr kw5_rf) (fun _ _ => ?_)
    exact w5_B_X9_take_30.tr kw5_rf
theorem w5_F_X9_take {N : Nat} {l1 : Int32} {u : CSt}  : KW5 (F_X9_take N l1 u) u := by
  unfold F_X9_take
  exact w5_B_X9_take_0.tr kw5_rf
theorem w5_B_X9_refuseToken_0 {N : Nat} {u : CSt}  : KW5 (B_X9_refuseToken_0 N u) u := by
  unfold B_X9_refuseToken_0
  refine KW5_bc (w5_F_X9_misfit.tr kw5_rf) (fun _ _ => ?_)
  refine KW5_rd (fun _ => ?_)
  refine KW5_bt (w5_F_X9_refuse.tr kw5_rf) (fun _ _ => ?_)
  exact KW5_some kw5_rf
theorem w5_F_X9_refuseToken {N : Nat} {u : CSt}  : KW5 (F_X9_refuseToken N u) u := by
  unfold F_X9_refuseToken
  exact w5_B_X9_refuseToken_0.tr kw5_rf
theorem w5_B_X9_takeNumber_28 {N : Nat} {u : CSt}  : KW5 (B_X9_takeNumber_28 N u) u := by
  unfold B_X9_takeNumber_28
  refine KW5_rd (fun _ => ?_)
  refine KW5_bc (w5_F_X9_next.tr kw5_rf) (fun _ _ => ?_)
  exact KW5_some kw5_rf
theorem w5_B_X9_takeNumber_0 {N : Nat} {u : CSt}  : KW5 (B_X9_takeNumber_0 N u) u := by
  unfold B_X9_takeNumber_0
  refine KW5_rd (fun _ => ?_)
  refine KW5_if ?_ ?_
  · skip
    exact w5_B_X9_takeNumber_28.tr kw5_rf
  · skip
    refine KW5_rd (fun _ => ?_)
    refine KW5_bt (w5_F_X9_refuse.tr kw5_rf) (fun _ _ => ?_)
    exact w5_B_X9_takeNumber_28.tr kw5_rf
theorem w5_F_X9_takeNumber {N : Nat} {u : CSt}  : KW5 (F_X9_takeNumber N u) u := by
  unfold F_X9_takeNumber
  exact w5_B_X9_takeNumber_0.tr kw5_rf
theorem w5_B_X9_takeBounded_53 {N : Nat} {l5 : Int64} {u : CSt}  : KW5 (B_X9_takeBounded_53 N l5 u) u := by
  unfold B_X9_takeBounded_53
  refine KW5_bc (w5_F_X9_next.tr kw5_rf) (fun _ _ => ?_)
  exact KW5_some kw5_rf
theorem w5_B_X9_takeBounded_39 {N : Nat} {l5 : Int64} {u : CSt}  : KW5 (B_X9_takeBounded_39 N l5 u) u := by
  unfold B_X9_takeBounded_39
  refine KW5_rd (fun _ => ?_)
  refine KW5_bt (w5_F_X9_refuse.tr kw5_rf) (fun _ _ => ?_)
  exact w5_B_X9_takeBounded_53.tr kw5_rf
theorem w5_B_X9_takeBounded_0 {N : Nat} {l1 : Int64} {l3 : Int64} {u : CSt}  : KW5 (B_X9_takeBounded_0 N l1 l3 u) u := by
  unfold B_X9_takeBounded_0
  refine KW5_rd (fun _ => ?_)
  refine KW5_rd (fun _ => ?_)
  refine KW5_if ?_ ?_
  · skip
    refine KW5_if ?_ ?_
    · skip
      exact w5_B_X9_takeBounded_39.tr kw5_rf
    · skip
      refine KW5_if ?_ ?_
      · skip
        exact w5_B_X9_takeBounded_53.tr kw5_rf
      · skip
        exact w5_B_X9_takeBounded_39.tr kw5_rf
  · skip
    exact w5_B_X9_takeBounded_39.tr kw5_rf
theorem w5_F_X9_takeBounded {N : Nat} {l1 : Int64} {l3 : Int64} {u : CSt}  : KW5 (F_X9_takeBounded N l1 l3 u) u := by
  unfold F_X9_takeBounded
  exact w5_B_X9_takeBounded_0.tr kw5_rf
theorem w5_B_X9_takeKind_0 {N : Nat} {u : CSt}  : KW5 (B_X9_takeKind_0 N u) u := by
  unfold B_X9_takeKind_0
  refine KW5_rd (fun _ => ?_)
  refine KW5_bc (w5_F_X9_next.tr kw5_rf) (fun _ _ => ?_)
  exact KW5_some kw5_rf
theorem w5_F_X9_takeKind {N : Nat} {u : CSt}  : KW5 (F_X9_takeKind N u) u := by
  unfold F_X9_takeKind
  exact w5_B_X9_takeKind_0.tr kw5_rf
theorem w5_B_X9_byteAt_0 {N : Nat} {l1 : Int32} {u : CSt}  : KW5 (B_X9_byteAt_0 N l1 u) u := by
  unfold B_X9_byteAt_0
  refine KW5_if ?_ ?_
  · skip
    exact KW5_some kw5_rf
  · skip
    refine KW5_if ?_ ?_
    · skip
      exact KW5_some kw5_rf
    · skip
      refine KW5_if ?_ ?_
      · skip
        exact KW5_some kw5_rf
      · skip
        refine KW5_rd (fun _ => ?_)
        exact KW5_some kw5_rf
theorem w5_F_X9_byteAt {N : Nat} {l1 : Int32} {u : CSt}  : KW5 (F_X9_byteAt N l1 u) u := by
  unfold F_X9_byteAt
  exact w5_B_X9_byteAt_0.tr kw5_rf
theorem w5_B_X9_behindGap_93 {N : Nat} {R_4 : Int32 × Int32 × CSt → Option (Int32 × CSt)} {l2 : Int32} {l3 : Int32} {u : CSt} (h_R_4 : ∀ a, KW5 (R_4 a) a.2.2) : KW5 (B_X9_behindGap_93 N R_4 l2 l3 u) u := by
  unfold B_X9_behindGap_93
  exact (h_R_4 _).tr kw5_rf
theorem w5_B_X9_behindGap_35 {N : Nat} {R_4 : Int32 × Int32 × CSt → Option (Int32 × CSt)} {l3 : Int32} {s0 : Int32} {u : CSt} (h_R_4 : ∀ a, KW5 (R_4 a) a.2.2) : KW5 (B_X9_behindGap_35 N R_4 l3 s0 u) u := by
  unfold B_X9_behindGap_35
  exact (w5_B_X9_behindGap_93 h_R_4).tr kw5_rf
theorem w5_B_X9_behindGap_63 {N : Nat} {R_4 : Int32 × Int32 × CSt → Option (Int32 × CSt)} {l2 : Int32} {l3 : Int32} {l4 : Int32} {u : CSt} (h_R_4 : ∀ a, KW5 (R_4 a) a.2.2) : KW5 (B_X9_behindGap_63 N R_4 l2 l3 l4 u) u := by
  unfold B_X9_behindGap_63
  refine KW5_if ?_ ?_
  · skip
    exact (w5_B_X9_behindGap_93 h_R_4).tr kw5_rf
  · skip
    refine KW5_if ?_ ?_
    · skip
      exact (w5_B_X9_behindGap_93 h_R_4).tr kw5_rf
    · skip
      refine KW5_if ?_ ?_
      · skip
        exact (w5_B_X9_behindGap_93 h_R_4).tr kw5_rf
      · skip
        refine KW5_if ?_ ?_
        · skip
          exact (w5_B_X9_behindGap_93 h_R_4).tr kw5_rf
        · skip
          exact KW5_some kw5_rf
theorem w5_B_X9_behindGap_4 {N : Nat} {R_4 : Int32 × Int32 × CSt → Option (Int32 × CSt)} {l2 : Int32} {l3 : Int32} {u : CSt} (h_R_4 : ∀ a, KW5 (R_4 a) a.2.2) : KW5 (B_X9_behindGap_4 N R_4 l2 l3 u) u := by
  unfold B_X9_behindGap_4
  refine KW5_if ?_ ?_
  · skip
    exact KW5_some kw5_rf
  · skip
    refine KW5_bc (w5_F_X9_byteAt.tr kw5_rf) (fun _ _ => ?_)
    refine KW5_if ?_ ?_
    · skip
      refine KW5_if ?_ ?_
      · skip
        refine KW5_bc (w5_F_X9_byteAt.tr kw5_rf) (fun _ _ => ?_)
        refine KW5_if ?_ ?_
        · skip
          exact (w5_B_X9_behindGap_93 h_R_4).tr kw5_rf
        · skip
          exact (w5_B_X9_behindGap_63 h_R_4).tr kw5_rf
      · skip
        exact (w5_B_X9_behindGap_63 h_R_4).tr kw5_rf
    · skip
      refine KW5_if ?_ ?_
      · skip
        exact (w5_B_X9_behindGap_35 h_R_4).tr kw5_rf
      · skip
        exact (w5_B_X9_behindGap_35 h_R_4).tr kw5_rf
theorem w5_LP_X9_behindGap_4 {N : Nat}  (n : Nat) : ∀ a : Int32 × Int32 × CSt, KW5 (LP_X9_behindGap_4 N n a) a.2.2 := by
  induction n with
  | zero => exact fun a r z e => by have e : (none : Option _) = some (r, z) := e; cases e
  | succ n ih =>
    intro a
    show KW5 (B_X9_behindGap_4 N (LP_X9_behindGap_4 N n) a.1 a.2.1 a.2.2) a.2.2
    exact w5_B_X9_behindGap_4 ih
theorem w5_B_X9_behindGap_0 {N : Nat} {l1 : Int32} {u : CSt}  : KW5 (B_X9_behindGap_0 N l1 u) u := by
  unfold B_X9_behindGap_0
  exact (w5_LP_X9_behindGap_4  _ _).tr kw5_rf
theorem w5_F_X9_behindGap {N : Nat} {l1 : Int32} {u : CSt}  : KW5 (F_X9_behindGap N l1 u) u := by
  unfold F_X9_behindGap
  exact w5_B_X9_behindGap_0.tr kw5_rf
theorem w5_B_X9_put_0 {N : Nat} {l1 : Int32} {l2 : Int64} {l4 : Int32} {u : CSt}  : KW5 (B_X9_put_0 N l1 l2 l4 u) u := by
  unfold B_X9_put_0
  refine KW5_wc ?_
  refine KW5_wc ?_
  refine KW5_wc ?_
  exact KW5_some (f5_xA (f5_xB (by decide) (f5_xA kw5_rf)))
theorem w5_F_X9_put {N : Nat} {l1 : Int32} {l2 : Int64} {l4 : Int32} {u : CSt}  : KW5 (F_X9_put N l1 l2 l4 u) u := by
  unfold F_X9_put
  exact w5_B_X9_put_0.tr kw5_rf
theorem w5_B_X9_closeWith_0 {N : Nat} {l1 : Int32} {l2 : Int32} {u : CSt}  : KW5 (B_X9_closeWith_0 N l1 l2 u) u := by
  unfold B_X9_closeWith_0
  refine KW5_bc (w5_F_X9_put.tr kw5_rf) (fun _ _ => ?_)
  refine KW5_wc ?_
  exact KW5_some (f5_xA kw5_rf)
theorem w5_F_X9_closeWith {N : Nat} {l1 : Int32} {l2 : Int32} {u : CSt}  : KW5 (F_X9_closeWith N l1 l2 u) u := by
  unfold F_X9_closeWith
  exact w5_B_X9_closeWith_0.tr kw5_rf
theorem w5_B_X9_wordHead_5 {N : Nat} {R_5 : Int32 × Int32 × Int64 × Int32 × CSt → Option (Int64 × CSt)} {l1 : Int32} {l2 : Int32} {l3 : Int64} {l5 : Int32} {u : CSt} (h_R_5 : ∀ a, KW5 (R_5 a) a.2.2.2.2) : KW5 (B_X9_wordHead_5 N R_5 l1 l2 l3 l5 u) u := by
  unfold B_X9_wordHead_5
  refine KW5_if ?_ ?_
  · skip
    exact KW5_some kw5_rf
  · skip
    refine KW5_if ?_ ?_
    · skip
      exact KW5_some kw5_rf
    · skip
      refine KW5_bc (w5_F_X9_byteAt.tr kw5_rf) (fun _ _ => ?_)
      exact (h_R_5 _).tr kw5_rf
theorem w5_LP_X9_wordHead_5 {N : Nat}  (n : Nat) : ∀ a : Int32 × Int32 × Int64 × Int32 × CSt, KW5 (LP_X9_wordHead_5 N n a) a.2.2.2.2 := by
  induction n with
  | zero => exact fun a r z e => by have e : (none : Option _) = some (r, z) := e; cases e
  | succ n ih =>
    intro a
    show KW5 (B_X9_wordHead_5 N (LP_X9_wordHead_5 N n) a.1 a.2.1 a.2.2.1 a.2.2.2.1 a.2.2.2.2) a.2.2.2.2
    exact w5_B_X9_wordHead_5 ih
theorem w5_B_X9_wordHead_0 {N : Nat} {l1 : Int32} {l2 : Int32} {u : CSt}  : KW5 (B_X9_wordHead_0 N l1 l2 u) u := by
  unfold B_X9_wordHead_0
  exact (w5_LP_X9_wordHead_5  _ _).tr kw5_rf
theorem w5_F_X9_wordHead {N : Nat} {l1 : Int32} {l2 : Int32} {u : CSt}  : KW5 (F_X9_wordHead N l1 l2 u) u := by
  unfold F_X9_wordHead
  exact w5_B_X9_wordHead_0.tr kw5_rf
theorem w5_B_X9_wordTail_8 {N : Nat} {R_8 : Int32 × Int32 × Int32 × CSt → Option (Int32 × CSt)} {l2 : Int32} {l3 : Int32} {l4 : Int32} {u : CSt} (h_R_8 : ∀ a, KW5 (R_8 a) a.2.2.2) : KW5 (B_X9_wordTail_8 N R_8 l2 l3 l4 u) u := by
  unfold B_X9_wordTail_8
  refine KW5_if ?_ ?_
  · skip
    exact KW5_some kw5_rf
  · skip
    refine KW5_bc (w5_F_X9_byteAt.tr kw5_rf) (fun _ _ => ?_)
    exact (h_R_8 _).tr kw5_rf
theorem w5_LP_X9_wordTail_8 {N : Nat}  (n : Nat) : ∀ a : Int32 × Int32 × Int32 × CSt, KW5 (LP_X9_wordTail_8 N n a) a.2.2.2 := by
  induction n with
  | zero => exact fun a r z e => by have e : (none : Option _) = some (r, z) := e; cases e
  | succ n ih =>
    intro a
    show KW5 (B_X9_wordTail_8 N (LP_X9_wordTail_8 N n) a.1 a.2.1 a.2.2.1 a.2.2.2) a.2.2.2
    exact w5_B_X9_wordTail_8 ih
theorem w5_B_X9_wordTail_0 {N : Nat} {l1 : Int32} {l2 : Int32} {u : CSt}  : KW5 (B_X9_wordTail_0 N l1 l2 u) u := by
  unfold B_X9_wordTail_0
  exact (w5_LP_X9_wordTail_8  _ _).tr kw5_rf
theorem w5_F_X9_wordTail {N : Nat} {l1 : Int32} {l2 : Int32} {u : CSt}  : KW5 (F_X9_wordTail N l1 l2 u) u := by
  unfold F_X9_wordTail
  exact w5_B_X9_wordTail_0.tr kw5_rf
theorem w5_B_X9_wordType_2 {N : Nat} {R_2 : Int64 × Int32 × CSt → Option (Int32 × CSt)} {l1 : Int64} {l3 : Int32} {u : CSt} (h_R_2 : ∀ a, KW5 (R_2 a) a.2.2) : KW5 (B_X9_wordType_2 N R_2 l1 l3 u) u := by
  unfold B_X9_wordType_2
  refine KW5_if ?_ ?_
  · skip
    exact KW5_some kw5_rf
  · skip
    refine KW5_rd (fun _ => ?_)
    refine KW5_if ?_ ?_
    · skip
      exact KW5_some kw5_rf
    · skip
      exact (h_R_2 _).tr kw5_rf
theorem w5_LP_X9_wordType_2 {N : Nat}  (n : Nat) : ∀ a : Int64 × Int32 × CSt, KW5 (LP_X9_wordType_2 N n a) a.2.2 := by
  induction n with
  | zero => exact fun a r z e => by have e : (none : Option _) = some (r, z) := e; cases e
  | succ n ih =>
    intro a
    show KW5 (B_X9_wordType_2 N (LP_X9_wordType_2 N n) a.1 a.2.1 a.2.2) a.2.2
    exact w5_B_X9_wordType_2 ih
theorem w5_B_X9_wordType_0 {N : Nat} {l1 : Int64} {u : CSt}  : KW5 (B_X9_wordType_0 N l1 u) u := by
  unfold B_X9_wordType_0
  exact (w5_LP_X9_wordType_2  _ _).tr kw5_rf
theorem w5_F_X9_wordType {N : Nat} {l1 : Int64} {u : CSt}  : KW5 (F_X9_wordType N l1 u) u := by
  unfold F_X9_wordType
  exact w5_B_X9_wordType_0.tr kw5_rf
theorem w5_B_X9_readWord_69 {N : Nat} {l2 : Int32} {l3 : Int64} {l5 : Int32} {s1 : Int32} {u : CSt}  : KW5 (B_X9_readWord_69 N l2 l3 l5 s1 u) u := by
  unfold B_X9_readWord_69
  refine KW5_bc (w5_F_X9_put.tr kw5_rf) (fun _ _ => ?_)
  exact KW5_some kw5_rf
theorem w5_B_X9_readWord_27 {N : Nat} {l1 : Int32} {l2 : Int32} {u : CSt}  : KW5 (B_X9_readWord_27 N l1 l2 u) u := by
  unfold B_X9_readWord_27
  refine KW5_if ?_ ?_
  · skip
    refine KW5_bc (w5_F_X9_wordHead.tr kw5_rf) (fun _ _ => ?_)
    refine KW5_bc (w5_F_X9_wordTail.tr kw5_rf) (fun _ _ => ?_)
    refine KW5_if ?_ ?_
    · skip
      refine KW5_bc (w5_F_X9_wordType.tr kw5_rf) (fun _ _ => ?_)
      exact w5_B_X9_readWord_69.tr kw5_rf
    · skip
      exact w5_B_X9_readWord_69.tr kw5_rf
  · skip
    exact KW5_some kw5_rf
theorem w5_B_X9_readWord_2 {N : Nat} {R_2 : Int32 × Int32 × CSt → Option (Int32 × CSt)} {l1 : Int32} {l2 : Int32} {u : CSt} (h_R_2 : ∀ a, KW5 (R_2 a) a.2.2) : KW5 (B_X9_readWord_2 N R_2 l1 l2 u) u := by
  unfold B_X9_readWord_2
  refine KW5_if ?_ ?_
  · skip
    exact w5_B_X9_readWord_27.tr kw5_rf
  · skip
    refine KW5_bc (w5_F_X9_byteAt.tr kw5_rf) (fun _ _ => ?_)
    refine KW5_pb (fun _ => ?_)
    refine KW5_if ?_ ?_
    · skip
      exact w5_B_X9_readWord_27.tr kw5_rf
    · skip
      exact (h_R_2 _).tr kw5_rf
theorem w5_LP_X9_readWord_2 {N : Nat}  (n : Nat) : ∀ a : Int32 × Int32 × CSt, KW5 (LP_X9_readWord_2 N n a) a.2.2 := by
  induction n with
  | zero => exact fun a r z e => by have e : (none : Option _) = some (r, z) := e; cases e
  | succ n ih =>
    intro a
    show KW5 (B_X9_readWord_2 N (LP_X9_readWord_2 N n) a.1 a.2.1 a.2.2) a.2.2
    exact w5_B_X9_readWord_2 ih
theorem w5_B_X9_readWord_0 {N : Nat} {l1 : Int32} {u : CSt}  : KW5 (B_X9_readWord_0 N l1 u) u := by
  unfold B_X9_readWord_0
  exact (w5_LP_X9_readWord_2  _ _).tr kw5_rf
theorem w5_F_X9_readWord {N : Nat} {l1 : Int32} {u : CSt}  : KW5 (F_X9_readWord N l1 u) u := by
  unfold F_X9_readWord
  exact w5_B_X9_readWord_0.tr kw5_rf
theorem w5_B_X9_hexBits_5 {N : Nat} {R_5 : Int32 × Int64 × Int32 × CSt → Option (Int64 × CSt)} {l2 : Int32} {l3 : Int64} {l5 : Int32} {u : CSt} (h_R_5 : ∀ a, KW5 (R_5 a) a.2.2.2) : KW5 (B_X9_hexBits_5 N R_5 l2 l3 l5 u) u := by
  unfold B_X9_hexBits_5
  refine KW5_if ?_ ?_
  · skip
    exact KW5_some kw5_rf
  · skip
    refine KW5_bc (w5_F_X9_byteAt.tr kw5_rf) (fun _ _ => ?_)
    refine KW5_pb (fun _ => ?_)
    exact (h_R_5 _).tr kw5_rf
theorem w5_LP_X9_hexBits_5 {N : Nat}  (n : Nat) : ∀ a : Int32 × Int64 × Int32 × CSt, KW5 (LP_X9_hexBits_5 N n a) a.2.2.2 := by
  induction n with
  | zero => exact fun a r z e => by have e : (none : Option _) = some (r, z) := e; cases e
  | succ n ih =>
    intro a
    show KW5 (B_X9_hexBits_5 N (LP_X9_hexBits_5 N n) a.1 a.2.1 a.2.2.1 a.2.2.2) a.2.2.2
    exact w5_B_X9_hexBits_5 ih
theorem w5_B_X9_hexBits_0 {N : Nat} {l1 : Int32} {l2 : Int32} {u : CSt}  : KW5 (B_X9_hexBits_0 N l1 l2 u) u := by
  unfold B_X9_hexBits_0
  exact (w5_LP_X9_hexBits_5  _ _).tr kw5_rf
theorem w5_F_X9_hexBits {N : Nat} {l1 : Int32} {l2 : Int32} {u : CSt}  : KW5 (F_X9_hexBits N l1 l2 u) u := by
  unfold F_X9_hexBits
  exact w5_B_X9_hexBits_0.tr kw5_rf
theorem w5_B_X9_decimal_5 {N : Nat} {R_5 : Int32 × Int64 × Int32 × CSt → Option (Int64 × CSt)} {l2 : Int32} {l3 : Int64} {l5 : Int32} {u : CSt} (h_R_5 : ∀ a, KW5 (R_5 a) a.2.2.2) : KW5 (B_X9_decimal_5 N R_5 l2 l3 l5 u) u := by
  unfold B_X9_decimal_5
  refine KW5_if ?_ ?_
  · skip
    exact KW5_some kw5_rf
  · skip
    refine KW5_bc (w5_F_X9_byteAt.tr kw5_rf) (fun _ _ => ?_)
    refine KW5_pb (fun _ => ?_)
    exact (h_R_5 _).tr kw5_rf
theorem w5_LP_X9_decimal_5 {N : Nat}  (n : Nat) : ∀ a : Int32 × Int64 × Int32 × CSt, KW5 (LP_X9_decimal_5 N n a) a.2.2.2 := by
  induction n with
  | zero => exact fun a r z e => by have e : (none : Option _) = some (r, z) := e; cases e
  | succ n ih =>
    intro a
    show KW5 (B_X9_decimal_5 N (LP_X9_decimal_5 N n) a.1 a.2.1 a.2.2.1 a.2.2.2) a.2.2.2
    exact w5_B_X9_decimal_5 ih
theorem w5_B_X9_decimal_0 {N : Nat} {l1 : Int32} {l2 : Int32} {u : CSt}  : KW5 (B_X9_decimal_0 N l1 l2 u) u := by
  unfold B_X9_decimal_0
  exact (w5_LP_X9_decimal_5  _ _).tr kw5_rf
theorem w5_F_X9_decimal {N : Nat} {l1 : Int32} {l2 : Int32} {u : CSt}  : KW5 (F_X9_decimal N l1 l2 u) u := by
  unfold F_X9_decimal
  exact w5_B_X9_decimal_0.tr kw5_rf
theorem w5_B_X9_readNumber_211 {N : Nat} {l6 : Int32} {l8 : Int32} {s1 : Int32} {s2 : Int64} {u : CSt}  : KW5 (B_X9_readNumber_211 N l6 l8 s1 s2 u) u := by
  unfold B_X9_readNumber_211
  refine KW5_bc (w5_F_X9_put.tr kw5_rf) (fun _ _ => ?_)
  exact KW5_some kw5_rf
theorem w5_B_X9_readNumber_276 {N : Nat} {l6 : Int32} {s1 : Int32} {s2 : Int64} {s3 : Int32} {u : CSt}  : KW5 (B_X9_readNumber_276 N l6 s1 s2 s3 u) u := by
  unfold B_X9_readNumber_276
  refine KW5_bc (w5_F_X9_put.tr kw5_rf) (fun _ _ => ?_)
  exact KW5_some kw5_rf
theorem w5_B_X9_readNumber_254 {N : Nat} {l6 : Int32} {l8 : Int32} {l9 : Int64} {s0 : Int32} {u : CSt}  : KW5 (B_X9_readNumber_254 N l6 l8 l9 s0 u) u := by
  unfold B_X9_readNumber_254
  refine KW5_if ?_ ?_
  · skip
    exact w5_B_X9_readNumber_276.tr kw5_rf
  · skip
    exact w5_B_X9_readNumber_276.tr kw5_rf
theorem w5_B_X9_readNumber_249 {N : Nat} {l6 : Int32} {l8 : Int32} {l9 : Int64} {u : CSt}  : KW5 (B_X9_readNumber_249 N l6 l8 l9 u) u := by
  unfold B_X9_readNumber_249
  exact w5_B_X9_readNumber_254.tr kw5_rf
theorem w5_B_X9_readNumber_253 {N : Nat} {l6 : Int32} {l8 : Int32} {l9 : Int64} {u : CSt}  : KW5 (B_X9_readNumber_253 N l6 l8 l9 u) u := by
  unfold B_X9_readNumber_253
  exact w5_B_X9_readNumber_254.tr kw5_rf
theorem w5_B_X9_readNumber_178 {N : Nat} {l2 : Int32} {l3 : Int32} {l4 : Int32} {l5 : Int32} {l6 : Int32} {s0 : Int32} {u : CSt}  : KW5 (B_X9_readNumber_178 N l2 l3 l4 l5 l6 s0 u) u := by
  unfold B_X9_readNumber_178
  refine KW5_if ?_ ?_
  · skip
    refine KW5_bc (w5_F_X9_decimal.tr kw5_rf) (fun _ _ => ?_)
    refine KW5_if ?_ ?_
    · skip
      exact w5_B_X9_readNumber_249.tr kw5_rf
    · skip
      refine KW5_if ?_ ?_
      · skip
        refine KW5_if ?_ ?_
        · skip
          exact w5_B_X9_readNumber_253.tr kw5_rf
        · skip
          exact w5_B_X9_readNumber_249.tr kw5_rf
      · skip
        exact w5_B_X9_readNumber_253.tr kw5_rf
  · skip
    refine KW5_bc (w5_F_X9_hexBits.tr kw5_rf) (fun _ _ => ?_)
    refine KW5_if ?_ ?_
    · skip
      exact w5_B_X9_readNumber_211.tr kw5_rf
    · skip
      exact w5_B_X9_readNumber_211.tr kw5_rf
theorem w5_B_X9_readNumber_137 {N : Nat} {l2 : Int32} {l3 : Int32} {l4 : Int32} {l5 : Int32} {l6 : Int32} {s0 : Int32} {u : CSt}  : KW5 (B_X9_readNumber_137 N l2 l3 l4 l5 l6 s0 u) u := by
  unfold B_X9_readNumber_137
  refine KW5_if ?_ ?_
  · skip
    exact KW5_some kw5_rf
  · skip
    refine KW5_if ?_ ?_
    · skip
      exact KW5_some kw5_rf
    · skip
      refine KW5_bc (w5_F_X9_byteAt.tr kw5_rf) (fun _ _ => ?_)
      refine KW5_pb (fun _ => ?_)
      refine KW5_if ?_ ?_
      · skip
        refine KW5_if ?_ ?_
        · skip
          exact w5_B_X9_readNumber_178.tr kw5_rf
        · skip
          exact w5_B_X9_readNumber_178.tr kw5_rf
      · skip
        exact KW5_some kw5_rf
theorem w5_B_X9_readNumber_104 {N : Nat} {l2 : Int32} {l3 : Int32} {l4 : Int32} {l5 : Int32} {s0 : Int32} {u : CSt}  : KW5 (B_X9_readNumber_104 N l2 l3 l4 l5 s0 u) u := by
  unfold B_X9_readNumber_104
  refine KW5_if ?_ ?_
  · skip
    refine KW5_if ?_ ?_
    · skip
      exact w5_B_X9_readNumber_137.tr kw5_rf
    · skip
      exact w5_B_X9_readNumber_137.tr kw5_rf
  · skip
    refine KW5_if ?_ ?_
    · skip
      exact w5_B_X9_readNumber_137.tr kw5_rf
    · skip
      exact w5_B_X9_readNumber_137.tr kw5_rf
theorem w5_B_X9_readNumber_88 {N : Nat} {l2 : Int32} {l3 : Int32} {l4 : Int32} {s0 : Int32} {u : CSt}  : KW5 (B_X9_readNumber_88 N l2 l3 l4 s0 u) u := by
  unfold B_X9_readNumber_88
  refine KW5_if ?_ ?_
  · skip
    exact w5_B_X9_readNumber_104.tr kw5_rf
  · skip
    exact w5_B_X9_readNumber_104.tr kw5_rf
theorem w5_B_X9_readNumber_72 {N : Nat} {l2 : Int32} {l3 : Int32} {l4 : Int32} {u : CSt}  : KW5 (B_X9_readNumber_72 N l2 l3 l4 u) u := by
  unfold B_X9_readNumber_72
  refine KW5_bc (w5_F_X9_byteAt.tr kw5_rf) (fun _ _ => ?_)
  refine KW5_if ?_ ?_
  · skip
    exact w5_B_X9_readNumber_88.tr kw5_rf
  · skip
    exact w5_B_X9_readNumber_88.tr kw5_rf
theorem w5_B_X9_readNumber_43 {N : Nat} {R_43 : Int32 × Int32 × Int32 × CSt → Option (Int32 × CSt)} {l2 : Int32} {l3 : Int32} {l4 : Int32} {u : CSt} (h_R_43 : ∀ a, KW5 (R_43 a) a.2.2.2) : KW5 (B_X9_readNumber_43 N R_43 l2 l3 l4 u) u := by
  unfold B_X9_readNumber_43
  refine KW5_if ?_ ?_
  · skip
    exact w5_B_X9_readNumber_72.tr kw5_rf
  · skip
    refine KW5_bc (w5_F_X9_byteAt.tr kw5_rf) (fun _ _ => ?_)
    refine KW5_pb (fun _ => ?_)
    refine KW5_if ?_ ?_
    · skip
      exact w5_B_X9_readNumber_72.tr kw5_rf
    · skip
      exact (h_R_43 _).tr kw5_rf
theorem w5_LP_X9_readNumber_43 {N : Nat}  (n : Nat) : ∀ a : Int32 × Int32 × Int32 × CSt, KW5 (LP_X9_readNumber_43 N n a) a.2.2.2 := by
  induction n with
  | zero => exact fun a r z e => by have e : (none : Option _) = some (r, z) := e; cases e
  | succ n ih =>
    intro a
    show KW5 (B_X9_readNumber_43 N (LP_X9_readNumber_43 N n) a.1 a.2.1 a.2.2.1 a.2.2.2) a.2.2.2
    exact w5_B_X9_readNumber_43 ih
theorem w5_B_X9_readNumber_39 {N : Nat} {l2 : Int32} {s0 : Int32} {u : CSt}  : KW5 (B_X9_readNumber_39 N l2 s0 u) u := by
  unfold B_X9_readNumber_39
  exact (w5_LP_X9_readNumber_43  _ _).tr kw5_rf
theorem w5_B_X9_readNumber_27 {N : Nat} {l1 : Int32} {s0 : Int32} {u : CSt}  : KW5 (B_X9_readNumber_27 N l1 s0 u) u := by
  unfold B_X9_readNumber_27
  refine KW5_if ?_ ?_
  · skip
    exact w5_B_X9_readNumber_39.tr kw5_rf
  · skip
    exact w5_B_X9_readNumber_39.tr kw5_rf
theorem w5_B_X9_readNumber_26 {N : Nat} {l1 : Int32} {u : CSt}  : KW5 (B_X9_readNumber_26 N l1 u) u := by
  unfold B_X9_readNumber_26
  exact w5_B_X9_readNumber_27.tr kw5_rf
theorem w5_B_X9_readNumber_0 {N : Nat} {l1 : Int32} {u : CSt}  : KW5 (B_X9_readNumber_0 N l1 u) u := by
  unfold B_X9_readNumber_0
  refine KW5_bc (w5_F_X9_byteAt.tr kw5_rf) (fun _ _ => ?_)
  refine KW5_if ?_ ?_
  · skip
    refine KW5_bc (w5_F_X9_byteAt.tr kw5_rf) (fun _ _ => ?_)
    refine KW5_if ?_ ?_
    · skip
      exact w5_B_X9_readNumber_27.tr kw5_rf
    · skip
      exact w5_B_X9_readNumber_26.tr kw5_rf
  · skip
    exact w5_B_X9_readNumber_26.tr kw5_rf
theorem w5_F_X9_readNumber {N : Nat} {l1 : Int32} {u : CSt}  : KW5 (F_X9_readNumber N l1 u) u := by
  unfold F_X9_readNumber
  exact w5_B_X9_readNumber_0.tr kw5_rf
theorem w5_B_X9_readCharacter_0 {N : Nat} {l1 : Int32} {u : CSt}  : KW5 (B_X9_readCharacter_0 N l1 u) u := by
  unfold B_X9_readCharacter_0
  refine KW5_bc (w5_F_X9_byteAt.tr kw5_rf) (fun _ _ => ?_)
  refine KW5_if ?_ ?_
  · skip
    exact KW5_some kw5_rf
  · skip
    refine KW5_if ?_ ?_
    · skip
      exact KW5_some kw5_rf
    · skip
      refine KW5_bc (w5_F_X9_byteAt.tr kw5_rf) (fun _ _ => ?_)
      refine KW5_if ?_ ?_
      · skip
        refine KW5_bc (w5_F_X9_put.tr kw5_rf) (fun _ _ => ?_)
        exact KW5_some kw5_rf
      · skip
        exact KW5_some kw5_rf
theorem w5_F_X9_readCharacter {N : Nat} {l1 : Int32} {u : CSt}  : KW5 (F_X9_readCharacter N l1 u) u := by
  unfold F_X9_readCharacter
  exact w5_B_X9_readCharacter_0.tr kw5_rf
theorem w5_B_X9_readSign_98 {N : Nat} {l1 : Int32} {l3 : Int32} {l4 : Int32} {u : CSt}  : KW5 (B_X9_readSign_98 N l1 l3 l4 u) u := by
  unfold B_X9_readSign_98
  refine KW5_bc (w5_F_X9_put.tr kw5_rf) (fun _ _ => ?_)
  exact KW5_some kw5_rf
theorem w5_B_X9_readSign_65 {N : Nat} {l1 : Int32} {l2 : Int32} {l3 : Int32} {l4 : Int32} {u : CSt}  : KW5 (B_X9_readSign_65 N l1 l2 l3 l4 u) u := by
  unfold B_X9_readSign_65
  refine KW5_bc (w5_F_X9_byteAt.tr kw5_rf) (fun _ _ => ?_)
  refine KW5_if ?_ ?_
  · skip
    refine KW5_pb (fun _ => ?_)
    refine KW5_if ?_ ?_
    · skip
      exact w5_B_X9_readSign_98.tr kw5_rf
    · skip
      exact w5_B_X9_readSign_98.tr kw5_rf
  · skip
    exact w5_B_X9_readSign_98.tr kw5_rf
theorem w5_B_X9_readSign_33 {N : Nat} {R_33 : Int32 × Int32 × Int32 × Int32 × Int32 × CSt → Option (Int32 × CSt)} {l1 : Int32} {l2 : Int32} {l3 : Int32} {l4 : Int32} {l5 : Int32} {u : CSt} (h_R_33 : ∀ a, KW5 (R_33 a) a.2.2.2.2.2) : KW5 (B_X9_readSign_33 N R_33 l1 l2 l3 l4 l5 u) u := by
  unfold B_X9_readSign_33
  refine KW5_if ?_ ?_
  · skip
    exact w5_B_X9_readSign_65.tr kw5_rf
  · skip
    refine KW5_bc (w5_F_X9_byteAt.tr kw5_rf) (fun _ _ => ?_)
    refine KW5_if ?_ ?_
    · skip
      exact (h_R_33 _).tr kw5_rf
    · skip
      exact w5_B_X9_readSign_65.tr kw5_rf
theorem w5_LP_X9_readSign_33 {N : Nat}  (n : Nat) : ∀ a : Int32 × Int32 × Int32 × Int32 × Int32 × CSt, KW5 (LP_X9_readSign_33 N n a) a.2.2.2.2.2 := by
  induction n with
  | zero => exact fun a r z e => by have e : (none : Option _) = some (r, z) := e; cases e
  | succ n ih =>
    intro a
    show KW5 (B_X9_readSign_33 N (LP_X9_readSign_33 N n) a.1 a.2.1 a.2.2.1 a.2.2.2.1 a.2.2.2.2.1 a.2.2.2.2.2) a.2.2.2.2.2
    exact w5_B_X9_readSign_33 ih
theorem w5_B_X9_readSign_0 {N : Nat} {l1 : Int32} {u : CSt}  : KW5 (B_X9_readSign_0 N l1 u) u := by
  unfold B_X9_readSign_0
  refine KW5_bc (w5_F_X9_byteAt.tr kw5_rf) (fun _ _ => ?_)
  refine KW5_if ?_ ?_
  · skip
    exact KW5_some kw5_rf
  · skip
    refine KW5_if ?_ ?_
    · skip
      refine KW5_pb (fun _ => ?_)
      exact (w5_LP_X9_readSign_33  _ _).tr kw5_rf
    · skip
      exact KW5_some kw5_rf
theorem w5_F_X9_readSign {N : Nat} {l1 : Int32} {u : CSt}  : KW5 (F_X9_readSign N l1 u) u := by
  unfold F_X9_readSign
  exact w5_B_X9_readSign_0.tr kw5_rf
theorem w5_B_X9_readToken_34 {N : Nat} {l1 : Int32} {l2 : Int32} {u : CSt}  : KW5 (B_X9_readToken_34 N l1 l2 u) u := by
  unfold B_X9_readToken_34
  refine KW5_pb (fun _ => ?_)
  refine KW5_if ?_ ?_
  · skip
    refine KW5_if ?_ ?_
    · skip
      refine KW5_bc (w5_F_X9_readCharacter.tr kw5_rf) (fun _ _ => ?_)
      exact KW5_some kw5_rf
    · skip
      refine KW5_bc (w5_F_X9_readSign.tr kw5_rf) (fun _ _ => ?_)
      exact KW5_some kw5_rf
  · skip
    refine KW5_bc (w5_F_X9_readWord.tr kw5_rf) (fun _ _ => ?_)
    exact KW5_some kw5_rf
theorem w5_B_X9_readToken_0 {N : Nat} {l1 : Int32} {u : CSt}  : KW5 (B_X9_readToken_0 N l1 u) u := by
  unfold B_X9_readToken_0
  refine KW5_bc (w5_F_X9_byteAt.tr kw5_rf) (fun _ _ => ?_)
  refine KW5_wc ?_
  refine KW5_if ?_ ?_
  · skip
    exact w5_B_X9_readToken_34.tr (f5_xA kw5_rf)
  · skip
    refine KW5_if ?_ ?_
    · skip
      exact w5_B_X9_readToken_34.tr (f5_xA kw5_rf)
    · skip
      refine KW5_bc (w5_F_X9_readNumber.tr (f5_xA kw5_rf)) (fun _ _ => ?_)
      exact KW5_some kw5_rf
theorem w5_F_X9_readToken {N : Nat} {l1 : Int32} {u : CSt}  : KW5 (F_X9_readToken N l1 u) u := by
  unfold F_X9_readToken
  exact w5_B_X9_readToken_0.tr kw5_rf
theorem w5_B_X9_read_132 {N : Nat} {l2 : Int32} {s1 : Int32} {u : CSt}  : KW5 (B_X9_read_132 N l2 s1 u) u := by
  unfold B_X9_read_132
  refine KW5_bc (w5_F_X9_closeWith.tr kw5_rf) (fun _ _ => ?_)
  exact KW5_some kw5_rf
theorem w5_B_X9_read_93 {N : Nat} {l2 : Int32} {u : CSt}  : KW5 (B_X9_read_93 N l2 u) u := by
  unfold B_X9_read_93
  refine KW5_if ?_ ?_
  · skip
    refine KW5_bc (w5_F_X9_readToken.tr kw5_rf) (fun _ _ => ?_)
    refine KW5_if ?_ ?_
    · skip
      exact w5_B_X9_read_132.tr kw5_rf
    · skip
      exact w5_B_X9_read_132.tr kw5_rf
  · skip
    refine KW5_bc (w5_F_X9_closeWith.tr kw5_rf) (fun _ _ => ?_)
    exact KW5_some kw5_rf
theorem w5_B_X9_read_33 {N : Nat} {R_33 : Int32 × Int32 × CSt → Option (Int32 × CSt)} {l2 : Int32} {l3 : Int32} {u : CSt} (h_R_33 : ∀ a, KW5 (R_33 a) a.2.2) : KW5 (B_X9_read_33 N R_33 l2 l3 u) u := by
  unfold B_X9_read_33
  refine KW5_if ?_ ?_
  · skip
    exact w5_B_X9_read_93.tr kw5_rf
  · skip
    refine KW5_if ?_ ?_
    · skip
      exact w5_B_X9_read_93.tr kw5_rf
    · skip
      refine KW5_bc (w5_F_X9_readToken.tr kw5_rf) (fun _ _ => ?_)
      refine KW5_if ?_ ?_
      · skip
        refine KW5_pc ?_
        refine KW5_bc (w5_F_X9_behindGap.tr (f5_xI kw5_rf)) (fun _ _ => ?_)
        exact (h_R_33 _).tr kw5_rf
      · skip
        refine KW5_bc (w5_F_X9_closeWith.tr kw5_rf) (fun _ _ => ?_)
        exact KW5_some kw5_rf
theorem w5_LP_X9_read_33 {N : Nat}  (n : Nat) : ∀ a : Int32 × Int32 × CSt, KW5 (LP_X9_read_33 N n a) a.2.2 := by
  induction n with
  | zero => exact fun a r z e => by have e : (none : Option _) = some (r, z) := e; cases e
  | succ n ih =>
    intro a
    show KW5 (B_X9_read_33 N (LP_X9_read_33 N n) a.1 a.2.1 a.2.2) a.2.2
    exact w5_B_X9_read_33 ih
theorem w5_B_X9_read_0 {N : Nat} {l1 : Int32} {u : CSt}  : KW5 (B_X9_read_0 N l1 u) u := by
  unfold B_X9_read_0
  refine KW5_pc ?_
  refine KW5_pc ?_
  refine KW5_pc ?_
  refine KW5_pc ?_
  refine KW5_pc ?_
  refine KW5_bc (w5_F_X9_behindGap.tr (f5_xI (f5_xI (f5_xI (f5_xI (f5_xI kw5_rf)))))) (fun _ _ => ?_)
  exact (w5_LP_X9_read_33  _ _).tr kw5_rf
theorem w5_F_X9_read {N : Nat} {l1 : Int32} {u : CSt}  : KW5 (F_X9_read N l1 u) u := by
  unfold F_X9_read
  exact w5_B_X9_read_0.tr kw5_rf
theorem w5_B_X6_hasRoomFor_58 {N : Nat} {u : CSt}  : KW5 (B_X6_hasRoomFor_58 N u) u := by
  unfold B_X6_hasRoomFor_58
  exact KW5_some kw5_rf
theorem w5_B_X6_hasRoomFor_0 {N : Nat} {l0 : Nat} {l1 : Int32} {u : CSt}  : KW5 (B_X6_hasRoomFor_0 N l0 l1 u) u := by
  unfold B_X6_hasRoomFor_0
  refine KW5_if ?_ ?_
  · skip
    refine KW5_if ?_ ?_
    · skip
      refine KW5_bc (w5_F_X6_name.tr kw5_rf) (fun _ _ => ?_)
      refine KW5_ok ?_
      refine KW5_if ?_ ?_
      · skip
        exact KW5_some kw5_rf
      · skip
        exact KW5_some kw5_rf
    · skip
      refine KW5_if ?_ ?_
      · skip
        exact w5_B_X6_hasRoomFor_58.tr kw5_rf
      · skip
        refine KW5_rd (fun _ => ?_)
        refine KW5_rd (fun _ => ?_)
        refine KW5_if ?_ ?_
        · skip
          exact KW5_some kw5_rf
        · skip
          exact w5_B_X6_hasRoomFor_58.tr kw5_rf
  · skip
    exact KW5_some kw5_rf
theorem w5_F_X6_hasRoomFor {N : Nat} {l0 : Nat} {l1 : Int32} {u : CSt}  : KW5 (F_X6_hasRoomFor N l0 l1 u) u := by
  unfold F_X6_hasRoomFor
  exact w5_B_X6_hasRoomFor_0.tr kw5_rf
theorem w5_B_X6_empty_0 {N : Nat} {l0 : Nat} {u : CSt}  : KW5 (B_X6_empty_0 N l0 u) u := by
  unfold B_X6_empty_0
  refine KW5_pc ?_
  refine KW5_pc ?_
  refine KW5_pc ?_
  refine KW5_pc ?_
  refine KW5_pc ?_
  exact KW5_some (f5_xpF (f5_xpI (f5_xpI (f5_xpI (f5_xpI kw5_rf)))))
theorem w5_F_X6_empty {N : Nat} {l0 : Nat} {u : CSt}  : KW5 (F_X6_empty N l0 u) u := by
  unfold F_X6_empty
  exact w5_B_X6_empty_0.tr kw5_rf
theorem w5_B_X0_opens_27 {N : Nat} {u : CSt}  : KW5 (B_X0_opens_27 N u) u := by
  unfold B_X0_opens_27
  refine KW5_pc ?_
  refine KW5_bc (w5_F_X9_next.tr (f5_xI kw5_rf)) (fun _ _ => ?_)
  exact KW5_some kw5_rf
theorem w5_B_X0_opens_20 {N : Nat} {u : CSt}  : KW5 (B_X0_opens_20 N u) u := by
  unfold B_X0_opens_20
  refine KW5_bt (w5_F_X9_refuseToken.tr kw5_rf) (fun _ _ => ?_)
  exact w5_B_X0_opens_27.tr kw5_rf
theorem w5_B_X0_opens_0 {N : Nat} {l1 : Int32} {u : CSt}  : KW5 (B_X0_opens_0 N l1 u) u := by
  unfold B_X0_opens_0
  refine KW5_bc (w5_F_X9_is.tr kw5_rf) (fun _ _ => ?_)
  refine KW5_if ?_ ?_
  · skip
    exact w5_B_X0_opens_20.tr kw5_rf
  · skip
    refine KW5_if ?_ ?_
    · skip
      exact w5_B_X0_opens_27.tr kw5_rf
    · skip
      exact w5_B_X0_opens_20.tr kw5_rf
theorem w5_F_X0_opens {N : Nat} {l1 : Int32} {u : CSt}  : KW5 (F_X0_opens N l1 u) u := by
  unfold F_X0_opens
  exact w5_B_X0_opens_0.tr kw5_rf
theorem w5_B_X0_closes_0 {N : Nat} {l1 : Int32} {u : CSt}  : KW5 (B_X0_closes_0 N l1 u) u := by
  unfold B_X0_closes_0
  refine KW5_bt (w5_F_X9_take.tr kw5_rf) (fun _ _ => ?_)
  refine KW5_pc ?_
  exact KW5_some (f5_xI kw5_rf)
theorem w5_F_X0_closes {N : Nat} {l1 : Int32} {u : CSt}  : KW5 (F_X0_closes N l1 u) u := by
  unfold F_X0_closes
  exact w5_B_X0_closes_0.tr kw5_rf
theorem w5_B_X0_kind_17 {N : Nat} {u : CSt}  : KW5 (B_X0_kind_17 N u) u := by
  unfold B_X0_kind_17
  refine KW5_bc (w5_F_X9_next.tr kw5_rf) (fun _ _ => ?_)
  exact KW5_some kw5_rf
theorem w5_B_X0_kind_0 {N : Nat} {u : CSt}  : KW5 (B_X0_kind_0 N u) u := by
  unfold B_X0_kind_0
  refine KW5_bc (w5_F_X9_isKindWord.tr kw5_rf) (fun _ _ => ?_)
  refine KW5_if ?_ ?_
  · skip
    refine KW5_bt (w5_F_X9_refuseToken.tr kw5_rf) (fun _ _ => ?_)
    exact w5_B_X0_kind_17.tr kw5_rf
  · skip
    exact w5_B_X0_kind_17.tr kw5_rf
theorem w5_F_X0_kind {N : Nat} {u : CSt}  : KW5 (F_X0_kind N u) u := by
  unfold F_X0_kind
  exact w5_B_X0_kind_0.tr kw5_rf
theorem w5_B_X0_constant_52 {N : Nat} {u : CSt}  : KW5 (B_X0_constant_52 N u) u := by
  unfold B_X0_constant_52
  refine KW5_bc (w5_F_X9_next.tr kw5_rf) (fun _ _ => ?_)
  exact KW5_some kw5_rf
theorem w5_B_X0_constant_19 {N : Nat} {u : CSt}  : KW5 (B_X0_constant_19 N u) u := by
  unfold B_X0_constant_19
  refine KW5_bc (w5_F_X9_is.tr kw5_rf) (fun _ _ => ?_)
  refine KW5_if ?_ ?_
  · skip
    refine KW5_bc (w5_F_X9_is.tr kw5_rf) (fun _ _ => ?_)
    refine KW5_if ?_ ?_
    · skip
      refine KW5_bt (w5_F_X9_refuseToken.tr kw5_rf) (fun _ _ => ?_)
      exact w5_B_X0_constant_52.tr kw5_rf
    · skip
      exact w5_B_X0_constant_52.tr kw5_rf
  · skip
    exact w5_B_X0_constant_52.tr kw5_rf
theorem w5_B_X0_constant_0 {N : Nat} {u : CSt}  : KW5 (B_X0_constant_0 N u) u := by
  unfold B_X0_constant_0
  refine KW5_bc (w5_F_X9_is.tr kw5_rf) (fun _ _ => ?_)
  refine KW5_if ?_ ?_
  · skip
    exact w5_B_X0_constant_19.tr kw5_rf
  · skip
    refine KW5_bc (w5_F_X9_next.tr kw5_rf) (fun _ _ => ?_)
    exact w5_B_X0_constant_19.tr kw5_rf
theorem w5_F_X0_constant {N : Nat} {u : CSt}  : KW5 (F_X0_constant N u) u := by
  unfold F_X0_constant
  exact w5_B_X0_constant_0.tr kw5_rf
theorem w5_B_X0_oneVariable_44 {N : Nat} {u : CSt}  : KW5 (B_X0_oneVariable_44 N u) u := by
  unfold B_X0_oneVariable_44
  refine KW5_bc (w5_F_X9_is.tr kw5_rf) (fun _ _ => ?_)
  refine KW5_if ?_ ?_
  · skip
    exact KW5_some kw5_rf
  · skip
    refine KW5_bc (w5_F_X9_next.tr kw5_rf) (fun _ _ => ?_)
    refine KW5_bt (w5_F_X0_constant.tr kw5_rf) (fun _ _ => ?_)
    exact KW5_some kw5_rf
theorem w5_B_X0_oneVariable_0 {N : Nat} {u : CSt}  : KW5 (B_X0_oneVariable_0 N u) u := by
  unfold B_X0_oneVariable_0
  refine KW5_bt (w5_F_X9_take.tr kw5_rf) (fun _ _ => ?_)
  refine KW5_bc (w5_F_X9_is.tr kw5_rf) (fun _ _ => ?_)
  refine KW5_if ?_ ?_
  · skip
    exact w5_B_X0_oneVariable_44.tr kw5_rf
  · skip
    refine KW5_bt (w5_F_X0_opens.tr kw5_rf) (fun _ _ => ?_)
    refine KW5_bt (w5_F_X9_take.tr kw5_rf) (fun _ _ => ?_)
    refine KW5_bt (w5_F_X0_closes.tr kw5_rf) (fun _ _ => ?_)
    exact w5_B_X0_oneVariable_44.tr kw5_rf
theorem w5_F_X0_oneVariable {N : Nat} {u : CSt}  : KW5 (F_X0_oneVariable N u) u := by
  unfold F_X0_oneVariable
  exact w5_B_X0_oneVariable_0.tr kw5_rf
theorem w5_B_X0_variables_53 {N : Nat} {u : CSt}  : KW5 (B_X0_variables_53 N u) u := by
  unfold B_X0_variables_53
  refine KW5_bt (w5_F_X9_take.tr kw5_rf) (fun _ _ => ?_)
  exact KW5_some kw5_rf
theorem w5_B_X0_variables_17 {N : Nat} {R_17 : Int32 × CSt → Option ((Sum Nat Int32) × CSt)} {l1 : Int32} {u : CSt} (h_R_17 : ∀ a, KW5 (R_17 a) a.2) : KW5 (B_X0_variables_17 N R_17 l1 u) u := by
  unfold B_X0_variables_17
  refine KW5_if ?_ ?_
  · skip
    exact w5_B_X0_variables_53.tr kw5_rf
  · skip
    refine KW5_bc (w5_F_X9_is.tr kw5_rf) (fun _ _ => ?_)
    refine KW5_if ?_ ?_
    · skip
      exact w5_B_X0_variables_53.tr kw5_rf
    · skip
      refine KW5_bc (w5_F_X9_next.tr kw5_rf) (fun _ _ => ?_)
      refine KW5_bt (w5_F_X0_oneVariable.tr kw5_rf) (fun _ _ => ?_)
      exact (h_R_17 _).tr kw5_rf
theorem w5_LP_X0_variables_17 {N : Nat}  (n : Nat) : ∀ a : Int32 × CSt, KW5 (LP_X0_variables_17 N n a) a.2 := by
  induction n with
  | zero => exact fun a r z e => by have e : (none : Option _) = some (r, z) := e; cases e
  | succ n ih =>
    intro a
    show KW5 (B_X0_variables_17 N (LP_X0_variables_17 N n) a.1 a.2) a.2
    exact w5_B_X0_variables_17 ih
theorem w5_B_X0_variables_0 {N : Nat} {u : CSt}  : KW5 (B_X0_variables_0 N u) u := by
  unfold B_X0_variables_0
  refine KW5_bc (w5_F_X9_next.tr kw5_rf) (fun _ _ => ?_)
  refine KW5_bt (w5_F_X0_kind.tr kw5_rf) (fun _ _ => ?_)
  refine KW5_bt (w5_F_X0_oneVariable.tr kw5_rf) (fun _ _ => ?_)
  exact (w5_LP_X0_variables_17  _ _).tr kw5_rf
theorem w5_F_X0_variables {N : Nat} {u : CSt}  : KW5 (F_X0_variables N u) u := by
  unfold F_X0_variables
  exact w5_B_X0_variables_0.tr kw5_rf
theorem w5_B_X0_placed_0 {N : Nat} {u : CSt}  : KW5 (B_X0_placed_0 N u) u := by
  unfold B_X0_placed_0
  refine KW5_bc (w5_F_X9_next.tr kw5_rf) (fun _ _ => ?_)
  refine KW5_bt (w5_F_X0_kind.tr kw5_rf) (fun _ _ => ?_)
  refine KW5_bt (w5_F_X9_take.tr kw5_rf) (fun _ _ => ?_)
  refine KW5_bt (w5_F_X9_take.tr kw5_rf) (fun _ _ => ?_)
  refine KW5_bt (w5_F_X9_take.tr kw5_rf) (fun _ _ => ?_)
  refine KW5_bt (w5_F_X9_take.tr kw5_rf) (fun _ _ => ?_)
  exact KW5_some kw5_rf
theorem w5_F_X0_placed {N : Nat} {u : CSt}  : KW5 (F_X0_placed N u) u := by
  unfold F_X0_placed
  exact w5_B_X0_placed_0.tr kw5_rf
theorem w5_B_X0_uses_71 {N : Nat} {u : CSt}  : KW5 (B_X0_uses_71 N u) u := by
  unfold B_X0_uses_71
  refine KW5_bt (w5_F_X9_take.tr kw5_rf) (fun _ _ => ?_)
  exact KW5_some kw5_rf
theorem w5_B_X0_uses_29 {N : Nat} {R_29 : Int32 × CSt → Option ((Sum Nat Int32) × CSt)} {l1 : Int32} {u : CSt} (h_R_29 : ∀ a, KW5 (R_29 a) a.2) : KW5 (B_X0_uses_29 N R_29 l1 u) u := by
  unfold B_X0_uses_29
  refine KW5_if ?_ ?_
  · skip
    exact w5_B_X0_uses_71.tr kw5_rf
  · skip
    refine KW5_bc (w5_F_X9_is.tr kw5_rf) (fun _ _ => ?_)
    refine KW5_if ?_ ?_
    · skip
      exact w5_B_X0_uses_71.tr kw5_rf
    · skip
      refine KW5_bc (w5_F_X9_next.tr kw5_rf) (fun _ _ => ?_)
      refine KW5_bt (w5_F_X9_take.tr kw5_rf) (fun _ _ => ?_)
      exact (h_R_29 _).tr kw5_rf
theorem w5_LP_X0_uses_29 {N : Nat}  (n : Nat) : ∀ a : Int32 × CSt, KW5 (LP_X0_uses_29 N n a) a.2 := by
  induction n with
  | zero => exact fun a r z e => by have e : (none : Option _) = some (r, z) := e; cases e
  | succ n ih =>
    intro a
    show KW5 (B_X0_uses_29 N (LP_X0_uses_29 N n) a.1 a.2) a.2
    exact w5_B_X0_uses_29 ih
theorem w5_B_X0_uses_0 {N : Nat} {u : CSt}  : KW5 (B_X0_uses_0 N u) u := by
  unfold B_X0_uses_0
  refine KW5_bc (w5_F_X9_next.tr kw5_rf) (fun _ _ => ?_)
  refine KW5_bt (w5_F_X9_take.tr kw5_rf) (fun _ _ => ?_)
  refine KW5_bt (w5_F_X9_take.tr kw5_rf) (fun _ _ => ?_)
  exact (w5_LP_X0_uses_29  _ _).tr kw5_rf
theorem w5_F_X0_uses {N : Nat} {u : CSt}  : KW5 (F_X0_uses N u) u := by
  unfold F_X0_uses
  exact w5_B_X0_uses_0.tr kw5_rf
theorem w5_B_X0_label_0 {N : Nat} {u : CSt}  : KW5 (B_X0_label_0 N u) u := by
  unfold B_X0_label_0
  refine KW5_bt (w5_F_X0_constant.tr kw5_rf) (fun _ _ => ?_)
  refine KW5_bc (w5_F_X9_is.tr kw5_rf) (fun _ _ => ?_)
  refine KW5_if ?_ ?_
  · skip
    exact KW5_some kw5_rf
  · skip
    refine KW5_bc (w5_F_X9_next.tr kw5_rf) (fun _ _ => ?_)
    refine KW5_bt (w5_F_X0_constant.tr kw5_rf) (fun _ _ => ?_)
    exact KW5_some kw5_rf
theorem w5_F_X0_label {N : Nat} {u : CSt}  : KW5 (F_X0_label N u) u := by
  unfold F_X0_label
  exact w5_B_X0_label_0.tr kw5_rf
theorem w5_B_X0_bit_0 {N : Nat} {u : CSt}  : KW5 (B_X0_bit_0 N u) u := by
  unfold B_X0_bit_0
  refine KW5_bc (w5_F_X9_is.tr kw5_rf) (fun _ _ => ?_)
  refine KW5_if ?_ ?_
  · skip
    exact KW5_some kw5_rf
  · skip
    refine KW5_bc (w5_F_X9_next.tr kw5_rf) (fun _ _ => ?_)
    refine KW5_bt (w5_F_X9_take.tr kw5_rf) (fun _ _ => ?_)
    exact KW5_some kw5_rf
theorem w5_F_X0_bit {N : Nat} {u : CSt}  : KW5 (F_X0_bit N u) u := by
  unfold F_X0_bit
  exact w5_B_X0_bit_0.tr kw5_rf
theorem w5_B_X0_expression_43 {N : Nat} {ro : Nat → Nat → Int32 → Int32 → CSt → Option (Sum Nat Int32 × CSt)} {u : CSt} (h_ro : ∀ q z a b u, KW5 (ro q z a b u) u) : KW5 (B_X0_expression_43 N ro u) u := by
  unfold B_X0_expression_43
  refine KW5_bc (w5_F_X9_is.tr kw5_rf) (fun _ _ => ?_)
  refine KW5_if ?_ ?_
  · skip
    exact KW5_some kw5_rf
  · skip
    refine KW5_bt (w5_F_X0_opens.tr kw5_rf) (fun _ _ => ?_)
    refine KW5_bt ((h_ro _ _ _ _ _).tr kw5_rf) (fun _ _ => ?_)
    refine KW5_bt (w5_F_X9_take.tr kw5_rf) (fun _ _ => ?_)
    refine KW5_bt ((h_ro _ _ _ _ _).tr kw5_rf) (fun _ _ => ?_)
    refine KW5_pc ?_
    exact KW5_some (f5_xI kw5_rf)
theorem w5_B_X0_expression_6 {N : Nat} {ro : Nat → Nat → Int32 → Int32 → CSt → Option (Sum Nat Int32 × CSt)} {R_6 : Int32 × CSt → Option ((Sum Nat Int32) × CSt)} {l1 : Int32} {u : CSt} (h_ro : ∀ q z a b u, KW5 (ro q z a b u) u) (h_R_6 : ∀ a, KW5 (R_6 a) a.2) : KW5 (B_X0_expression_6 N ro R_6 l1 u) u := by
  unfold B_X0_expression_6
  refine KW5_if ?_ ?_
  · skip
    exact (w5_B_X0_expression_43 h_ro).tr kw5_rf
  · skip
    refine KW5_bc (w5_F_X9_type.tr kw5_rf) (fun _ _ => ?_)
    refine KW5_pb (fun _ => ?_)
    refine KW5_if ?_ ?_
    · skip
      exact (w5_B_X0_expression_43 h_ro).tr kw5_rf
    · skip
      refine KW5_bc (w5_F_X9_next.tr kw5_rf) (fun _ _ => ?_)
      refine KW5_bt ((h_ro _ _ _ _ _).tr kw5_rf) (fun _ _ => ?_)
      exact (h_R_6 _).tr kw5_rf
theorem w5_LP_X0_expression_6 {N : Nat} {ro : Nat → Nat → Int32 → Int32 → CSt → Option (Sum Nat Int32 × CSt)} (h_ro : ∀ q z a b u, KW5 (ro q z a b u) u) (n : Nat) : ∀ a : Int32 × CSt, KW5 (LP_X0_expression_6 N ro n a) a.2 := by
  induction n with
  | zero => exact fun a r z e => by have e : (none : Option _) = some (r, z) := e; cases e
  | succ n ih =>
    intro a
    show KW5 (B_X0_expression_6 N ro (LP_X0_expression_6 N ro n) a.1 a.2) a.2
    exact w5_B_X0_expression_6 h_ro ih
theorem w5_B_X0_expression_0 {N : Nat} {ro : Nat → Nat → Int32 → Int32 → CSt → Option (Sum Nat Int32 × CSt)} {u : CSt} (h_ro : ∀ q z a b u, KW5 (ro q z a b u) u) : KW5 (B_X0_expression_0 N ro u) u := by
  unfold B_X0_expression_0
  refine KW5_bt ((h_ro _ _ _ _ _).tr kw5_rf) (fun _ _ => ?_)
  exact (w5_LP_X0_expression_6 h_ro _ _).tr kw5_rf
theorem w5_F_X0_expression {N : Nat} {ro : Nat → Nat → Int32 → Int32 → CSt → Option (Sum Nat Int32 × CSt)} {u : CSt} (h_ro : ∀ q z a b u, KW5 (ro q z a b u) u) : KW5 (F_X0_expression N ro u) u := by
  unfold F_X0_expression
  exact (w5_B_X0_expression_0 h_ro).tr kw5_rf
theorem w5_B_X0_operand_0 {N : Nat} {ro : Nat → Nat → Int32 → Int32 → CSt → Option (Sum Nat Int32 × CSt)} {u : CSt} (h_ro : ∀ q z a b u, KW5 (ro q z a b u) u) : KW5 (B_X0_operand_0 N ro u) u := by
  unfold B_X0_operand_0
  refine KW5_bc (w5_F_X9_type.tr kw5_rf) (fun _ _ => ?_)
  refine KW5_if ?_ ?_
  · skip
    refine KW5_bc (w5_F_X9_next.tr kw5_rf) (fun _ _ => ?_)
    exact KW5_some kw5_rf
  · skip
    refine KW5_if ?_ ?_
    · skip
      refine KW5_bc (w5_F_X9_type.tr kw5_rf) (fun _ _ => ?_)
      refine KW5_bt (w5_F_X0_opens.tr kw5_rf) (fun _ _ => ?_)
      refine KW5_bt ((h_ro _ _ _ _ _).tr kw5_rf) (fun _ _ => ?_)
      refine KW5_pc ?_
      exact KW5_some (f5_xI kw5_rf)
    · skip
      refine KW5_if ?_ ?_
      · skip
        refine KW5_bt ((h_ro _ _ _ _ _).tr kw5_rf) (fun _ _ => ?_)
        exact KW5_some kw5_rf
      · skip
        refine KW5_if ?_ ?_
        · skip
          refine KW5_bc (w5_F_X9_type.tr kw5_rf) (fun _ _ => ?_)
          refine KW5_bt (w5_F_X0_opens.tr kw5_rf) (fun _ _ => ?_)
          refine KW5_bt ((h_ro _ _ _ _ _).tr kw5_rf) (fun _ _ => ?_)
          refine KW5_pc ?_
          exact KW5_some (f5_xI kw5_rf)
        · skip
          refine KW5_if ?_ ?_
          · skip
            refine KW5_bc (w5_F_X9_type.tr kw5_rf) (fun _ _ => ?_)
            refine KW5_bt (w5_F_X0_opens.tr kw5_rf) (fun _ _ => ?_)
            refine KW5_bt ((h_ro _ _ _ _ _).tr kw5_rf) (fun _ _ => ?_)
            refine KW5_pc ?_
            exact KW5_some (f5_xI kw5_rf)
          · skip
            refine KW5_if ?_ ?_
            · skip
              refine KW5_bt ((h_ro _ _ _ _ _).tr kw5_rf) (fun _ _ => ?_)
              exact KW5_some kw5_rf
            · skip
              refine KW5_if ?_ ?_
              · skip
                refine KW5_bc (w5_F_X9_next.tr kw5_rf) (fun _ _ => ?_)
                exact KW5_some kw5_rf
              · skip
                refine KW5_if ?_ ?_
                · skip
                  refine KW5_bc (w5_F_X9_next.tr kw5_rf) (fun _ _ => ?_)
                  exact KW5_some kw5_rf
                · skip
                  refine KW5_bt (w5_F_X9_refuseToken.tr kw5_rf) (fun _ _ => ?_)
                  exact KW5_some kw5_rf
theorem w5_F_X0_operand {N : Nat} {ro : Nat → Nat → Int32 → Int32 → CSt → Option (Sum Nat Int32 × CSt)} {u : CSt} (h_ro : ∀ q z a b u, KW5 (ro q z a b u) u) : KW5 (F_X0_operand N ro u) u := by
  unfold F_X0_operand
  exact (w5_B_X0_operand_0 h_ro).tr kw5_rf
theorem w5_B_X0_bracket_0 {N : Nat} {ro : Nat → Nat → Int32 → Int32 → CSt → Option (Sum Nat Int32 × CSt)} {u : CSt} (h_ro : ∀ q z a b u, KW5 (ro q z a b u) u) : KW5 (B_X0_bracket_0 N ro u) u := by
  unfold B_X0_bracket_0
  refine KW5_bt (w5_F_X0_opens.tr kw5_rf) (fun _ _ => ?_)
  refine KW5_bc (w5_F_X9_isKindWord.tr kw5_rf) (fun _ _ => ?_)
  refine KW5_if ?_ ?_
  · skip
    refine KW5_bt ((h_ro _ _ _ _ _).tr kw5_rf) (fun _ _ => ?_)
    refine KW5_bt (w5_F_X0_closes.tr kw5_rf) (fun _ _ => ?_)
    exact KW5_some kw5_rf
  · skip
    refine KW5_bc (w5_F_X9_next.tr kw5_rf) (fun _ _ => ?_)
    refine KW5_bt (w5_F_X9_take.tr kw5_rf) (fun _ _ => ?_)
    refine KW5_bt ((h_ro _ _ _ _ _).tr kw5_rf) (fun _ _ => ?_)
    refine KW5_pc ?_
    exact KW5_some (f5_xI kw5_rf)
theorem w5_F_X0_bracket {N : Nat} {ro : Nat → Nat → Int32 → Int32 → CSt → Option (Sum Nat Int32 × CSt)} {u : CSt} (h_ro : ∀ q z a b u, KW5 (ro q z a b u) u) : KW5 (F_X0_bracket N ro u) u := by
  unfold F_X0_bracket
  exact (w5_B_X0_bracket_0 h_ro).tr kw5_rf
theorem w5_B_X0_namedOperand_73 {N : Nat} {ro : Nat → Nat → Int32 → Int32 → CSt → Option (Sum Nat Int32 × CSt)} {u : CSt} (h_ro : ∀ q z a b u, KW5 (ro q z a b u) u) : KW5 (B_X0_namedOperand_73 N ro u) u := by
  unfold B_X0_namedOperand_73
  refine KW5_bt ((h_ro _ _ _ _ _).tr kw5_rf) (fun _ _ => ?_)
  refine KW5_bt (w5_F_X0_bit.tr kw5_rf) (fun _ _ => ?_)
  exact KW5_some kw5_rf
theorem w5_B_X0_namedOperand_0 {N : Nat} {ro : Nat → Nat → Int32 → Int32 → CSt → Option (Sum Nat Int32 × CSt)} {u : CSt} (h_ro : ∀ q z a b u, KW5 (ro q z a b u) u) : KW5 (B_X0_namedOperand_0 N ro u) u := by
  unfold B_X0_namedOperand_0
  refine KW5_bc (w5_F_X9_next.tr kw5_rf) (fun _ _ => ?_)
  refine KW5_bc (w5_F_X9_is.tr kw5_rf) (fun _ _ => ?_)
  refine KW5_if ?_ ?_
  · skip
    refine KW5_bc (w5_F_X9_is.tr kw5_rf) (fun _ _ => ?_)
    refine KW5_if ?_ ?_
    · skip
      exact (w5_B_X0_namedOperand_73 h_ro).tr kw5_rf
    · skip
      refine KW5_bc (w5_F_X9_typeAhead.tr kw5_rf) (fun _ _ => ?_)
      refine KW5_if ?_ ?_
      · skip
        refine KW5_bc (w5_F_X9_next.tr kw5_rf) (fun _ _ => ?_)
        refine KW5_bc (w5_F_X9_next.tr kw5_rf) (fun _ _ => ?_)
        refine KW5_bt ((h_ro _ _ _ _ _).tr kw5_rf) (fun _ _ => ?_)
        exact KW5_some kw5_rf
      · skip
        exact (w5_B_X0_namedOperand_73 h_ro).tr kw5_rf
  · skip
    refine KW5_bt ((h_ro _ _ _ _ _).tr kw5_rf) (fun _ _ => ?_)
    exact KW5_some kw5_rf
theorem w5_F_X0_namedOperand {N : Nat} {ro : Nat → Nat → Int32 → Int32 → CSt → Option (Sum Nat Int32 × CSt)} {u : CSt} (h_ro : ∀ q z a b u, KW5 (ro q z a b u) u) : KW5 (F_X0_namedOperand N ro u) u := by
  unfold F_X0_namedOperand
  exact (w5_B_X0_namedOperand_0 h_ro).tr kw5_rf
theorem w5_B_X0_arguments_60 {N : Nat} {ro : Nat → Nat → Int32 → Int32 → CSt → Option (Sum Nat Int32 × CSt)} {u : CSt} (h_ro : ∀ q z a b u, KW5 (ro q z a b u) u) : KW5 (B_X0_arguments_60 N ro u) u := by
  unfold B_X0_arguments_60
  refine KW5_bt (w5_F_X0_closes.tr kw5_rf) (fun _ _ => ?_)
  exact KW5_some kw5_rf
theorem w5_B_X0_arguments_24 {N : Nat} {ro : Nat → Nat → Int32 → Int32 → CSt → Option (Sum Nat Int32 × CSt)} {R_24 : Int32 × CSt → Option ((Sum Nat Int32) × CSt)} {l1 : Int32} {u : CSt} (h_ro : ∀ q z a b u, KW5 (ro q z a b u) u) (h_R_24 : ∀ a, KW5 (R_24 a) a.2) : KW5 (B_X0_arguments_24 N ro R_24 l1 u) u := by
  unfold B_X0_arguments_24
  refine KW5_if ?_ ?_
  · skip
    exact (w5_B_X0_arguments_60 h_ro).tr kw5_rf
  · skip
    refine KW5_bc (w5_F_X9_is.tr kw5_rf) (fun _ _ => ?_)
    refine KW5_if ?_ ?_
    · skip
      exact (w5_B_X0_arguments_60 h_ro).tr kw5_rf
    · skip
      refine KW5_bc (w5_F_X9_next.tr kw5_rf) (fun _ _ => ?_)
      refine KW5_bt ((h_ro _ _ _ _ _).tr kw5_rf) (fun _ _ => ?_)
      exact (h_R_24 _).tr kw5_rf
theorem w5_LP_X0_arguments_24 {N : Nat} {ro : Nat → Nat → Int32 → Int32 → CSt → Option (Sum Nat Int32 × CSt)} (h_ro : ∀ q z a b u, KW5 (ro q z a b u) u) (n : Nat) : ∀ a : Int32 × CSt, KW5 (LP_X0_arguments_24 N ro n a) a.2 := by
  induction n with
  | zero => exact fun a r z e => by have e : (none : Option _) = some (r, z) := e; cases e
  | succ n ih =>
    intro a
    show KW5 (B_X0_arguments_24 N ro (LP_X0_arguments_24 N ro n) a.1 a.2) a.2
    exact w5_B_X0_arguments_24 h_ro ih
theorem w5_B_X0_arguments_22 {N : Nat} {ro : Nat → Nat → Int32 → Int32 → CSt → Option (Sum Nat Int32 × CSt)} {u : CSt} (h_ro : ∀ q z a b u, KW5 (ro q z a b u) u) : KW5 (B_X0_arguments_22 N ro u) u := by
  unfold B_X0_arguments_22
  exact (w5_LP_X0_arguments_24 h_ro _ _).tr kw5_rf
theorem w5_B_X0_arguments_0 {N : Nat} {ro : Nat → Nat → Int32 → Int32 → CSt → Option (Sum Nat Int32 × CSt)} {u : CSt} (h_ro : ∀ q z a b u, KW5 (ro q z a b u) u) : KW5 (B_X0_arguments_0 N ro u) u := by
  unfold B_X0_arguments_0
  refine KW5_bt (w5_F_X0_opens.tr kw5_rf) (fun _ _ => ?_)
  refine KW5_bc (w5_F_X9_is.tr kw5_rf) (fun _ _ => ?_)
  refine KW5_if ?_ ?_
  · skip
    refine KW5_bt ((h_ro _ _ _ _ _).tr kw5_rf) (fun _ _ => ?_)
    exact (w5_B_X0_arguments_22 h_ro).tr kw5_rf
  · skip
    exact (w5_B_X0_arguments_22 h_ro).tr kw5_rf
theorem w5_F_X0_arguments {N : Nat} {ro : Nat → Nat → Int32 → Int32 → CSt → Option (Sum Nat Int32 × CSt)} {u : CSt} (h_ro : ∀ q z a b u, KW5 (ro q z a b u) u) : KW5 (F_X0_arguments N ro u) u := by
  unfold F_X0_arguments
  exact (w5_B_X0_arguments_0 h_ro).tr kw5_rf
theorem w5_B_X0_index_0 {N : Nat} {ro : Nat → Nat → Int32 → Int32 → CSt → Option (Sum Nat Int32 × CSt)} {u : CSt} (h_ro : ∀ q z a b u, KW5 (ro q z a b u) u) : KW5 (B_X0_index_0 N ro u) u := by
  unfold B_X0_index_0
  refine KW5_bc (w5_F_X9_is.tr kw5_rf) (fun _ _ => ?_)
  refine KW5_if ?_ ?_
  · skip
    exact KW5_some kw5_rf
  · skip
    refine KW5_bt (w5_F_X0_opens.tr kw5_rf) (fun _ _ => ?_)
    refine KW5_bt ((h_ro _ _ _ _ _).tr kw5_rf) (fun _ _ => ?_)
    refine KW5_bt (w5_F_X0_closes.tr kw5_rf) (fun _ _ => ?_)
    exact KW5_some kw5_rf
theorem w5_F_X0_index {N : Nat} {ro : Nat → Nat → Int32 → Int32 → CSt → Option (Sum Nat Int32 × CSt)} {u : CSt} (h_ro : ∀ q z a b u, KW5 (ro q z a b u) u) : KW5 (F_X0_index N ro u) u := by
  unfold F_X0_index
  exact (w5_B_X0_index_0 h_ro).tr kw5_rf
theorem w5_FGE_ {N : Nat} : ∀ (d q z : Nat) (a b : Int32) (u : CSt), KW5 (FGE_ N d q z a b u) u := by
  intro d
  induction d with
  | zero => exact fun q z a b u => KW5_none
  | succ d ih =>
    intro q z a b u
    show KW5 (if q = 0 then F_X0_expression N (FGE_ N d) u else if q = 1 then F_X0_operand N (FGE_ N d) u else if q = 2 then F_X0_bracket N (FGE_ N d) u else if q = 3 then F_X0_namedOperand N (FGE_ N d) u else if q = 4 then F_X0_arguments N (FGE_ N d) u else if q = 5 then F_X0_index N (FGE_ N d) u else none) u
    refine KW5_if (w5_F_X0_expression ih) ?_
    refine KW5_if (w5_F_X0_operand ih) ?_
    refine KW5_if (w5_F_X0_bracket ih) ?_
    refine KW5_if (w5_F_X0_namedOperand ih) ?_
    refine KW5_if (w5_F_X0_arguments ih) ?_
    refine KW5_if (w5_F_X0_index ih) ?_
    exact KW5_none
theorem w5_G_X0_expression {N : Nat} {u : CSt} : KW5 (G_X0_expression N u) u := w5_FGE_ _ _ _ _ _ _
theorem w5_G_X0_arguments {N : Nat} {u : CSt} : KW5 (G_X0_arguments N u) u := w5_FGE_ _ _ _ _ _ _
theorem w5_G_X0_index {N : Nat} {u : CSt} : KW5 (G_X0_index N u) u := w5_FGE_ _ _ _ _ _ _
theorem w5_B_X0_named_108 {N : Nat} {u : CSt}  : KW5 (B_X0_named_108 N u) u := by
  unfold B_X0_named_108
  refine KW5_bt (w5_F_X9_take.tr kw5_rf) (fun _ _ => ?_)
  exact KW5_some kw5_rf
theorem w5_B_X0_named_63 {N : Nat} {u : CSt}  : KW5 (B_X0_named_63 N u) u := by
  unfold B_X0_named_63
  refine KW5_bc (w5_F_X9_next.tr kw5_rf) (fun _ _ => ?_)
  refine KW5_bt (w5_G_X0_expression.tr kw5_rf) (fun _ _ => ?_)
  exact w5_B_X0_named_108.tr kw5_rf
theorem w5_B_X0_named_91 {N : Nat} {u : CSt}  : KW5 (B_X0_named_91 N u) u := by
  unfold B_X0_named_91
  refine KW5_bc (w5_F_X9_next.tr kw5_rf) (fun _ _ => ?_)
  exact w5_B_X0_named_108.tr kw5_rf
theorem w5_B_X0_named_0 {N : Nat} {u : CSt}  : KW5 (B_X0_named_0 N u) u := by
  unfold B_X0_named_0
  refine KW5_bc (w5_F_X9_next.tr kw5_rf) (fun _ _ => ?_)
  refine KW5_bc (w5_F_X9_is.tr kw5_rf) (fun _ _ => ?_)
  refine KW5_if ?_ ?_
  · skip
    refine KW5_bt (w5_G_X0_index.tr kw5_rf) (fun _ _ => ?_)
    refine KW5_bt (w5_F_X0_bit.tr kw5_rf) (fun _ _ => ?_)
    refine KW5_bc (w5_F_X9_type.tr kw5_rf) (fun _ _ => ?_)
    refine KW5_if ?_ ?_
    · skip
      exact w5_B_X0_named_63.tr kw5_rf
    · skip
      refine KW5_pb (fun _ => ?_)
      refine KW5_if ?_ ?_
      · skip
        refine KW5_if ?_ ?_
        · skip
          exact w5_B_X0_named_91.tr kw5_rf
        · skip
          refine KW5_if ?_ ?_
          · skip
            exact w5_B_X0_named_91.tr kw5_rf
          · skip
            refine KW5_bt (w5_F_X9_refuseToken.tr kw5_rf) (fun _ _ => ?_)
            exact w5_B_X0_named_108.tr kw5_rf
      · skip
        exact w5_B_X0_named_63.tr kw5_rf
  · skip
    refine KW5_bt (w5_G_X0_arguments.tr kw5_rf) (fun _ _ => ?_)
    refine KW5_bt (w5_F_X9_take.tr kw5_rf) (fun _ _ => ?_)
    exact KW5_some kw5_rf
theorem w5_F_X0_named {N : Nat} {u : CSt}  : KW5 (F_X0_named N u) u := by
  unfold F_X0_named
  exact w5_B_X0_named_0.tr kw5_rf
theorem w5_B_X0_returned_23 {N : Nat} {u : CSt}  : KW5 (B_X0_returned_23 N u) u := by
  unfold B_X0_returned_23
  refine KW5_bt (w5_F_X9_take.tr kw5_rf) (fun _ _ => ?_)
  exact KW5_some kw5_rf
theorem w5_B_X0_returned_0 {N : Nat} {u : CSt}  : KW5 (B_X0_returned_0 N u) u := by
  unfold B_X0_returned_0
  refine KW5_bc (w5_F_X9_next.tr kw5_rf) (fun _ _ => ?_)
  refine KW5_bc (w5_F_X9_is.tr kw5_rf) (fun _ _ => ?_)
  refine KW5_if ?_ ?_
  · skip
    refine KW5_bt (w5_G_X0_expression.tr kw5_rf) (fun _ _ => ?_)
    exact w5_B_X0_returned_23.tr kw5_rf
  · skip
    exact w5_B_X0_returned_23.tr kw5_rf
theorem w5_F_X0_returned {N : Nat} {u : CSt}  : KW5 (F_X0_returned N u) u := by
  unfold F_X0_returned
  exact w5_B_X0_returned_0.tr kw5_rf
theorem w5_B_X0_body_0 {N : Nat} {ro : Nat → Nat → Int32 → Int32 → CSt → Option (Sum Nat Int32 × CSt)} {u : CSt} (h_ro : ∀ q z a b u, KW5 (ro q z a b u) u) : KW5 (B_X0_body_0 N ro u) u := by
  unfold B_X0_body_0
  refine KW5_bt (w5_F_X0_opens.tr kw5_rf) (fun _ _ => ?_)
  refine KW5_bt ((h_ro _ _ _ _ _).tr kw5_rf) (fun _ _ => ?_)
  exact KW5_some kw5_rf
theorem w5_F_X0_body {N : Nat} {ro : Nat → Nat → Int32 → Int32 → CSt → Option (Sum Nat Int32 × CSt)} {u : CSt} (h_ro : ∀ q z a b u, KW5 (ro q z a b u) u) : KW5 (F_X0_body N ro u) u := by
  unfold F_X0_body
  exact (w5_B_X0_body_0 h_ro).tr kw5_rf
theorem w5_B_X0_statements_31 {N : Nat} {ro : Nat → Nat → Int32 → Int32 → CSt → Option (Sum Nat Int32 × CSt)} {u : CSt} (h_ro : ∀ q z a b u, KW5 (ro q z a b u) u) : KW5 (B_X0_statements_31 N ro u) u := by
  unfold B_X0_statements_31
  refine KW5_bt (w5_F_X0_closes.tr kw5_rf) (fun _ _ => ?_)
  exact KW5_some kw5_rf
theorem w5_B_X0_statements_2 {N : Nat} {ro : Nat → Nat → Int32 → Int32 → CSt → Option (Sum Nat Int32 × CSt)} {R_2 : Int32 × CSt → Option ((Sum Nat Int32) × CSt)} {l1 : Int32} {u : CSt} (h_ro : ∀ q z a b u, KW5 (ro q z a b u) u) (h_R_2 : ∀ a, KW5 (R_2 a) a.2) : KW5 (B_X0_statements_2 N ro R_2 l1 u) u := by
  unfold B_X0_statements_2
  refine KW5_if ?_ ?_
  · skip
    exact (w5_B_X0_statements_31 h_ro).tr kw5_rf
  · skip
    refine KW5_bc (w5_F_X9_is.tr kw5_rf) (fun _ _ => ?_)
    refine KW5_if ?_ ?_
    · skip
      refine KW5_bt ((h_ro _ _ _ _ _).tr kw5_rf) (fun _ _ => ?_)
      exact (h_R_2 _).tr kw5_rf
    · skip
      exact (w5_B_X0_statements_31 h_ro).tr kw5_rf
theorem w5_LP_X0_statements_2 {N : Nat} {ro : Nat → Nat → Int32 → Int32 → CSt → Option (Sum Nat Int32 × CSt)} (h_ro : ∀ q z a b u, KW5 (ro q z a b u) u) (n : Nat) : ∀ a : Int32 × CSt, KW5 (LP_X0_statements_2 N ro n a) a.2 := by
  induction n with
  | zero => exact fun a r z e => by have e : (none : Option _) = some (r, z) := e; cases e
  | succ n ih =>
    intro a
    show KW5 (B_X0_statements_2 N ro (LP_X0_statements_2 N ro n) a.1 a.2) a.2
    exact w5_B_X0_statements_2 h_ro ih
theorem w5_B_X0_statements_0 {N : Nat} {ro : Nat → Nat → Int32 → Int32 → CSt → Option (Sum Nat Int32 × CSt)} {u : CSt} (h_ro : ∀ q z a b u, KW5 (ro q z a b u) u) : KW5 (B_X0_statements_0 N ro u) u := by
  unfold B_X0_statements_0
  exact (w5_LP_X0_statements_2 h_ro _ _).tr kw5_rf
theorem w5_F_X0_statements {N : Nat} {ro : Nat → Nat → Int32 → Int32 → CSt → Option (Sum Nat Int32 × CSt)} {u : CSt} (h_ro : ∀ q z a b u, KW5 (ro q z a b u) u) : KW5 (F_X0_statements N ro u) u := by
  unfold F_X0_statements
  exact (w5_B_X0_statements_0 h_ro).tr kw5_rf
theorem w5_B_X0_statement_0 {N : Nat} {ro : Nat → Nat → Int32 → Int32 → CSt → Option (Sum Nat Int32 × CSt)} {u : CSt} (h_ro : ∀ q z a b u, KW5 (ro q z a b u) u) : KW5 (B_X0_statement_0 N ro u) u := by
  unfold B_X0_statement_0
  refine KW5_bc (w5_F_X9_type.tr kw5_rf) (fun _ _ => ?_)
  refine KW5_if ?_ ?_
  · skip
    refine KW5_bt ((h_ro _ _ _ _ _).tr kw5_rf) (fun _ _ => ?_)
    exact KW5_some kw5_rf
  · skip
    refine KW5_if ?_ ?_
    · skip
      refine KW5_bc (w5_F_X9_next.tr kw5_rf) (fun _ _ => ?_)
      refine KW5_bt (w5_G_X0_expression.tr kw5_rf) (fun _ _ => ?_)
      refine KW5_bt ((h_ro _ _ _ _ _).tr kw5_rf) (fun _ _ => ?_)
      exact KW5_some kw5_rf
    · skip
      refine KW5_if ?_ ?_
      · skip
        refine KW5_bt ((h_ro _ _ _ _ _).tr kw5_rf) (fun _ _ => ?_)
        exact KW5_some kw5_rf
      · skip
        refine KW5_if ?_ ?_
        · skip
          refine KW5_bt ((h_ro _ _ _ _ _).tr kw5_rf) (fun _ _ => ?_)
          exact KW5_some kw5_rf
        · skip
          refine KW5_if ?_ ?_
          · skip
            refine KW5_bc (w5_F_X9_next.tr kw5_rf) (fun _ _ => ?_)
            refine KW5_bt (w5_F_X9_take.tr kw5_rf) (fun _ _ => ?_)
            exact KW5_some kw5_rf
          · skip
            refine KW5_if ?_ ?_
            · skip
              refine KW5_bc (w5_F_X9_next.tr kw5_rf) (fun _ _ => ?_)
              refine KW5_bt (w5_F_X9_take.tr kw5_rf) (fun _ _ => ?_)
              exact KW5_some kw5_rf
            · skip
              refine KW5_if ?_ ?_
              · skip
                refine KW5_bt (w5_F_X0_returned.tr kw5_rf) (fun _ _ => ?_)
                exact KW5_some kw5_rf
              · skip
                refine KW5_if ?_ ?_
                · skip
                  refine KW5_bc (w5_F_X9_next.tr kw5_rf) (fun _ _ => ?_)
                  refine KW5_bt (w5_G_X0_expression.tr kw5_rf) (fun _ _ => ?_)
                  refine KW5_bt (w5_F_X9_take.tr kw5_rf) (fun _ _ => ?_)
                  exact KW5_some kw5_rf
                · skip
                  refine KW5_if ?_ ?_
                  · skip
                    refine KW5_bt (w5_F_X0_named.tr kw5_rf) (fun _ _ => ?_)
                    exact KW5_some kw5_rf
                  · skip
                    refine KW5_bt (w5_F_X9_refuseToken.tr kw5_rf) (fun _ _ => ?_)
                    exact KW5_some kw5_rf
theorem w5_F_X0_statement {N : Nat} {ro : Nat → Nat → Int32 → Int32 → CSt → Option (Sum Nat Int32 × CSt)} {u : CSt} (h_ro : ∀ q z a b u, KW5 (ro q z a b u) u) : KW5 (F_X0_statement N ro u) u := by
  unfold F_X0_statement
  exact (w5_B_X0_statement_0 h_ro).tr kw5_rf
theorem w5_B_X0_choice_57 {N : Nat} {ro : Nat → Nat → Int32 → Int32 → CSt → Option (Sum Nat Int32 × CSt)} {u : CSt} (h_ro : ∀ q z a b u, KW5 (ro q z a b u) u) : KW5 (B_X0_choice_57 N ro u) u := by
  unfold B_X0_choice_57
  refine KW5_bc (w5_F_X9_is.tr kw5_rf) (fun _ _ => ?_)
  refine KW5_if ?_ ?_
  · skip
    exact KW5_some kw5_rf
  · skip
    refine KW5_bc (w5_F_X9_next.tr kw5_rf) (fun _ _ => ?_)
    refine KW5_bt ((h_ro _ _ _ _ _).tr kw5_rf) (fun _ _ => ?_)
    exact KW5_some kw5_rf
theorem w5_B_X0_choice_17 {N : Nat} {ro : Nat → Nat → Int32 → Int32 → CSt → Option (Sum Nat Int32 × CSt)} {R_17 : Int32 × CSt → Option ((Sum Nat Int32) × CSt)} {l1 : Int32} {u : CSt} (h_ro : ∀ q z a b u, KW5 (ro q z a b u) u) (h_R_17 : ∀ a, KW5 (R_17 a) a.2) : KW5 (B_X0_choice_17 N ro R_17 l1 u) u := by
  unfold B_X0_choice_17
  refine KW5_if ?_ ?_
  · skip
    exact (w5_B_X0_choice_57 h_ro).tr kw5_rf
  · skip
    refine KW5_bc (w5_F_X9_is.tr kw5_rf) (fun _ _ => ?_)
    refine KW5_if ?_ ?_
    · skip
      exact (w5_B_X0_choice_57 h_ro).tr kw5_rf
    · skip
      refine KW5_bc (w5_F_X9_next.tr kw5_rf) (fun _ _ => ?_)
      refine KW5_bt (w5_G_X0_expression.tr kw5_rf) (fun _ _ => ?_)
      refine KW5_bt ((h_ro _ _ _ _ _).tr kw5_rf) (fun _ _ => ?_)
      exact (h_R_17 _).tr kw5_rf
theorem w5_LP_X0_choice_17 {N : Nat} {ro : Nat → Nat → Int32 → Int32 → CSt → Option (Sum Nat Int32 × CSt)} (h_ro : ∀ q z a b u, KW5 (ro q z a b u) u) (n : Nat) : ∀ a : Int32 × CSt, KW5 (LP_X0_choice_17 N ro n a) a.2 := by
  induction n with
  | zero => exact fun a r z e => by have e : (none : Option _) = some (r, z) := e; cases e
  | succ n ih =>
    intro a
    show KW5 (B_X0_choice_17 N ro (LP_X0_choice_17 N ro n) a.1 a.2) a.2
    exact w5_B_X0_choice_17 h_ro ih
theorem w5_B_X0_choice_0 {N : Nat} {ro : Nat → Nat → Int32 → Int32 → CSt → Option (Sum Nat Int32 × CSt)} {u : CSt} (h_ro : ∀ q z a b u, KW5 (ro q z a b u) u) : KW5 (B_X0_choice_0 N ro u) u := by
  unfold B_X0_choice_0
  refine KW5_bc (w5_F_X9_next.tr kw5_rf) (fun _ _ => ?_)
  refine KW5_bt (w5_G_X0_expression.tr kw5_rf) (fun _ _ => ?_)
  refine KW5_bt ((h_ro _ _ _ _ _).tr kw5_rf) (fun _ _ => ?_)
  exact (w5_LP_X0_choice_17 h_ro _ _).tr kw5_rf
theorem w5_F_X0_choice {N : Nat} {ro : Nat → Nat → Int32 → Int32 → CSt → Option (Sum Nat Int32 × CSt)} {u : CSt} (h_ro : ∀ q z a b u, KW5 (ro q z a b u) u) : KW5 (F_X0_choice N ro u) u := by
  unfold F_X0_choice
  exact (w5_B_X0_choice_0 h_ro).tr kw5_rf
theorem w5_B_X0_counted_0 {N : Nat} {ro : Nat → Nat → Int32 → Int32 → CSt → Option (Sum Nat Int32 × CSt)} {u : CSt} (h_ro : ∀ q z a b u, KW5 (ro q z a b u) u) : KW5 (B_X0_counted_0 N ro u) u := by
  unfold B_X0_counted_0
  refine KW5_bc (w5_F_X9_next.tr kw5_rf) (fun _ _ => ?_)
  refine KW5_bt (w5_F_X9_take.tr kw5_rf) (fun _ _ => ?_)
  refine KW5_bt (w5_F_X9_take.tr kw5_rf) (fun _ _ => ?_)
  refine KW5_bt (w5_G_X0_expression.tr kw5_rf) (fun _ _ => ?_)
  refine KW5_bt (w5_F_X9_take.tr kw5_rf) (fun _ _ => ?_)
  refine KW5_bt (w5_G_X0_expression.tr kw5_rf) (fun _ _ => ?_)
  refine KW5_bt ((h_ro _ _ _ _ _).tr kw5_rf) (fun _ _ => ?_)
  exact KW5_some kw5_rf
theorem w5_F_X0_counted {N : Nat} {ro : Nat → Nat → Int32 → Int32 → CSt → Option (Sum Nat Int32 × CSt)} {u : CSt} (h_ro : ∀ q z a b u, KW5 (ro q z a b u) u) : KW5 (F_X0_counted N ro u) u := by
  unfold F_X0_counted
  exact (w5_B_X0_counted_0 h_ro).tr kw5_rf
theorem w5_B_X0_cases_87 {N : Nat} {ro : Nat → Nat → Int32 → Int32 → CSt → Option (Sum Nat Int32 × CSt)} {R_19 : Int32 × CSt → Option ((Sum Nat Int32) × CSt)} {l1 : Int32} {u : CSt} (h_ro : ∀ q z a b u, KW5 (ro q z a b u) u) (h_R_19 : ∀ a, KW5 (R_19 a) a.2) : KW5 (B_X0_cases_87 N ro R_19 l1 u) u := by
  unfold B_X0_cases_87
  refine KW5_bt ((h_ro _ _ _ _ _).tr kw5_rf) (fun _ _ => ?_)
  exact (h_R_19 _).tr kw5_rf
theorem w5_B_X0_cases_51 {N : Nat} {ro : Nat → Nat → Int32 → Int32 → CSt → Option (Sum Nat Int32 × CSt)} {R_19 : Int32 × CSt → Option ((Sum Nat Int32) × CSt)} {R_51 : Int32 × Int32 × CSt → Option ((Sum Nat Int32) × CSt)} {l1 : Int32} {l2 : Int32} {u : CSt} (h_ro : ∀ q z a b u, KW5 (ro q z a b u) u) (h_R_19 : ∀ a, KW5 (R_19 a) a.2) (h_R_51 : ∀ a, KW5 (R_51 a) a.2.2) : KW5 (B_X0_cases_51 N ro R_19 R_51 l1 l2 u) u := by
  unfold B_X0_cases_51
  refine KW5_if ?_ ?_
  · skip
    exact (w5_B_X0_cases_87 h_ro h_R_19).tr kw5_rf
  · skip
    refine KW5_bc (w5_F_X9_is.tr kw5_rf) (fun _ _ => ?_)
    refine KW5_if ?_ ?_
    · skip
      exact (w5_B_X0_cases_87 h_ro h_R_19).tr kw5_rf
    · skip
      refine KW5_bc (w5_F_X9_next.tr kw5_rf) (fun _ _ => ?_)
      refine KW5_bt (w5_F_X0_label.tr kw5_rf) (fun _ _ => ?_)
      exact (h_R_51 _).tr kw5_rf
theorem w5_LP_X0_cases_51 {N : Nat} {ro : Nat → Nat → Int32 → Int32 → CSt → Option (Sum Nat Int32 × CSt)} {R_19 : Int32 × CSt → Option ((Sum Nat Int32) × CSt)} (h_ro : ∀ q z a b u, KW5 (ro q z a b u) u) (h_R_19 : ∀ a, KW5 (R_19 a) a.2) (n : Nat) : ∀ a : Int32 × Int32 × CSt, KW5 (LP_X0_cases_51 N ro R_19 n a) a.2.2 := by
  induction n with
  | zero => exact fun a r z e => by have e : (none : Option _) = some (r, z) := e; cases e
  | succ n ih =>
    intro a
    show KW5 (B_X0_cases_51 N ro R_19 (LP_X0_cases_51 N ro R_19 n) a.1 a.2.1 a.2.2) a.2.2
    exact w5_B_X0_cases_51 h_ro h_R_19 ih
theorem w5_B_X0_cases_120 {N : Nat} {ro : Nat → Nat → Int32 → Int32 → CSt → Option (Sum Nat Int32 × CSt)} {u : CSt} (h_ro : ∀ q z a b u, KW5 (ro q z a b u) u) : KW5 (B_X0_cases_120 N ro u) u := by
  unfold B_X0_cases_120
  refine KW5_bt (w5_F_X0_closes.tr kw5_rf) (fun _ _ => ?_)
  exact KW5_some kw5_rf
theorem w5_B_X0_cases_97 {N : Nat} {ro : Nat → Nat → Int32 → Int32 → CSt → Option (Sum Nat Int32 × CSt)} {u : CSt} (h_ro : ∀ q z a b u, KW5 (ro q z a b u) u) : KW5 (B_X0_cases_97 N ro u) u := by
  unfold B_X0_cases_97
  refine KW5_bc (w5_F_X9_is.tr kw5_rf) (fun _ _ => ?_)
  refine KW5_if ?_ ?_
  · skip
    exact (w5_B_X0_cases_120 h_ro).tr kw5_rf
  · skip
    refine KW5_bc (w5_F_X9_next.tr kw5_rf) (fun _ _ => ?_)
    refine KW5_bt ((h_ro _ _ _ _ _).tr kw5_rf) (fun _ _ => ?_)
    exact (w5_B_X0_cases_120 h_ro).tr kw5_rf
theorem w5_B_X0_cases_19 {N : Nat} {ro : Nat → Nat → Int32 → Int32 → CSt → Option (Sum Nat Int32 × CSt)} {R_19 : Int32 × CSt → Option ((Sum Nat Int32) × CSt)} {l1 : Int32} {u : CSt} (h_ro : ∀ q z a b u, KW5 (ro q z a b u) u) (h_R_19 : ∀ a, KW5 (R_19 a) a.2) : KW5 (B_X0_cases_19 N ro R_19 l1 u) u := by
  unfold B_X0_cases_19
  refine KW5_if ?_ ?_
  · skip
    exact (w5_B_X0_cases_97 h_ro).tr kw5_rf
  · skip
    refine KW5_bc (w5_F_X9_is.tr kw5_rf) (fun _ _ => ?_)
    refine KW5_if ?_ ?_
    · skip
      exact (w5_B_X0_cases_97 h_ro).tr kw5_rf
    · skip
      refine KW5_bc (w5_F_X9_next.tr kw5_rf) (fun _ _ => ?_)
      refine KW5_bt (w5_F_X0_label.tr kw5_rf) (fun _ _ => ?_)
      exact (w5_LP_X0_cases_51 h_ro h_R_19 _ _).tr kw5_rf
theorem w5_LP_X0_cases_19 {N : Nat} {ro : Nat → Nat → Int32 → Int32 → CSt → Option (Sum Nat Int32 × CSt)} (h_ro : ∀ q z a b u, KW5 (ro q z a b u) u) (n : Nat) : ∀ a : Int32 × CSt, KW5 (LP_X0_cases_19 N ro n a) a.2 := by
  induction n with
  | zero => exact fun a r z e => by have e : (none : Option _) = some (r, z) := e; cases e
  | succ n ih =>
    intro a
    show KW5 (B_X0_cases_19 N ro (LP_X0_cases_19 N ro n) a.1 a.2) a.2
    exact w5_B_X0_cases_19 h_ro ih
theorem w5_B_X0_cases_0 {N : Nat} {ro : Nat → Nat → Int32 → Int32 → CSt → Option (Sum Nat Int32 × CSt)} {u : CSt} (h_ro : ∀ q z a b u, KW5 (ro q z a b u) u) : KW5 (B_X0_cases_0 N ro u) u := by
  unfold B_X0_cases_0
  refine KW5_bc (w5_F_X9_next.tr kw5_rf) (fun _ _ => ?_)
  refine KW5_bt (w5_G_X0_expression.tr kw5_rf) (fun _ _ => ?_)
  refine KW5_bt (w5_F_X0_opens.tr kw5_rf) (fun _ _ => ?_)
  exact (w5_LP_X0_cases_19 h_ro _ _).tr kw5_rf
theorem w5_F_X0_cases {N : Nat} {ro : Nat → Nat → Int32 → Int32 → CSt → Option (Sum Nat Int32 × CSt)} {u : CSt} (h_ro : ∀ q z a b u, KW5 (ro q z a b u) u) : KW5 (F_X0_cases N ro u) u := by
  unfold F_X0_cases
  exact (w5_B_X0_cases_0 h_ro).tr kw5_rf
theorem w5_FGS_ {N : Nat} : ∀ (d q z : Nat) (a b : Int32) (u : CSt), KW5 (FGS_ N d q z a b u) u := by
  intro d
  induction d with
  | zero => exact fun q z a b u => KW5_none
  | succ d ih =>
    intro q z a b u
    show KW5 (if q = 0 then F_X0_body N (FGS_ N d) u else if q = 1 then F_X0_statements N (FGS_ N d) u else if q = 2 then F_X0_statement N (FGS_ N d) u else if q = 3 then F_X0_choice N (FGS_ N d) u else if q = 4 then F_X0_counted N (FGS_ N d) u else if q = 5 then F_X0_cases N (FGS_ N d) u else none) u
    refine KW5_if (w5_F_X0_body ih) ?_
    refine KW5_if (w5_F_X0_statements ih) ?_
    refine KW5_if (w5_F_X0_statement ih) ?_
    refine KW5_if (w5_F_X0_choice ih) ?_
    refine KW5_if (w5_F_X0_counted ih) ?_
    refine KW5_if (w5_F_X0_cases ih) ?_
    exact KW5_none
theorem w5_G_X0_body {N : Nat} {u : CSt} : KW5 (G_X0_body N u) u := w5_FGS_ _ _ _ _ _ _
theorem w5_G_X0_statements {N : Nat} {u : CSt} : KW5 (G_X0_statements N u) u := w5_FGS_ _ _ _ _ _ _
theorem w5_B_X0_routine_132 {N : Nat} {u : CSt}  : KW5 (B_X0_routine_132 N u) u := by
  unfold B_X0_routine_132
  refine KW5_bt (w5_G_X0_statements.tr kw5_rf) (fun _ _ => ?_)
  exact KW5_some kw5_rf
theorem w5_B_X0_routine_104 {N : Nat} {R_104 : Int32 × CSt → Option ((Sum Nat Int32) × CSt)} {l1 : Int32} {u : CSt} (h_R_104 : ∀ a, KW5 (R_104 a) a.2) : KW5 (B_X0_routine_104 N R_104 l1 u) u := by
  unfold B_X0_routine_104
  refine KW5_if ?_ ?_
  · skip
    exact w5_B_X0_routine_132.tr kw5_rf
  · skip
    refine KW5_bc (w5_F_X9_is.tr kw5_rf) (fun _ _ => ?_)
    refine KW5_if ?_ ?_
    · skip
      exact w5_B_X0_routine_132.tr kw5_rf
    · skip
      refine KW5_bt (w5_F_X0_variables.tr kw5_rf) (fun _ _ => ?_)
      exact (h_R_104 _).tr kw5_rf
theorem w5_LP_X0_routine_104 {N : Nat}  (n : Nat) : ∀ a : Int32 × CSt, KW5 (LP_X0_routine_104 N n a) a.2 := by
  induction n with
  | zero => exact fun a r z e => by have e : (none : Option _) = some (r, z) := e; cases e
  | succ n ih =>
    intro a
    show KW5 (B_X0_routine_104 N (LP_X0_routine_104 N n) a.1 a.2) a.2
    exact w5_B_X0_routine_104 ih
theorem w5_B_X0_routine_90 {N : Nat} {u : CSt}  : KW5 (B_X0_routine_90 N u) u := by
  unfold B_X0_routine_90
  refine KW5_bt (w5_F_X0_closes.tr kw5_rf) (fun _ _ => ?_)
  refine KW5_bt (w5_F_X0_opens.tr kw5_rf) (fun _ _ => ?_)
  exact (w5_LP_X0_routine_104  _ _).tr kw5_rf
theorem w5_B_X0_routine_44 {N : Nat} {R_44 : Int32 × CSt → Option ((Sum Nat Int32) × CSt)} {l1 : Int32} {u : CSt} (h_R_44 : ∀ a, KW5 (R_44 a) a.2) : KW5 (B_X0_routine_44 N R_44 l1 u) u := by
  unfold B_X0_routine_44
  refine KW5_if ?_ ?_
  · skip
    exact w5_B_X0_routine_90.tr kw5_rf
  · skip
    refine KW5_bc (w5_F_X9_is.tr kw5_rf) (fun _ _ => ?_)
    refine KW5_if ?_ ?_
    · skip
      exact w5_B_X0_routine_90.tr kw5_rf
    · skip
      refine KW5_bc (w5_F_X9_next.tr kw5_rf) (fun _ _ => ?_)
      refine KW5_bt (w5_F_X0_kind.tr kw5_rf) (fun _ _ => ?_)
      refine KW5_bt (w5_F_X9_take.tr kw5_rf) (fun _ _ => ?_)
      exact (h_R_44 _).tr kw5_rf
theorem w5_LP_X0_routine_44 {N : Nat}  (n : Nat) : ∀ a : Int32 × CSt, KW5 (LP_X0_routine_44 N n a) a.2 := by
  induction n with
  | zero => exact fun a r z e => by have e : (none : Option _) = some (r, z) := e; cases e
  | succ n ih =>
    intro a
    show KW5 (B_X0_routine_44 N (LP_X0_routine_44 N n) a.1 a.2) a.2
    exact w5_B_X0_routine_44 ih
theorem w5_B_X0_routine_42 {N : Nat} {u : CSt}  : KW5 (B_X0_routine_42 N u) u := by
  unfold B_X0_routine_42
  exact (w5_LP_X0_routine_44  _ _).tr kw5_rf
theorem w5_B_X0_routine_0 {N : Nat} {u : CSt}  : KW5 (B_X0_routine_0 N u) u := by
  unfold B_X0_routine_0
  refine KW5_bt (w5_F_X9_take.tr kw5_rf) (fun _ _ => ?_)
  refine KW5_bt (w5_F_X0_opens.tr kw5_rf) (fun _ _ => ?_)
  refine KW5_bc (w5_F_X9_is.tr kw5_rf) (fun _ _ => ?_)
  refine KW5_if ?_ ?_
  · skip
    refine KW5_bt (w5_F_X0_kind.tr kw5_rf) (fun _ _ => ?_)
    refine KW5_bt (w5_F_X9_take.tr kw5_rf) (fun _ _ => ?_)
    exact w5_B_X0_routine_42.tr kw5_rf
  · skip
    exact w5_B_X0_routine_42.tr kw5_rf
theorem w5_F_X0_routine {N : Nat} {u : CSt}  : KW5 (F_X0_routine N u) u := by
  unfold F_X0_routine
  exact w5_B_X0_routine_0.tr kw5_rf
theorem w5_B_X0_cyclic_65 {N : Nat} {u : CSt}  : KW5 (B_X0_cyclic_65 N u) u := by
  unfold B_X0_cyclic_65
  refine KW5_bt (w5_G_X0_body.tr kw5_rf) (fun _ _ => ?_)
  exact KW5_some kw5_rf
theorem w5_B_X0_cyclic_0 {N : Nat} {u : CSt}  : KW5 (B_X0_cyclic_0 N u) u := by
  unfold B_X0_cyclic_0
  refine KW5_bc (w5_F_X9_next.tr kw5_rf) (fun _ _ => ?_)
  refine KW5_bt (w5_F_X9_take.tr kw5_rf) (fun _ _ => ?_)
  refine KW5_bt (w5_F_X9_take.tr kw5_rf) (fun _ _ => ?_)
  refine KW5_bt (w5_F_X9_take.tr kw5_rf) (fun _ _ => ?_)
  refine KW5_bc (w5_F_X9_is.tr kw5_rf) (fun _ _ => ?_)
  refine KW5_if ?_ ?_
  · skip
    exact w5_B_X0_cyclic_65.tr kw5_rf
  · skip
    refine KW5_bc (w5_F_X9_next.tr kw5_rf) (fun _ _ => ?_)
    refine KW5_bt (w5_F_X9_take.tr kw5_rf) (fun _ _ => ?_)
    exact w5_B_X0_cyclic_65.tr kw5_rf
theorem w5_F_X0_cyclic {N : Nat} {u : CSt}  : KW5 (F_X0_cyclic N u) u := by
  unfold F_X0_cyclic
  exact w5_B_X0_cyclic_0.tr kw5_rf
theorem w5_B_X0_check_155 {N : Nat} {R_14 : Int32 × CSt → Option ((Sum Nat Int32) × CSt)} {l1 : Int32} {u : CSt} (h_R_14 : ∀ a, KW5 (R_14 a) a.2) : KW5 (B_X0_check_155 N R_14 l1 u) u := by
  unfold B_X0_check_155
  exact (h_R_14 _).tr kw5_rf
theorem w5_B_X0_check_14 {N : Nat} {R_14 : Int32 × CSt → Option ((Sum Nat Int32) × CSt)} {l1 : Int32} {u : CSt} (h_R_14 : ∀ a, KW5 (R_14 a) a.2) : KW5 (B_X0_check_14 N R_14 l1 u) u := by
  unfold B_X0_check_14
  refine KW5_if ?_ ?_
  · skip
    exact KW5_some kw5_rf
  · skip
    refine KW5_bc (w5_F_X9_is.tr kw5_rf) (fun _ _ => ?_)
    refine KW5_if ?_ ?_
    · skip
      refine KW5_bc (w5_F_X9_type.tr kw5_rf) (fun _ _ => ?_)
      refine KW5_if ?_ ?_
      · skip
        refine KW5_bt (w5_F_X0_variables.tr kw5_rf) (fun _ _ => ?_)
        exact (w5_B_X0_check_155 h_R_14).tr kw5_rf
      · skip
        refine KW5_if ?_ ?_
        · skip
          refine KW5_bt (w5_F_X0_variables.tr kw5_rf) (fun _ _ => ?_)
          exact (w5_B_X0_check_155 h_R_14).tr kw5_rf
        · skip
          refine KW5_if ?_ ?_
          · skip
            refine KW5_bt (w5_F_X0_placed.tr kw5_rf) (fun _ _ => ?_)
            exact (w5_B_X0_check_155 h_R_14).tr kw5_rf
          · skip
            refine KW5_if ?_ ?_
            · skip
              refine KW5_bt (w5_F_X0_placed.tr kw5_rf) (fun _ _ => ?_)
              exact (w5_B_X0_check_155 h_R_14).tr kw5_rf
            · skip
              refine KW5_if ?_ ?_
              · skip
                refine KW5_bc (w5_F_X9_next.tr kw5_rf) (fun _ _ => ?_)
                refine KW5_bt (w5_F_X0_routine.tr kw5_rf) (fun _ _ => ?_)
                exact (w5_B_X0_check_155 h_R_14).tr kw5_rf
              · skip
                refine KW5_if ?_ ?_
                · skip
                  refine KW5_bt (w5_F_X0_uses.tr kw5_rf) (fun _ _ => ?_)
                  exact (w5_B_X0_check_155 h_R_14).tr kw5_rf
                · skip
                  refine KW5_if ?_ ?_
                  · skip
                    refine KW5_bc (w5_F_X9_next.tr kw5_rf) (fun _ _ => ?_)
                    refine KW5_bt (w5_F_X0_kind.tr kw5_rf) (fun _ _ => ?_)
                    refine KW5_bt (w5_F_X0_routine.tr kw5_rf) (fun _ _ => ?_)
                    exact (w5_B_X0_check_155 h_R_14).tr kw5_rf
                  · skip
                    refine KW5_if ?_ ?_
                    · skip
                      refine KW5_bt (w5_F_X0_cyclic.tr kw5_rf) (fun _ _ => ?_)
                      exact (w5_B_X0_check_155 h_R_14).tr kw5_rf
                    · skip
                      refine KW5_bt (w5_F_X9_refuseToken.tr kw5_rf) (fun _ _ => ?_)
                      exact (w5_B_X0_check_155 h_R_14).tr kw5_rf
    · skip
      exact KW5_some kw5_rf
theorem w5_LP_X0_check_14 {N : Nat}  (n : Nat) : ∀ a : Int32 × CSt, KW5 (LP_X0_check_14 N n a) a.2 := by
  induction n with
  | zero => exact fun a r z e => by have e : (none : Option _) = some (r, z) := e; cases e
  | succ n ih =>
    intro a
    show KW5 (B_X0_check_14 N (LP_X0_check_14 N n) a.1 a.2) a.2
    exact w5_B_X0_check_14 ih
theorem w5_B_X0_check_0 {N : Nat} {u : CSt}  : KW5 (B_X0_check_0 N u) u := by
  unfold B_X0_check_0
  refine KW5_pc ?_
  refine KW5_bc (w5_F_X9_rewind.tr (f5_xI kw5_rf)) (fun _ _ => ?_)
  exact (w5_LP_X0_check_14  _ _).tr kw5_rf
theorem w5_F_X0_check {N : Nat} {u : CSt}  : KW5 (F_X0_check N u) u := by
  unfold F_X0_check
  exact w5_B_X0_check_0.tr kw5_rf
theorem w5_B_X8_begin_0 {N : Nat} {l1 : Nat} {u : CSt}  : KW5 (B_X8_begin_0 N l1 u) u := by
  unfold B_X8_begin_0
  refine KW5_pc ?_
  refine KW5_pc ?_
  exact KW5_some (f5_xI (f5_xR kw5_rf))
theorem w5_F_X8_begin {N : Nat} {l1 : Nat} {u : CSt}  : KW5 (F_X8_begin N l1 u) u := by
  unfold F_X8_begin
  exact w5_B_X8_begin_0.tr kw5_rf
theorem w5_B_X8_known_0 {N : Nat} {u : CSt}  : KW5 (B_X8_known_0 N u) u := by
  unfold B_X8_known_0
  refine KW5_bc (w5_F_X9_head.tr kw5_rf) (fun _ _ => ?_)
  refine KW5_bc (w5_F_X9_tail.tr kw5_rf) (fun _ _ => ?_)
  refine KW5_ok ?_
  refine KW5_bc (w5_F_X6_name.tr kw5_rf) (fun _ _ => ?_)
  refine KW5_ok ?_
  refine KW5_bc (w5_F_X6_localCalled.tr kw5_rf) (fun _ _ => ?_)
  refine KW5_ok ?_
  refine KW5_if ?_ ?_
  · skip
    refine KW5_ok ?_
    refine KW5_bc (w5_F_X6_ofText.tr kw5_rf) (fun _ _ => ?_)
    refine KW5_ok ?_
    exact KW5_some kw5_rf
  · skip
    exact KW5_some kw5_rf
theorem w5_F_X8_known {N : Nat} {u : CSt}  : KW5 (F_X8_known N u) u := by
  unfold F_X8_known
  exact w5_B_X8_known_0.tr kw5_rf
theorem w5_B_X8_placeName_63 {N : Nat} {l2 : Nat} {u : CSt}  : KW5 (B_X8_placeName_63 N l2 u) u := by
  unfold B_X8_placeName_63
  refine KW5_bc (w5_F_X9_here.tr kw5_rf) (fun _ _ => ?_)
  refine KW5_bt (w5_F_X9_refuse.tr kw5_rf) (fun _ _ => ?_)
  exact KW5_some kw5_rf
theorem w5_B_X8_placeName_49 {N : Nat} {l1 : Int32} {l2 : Nat} {s0 : Int32} {s1 : Int32} {u : CSt}  : KW5 (B_X8_placeName_49 N l1 l2 s0 s1 u) u := by
  unfold B_X8_placeName_49
  refine KW5_if ?_ ?_
  · skip
    refine KW5_if ?_ ?_
    · skip
      exact KW5_some kw5_rf
    · skip
      refine KW5_bc (w5_F_X4_isInput.tr kw5_rf) (fun _ _ => ?_)
      refine KW5_if ?_ ?_
      · skip
        exact KW5_some kw5_rf
      · skip
        exact w5_B_X8_placeName_63.tr kw5_rf
  · skip
    exact w5_B_X8_placeName_63.tr kw5_rf
theorem w5_B_X8_placeName_27 {N : Nat} {l1 : Int32} {l2 : Nat} {u : CSt}  : KW5 (B_X8_placeName_27 N l1 l2 u) u := by
  unfold B_X8_placeName_27
  refine KW5_bc (w5_F_X9_typeAhead.tr kw5_rf) (fun _ _ => ?_)
  refine KW5_if ?_ ?_
  · skip
    exact w5_B_X8_placeName_49.tr kw5_rf
  · skip
    exact w5_B_X8_placeName_49.tr kw5_rf
theorem w5_B_X8_placeName_0 {N : Nat} {l1 : Int32} {u : CSt}  : KW5 (B_X8_placeName_0 N l1 u) u := by
  unfold B_X8_placeName_0
  refine KW5_bc (w5_F_X8_known.tr kw5_rf) (fun _ _ => ?_)
  refine KW5_ok ?_
  refine KW5_bc (w5_F_X4_hasNumbers.tr kw5_rf) (fun _ _ => ?_)
  refine KW5_if ?_ ?_
  · skip
    refine KW5_bc (w5_F_X9_here.tr kw5_rf) (fun _ _ => ?_)
    refine KW5_bt (w5_F_X9_refuse.tr kw5_rf) (fun _ _ => ?_)
    exact w5_B_X8_placeName_27.tr kw5_rf
  · skip
    exact w5_B_X8_placeName_27.tr kw5_rf
theorem w5_F_X8_placeName {N : Nat} {l1 : Int32} {u : CSt}  : KW5 (F_X8_placeName N l1 u) u := by
  unfold F_X8_placeName
  exact w5_B_X8_placeName_0.tr kw5_rf
theorem w5_B_X8_isTooWide_26 {N : Nat} {u : CSt}  : KW5 (B_X8_isTooWide_26 N u) u := by
  unfold B_X8_isTooWide_26
  exact KW5_some kw5_rf
theorem w5_B_X8_isTooWide_0 {N : Nat} {l1 : Int32} {l2 : Int32} {u : CSt}  : KW5 (B_X8_isTooWide_0 N l1 l2 u) u := by
  unfold B_X8_isTooWide_0
  refine KW5_if ?_ ?_
  · skip
    refine KW5_if ?_ ?_
    · skip
      exact w5_B_X8_isTooWide_26.tr kw5_rf
    · skip
      refine KW5_if ?_ ?_
      · skip
        exact w5_B_X8_isTooWide_26.tr kw5_rf
      · skip
        exact KW5_some kw5_rf
  · skip
    exact KW5_some kw5_rf
theorem w5_F_X8_isTooWide {N : Nat} {l1 : Int32} {l2 : Int32} {u : CSt}  : KW5 (F_X8_isTooWide N l1 l2 u) u := by
  unfold F_X8_isTooWide
  exact w5_B_X8_isTooWide_0.tr kw5_rf
theorem w5_B_X8_combine_25 {N : Nat} {l4 : Int32} {l5 : Int32} {s0 : Nat} {s1 : Int32} {s2 : Int32} {s3 : Int32} {u : CSt}  : KW5 (B_X8_combine_25 N l4 l5 s0 s1 s2 s3 u) u := by
  unfold B_X8_combine_25
  refine KW5_bc (w5_F_X6_step.tr kw5_rf) (fun _ _ => ?_)
  refine KW5_if ?_ ?_
  · skip
    exact KW5_some kw5_rf
  · skip
    exact KW5_some kw5_rf
theorem w5_B_X8_combine_0 {N : Nat} {l1 : Int32} {l2 : Int32} {l3 : Int32} {l4 : Int32} {u : CSt}  : KW5 (B_X8_combine_0 N l1 l2 l3 l4 u) u := by
  unfold B_X8_combine_0
  refine KW5_ok ?_
  refine KW5_if ?_ ?_
  · skip
    exact w5_B_X8_combine_25.tr kw5_rf
  · skip
    exact w5_B_X8_combine_25.tr kw5_rf
theorem w5_F_X8_combine {N : Nat} {l1 : Int32} {l2 : Int32} {l3 : Int32} {l4 : Int32} {u : CSt}  : KW5 (F_X8_combine N l1 l2 l3 l4 u) u := by
  unfold F_X8_combine
  exact w5_B_X8_combine_0.tr kw5_rf
theorem w5_B_X8_defer_121 {N : Nat} {u : CSt}  : KW5 (B_X8_defer_121 N u) u := by
  unfold B_X8_defer_121
  refine KW5_bc (w5_F_X9_next.tr kw5_rf) (fun _ _ => ?_)
  exact KW5_some kw5_rf
theorem w5_B_X8_defer_41 {N : Nat} {l1 : Int32} {l2 : Int32} {l3 : Int32} {s0 : Int32} {u : CSt}  : KW5 (B_X8_defer_41 N l1 l2 l3 s0 u) u := by
  unfold B_X8_defer_41
  refine KW5_ok ?_
  refine KW5_bc (w5_F_X6_step.tr kw5_rf) (fun _ _ => ?_)
  refine KW5_if ?_ ?_
  · skip
    exact w5_B_X8_defer_121.tr kw5_rf
  · skip
    refine KW5_wc ?_
    refine KW5_wc ?_
    refine KW5_wc ?_
    refine KW5_wc ?_
    refine KW5_pc ?_
    exact w5_B_X8_defer_121.tr (f5_xI (f5_xA (f5_xA (f5_xA (f5_xA kw5_rf)))))
theorem w5_B_X8_defer_0 {N : Nat} {l1 : Int32} {u : CSt}  : KW5 (B_X8_defer_0 N l1 u) u := by
  unfold B_X8_defer_0
  refine KW5_bc (w5_F_X9_type.tr kw5_rf) (fun _ _ => ?_)
  refine KW5_bc (w5_F_X9_here.tr kw5_rf) (fun _ _ => ?_)
  refine KW5_if ?_ ?_
  · skip
    exact w5_B_X8_defer_41.tr kw5_rf
  · skip
    refine KW5_if ?_ ?_
    · skip
      exact w5_B_X8_defer_41.tr kw5_rf
    · skip
      exact w5_B_X8_defer_41.tr kw5_rf
theorem w5_F_X8_defer {N : Nat} {l1 : Int32} {u : CSt}  : KW5 (F_X8_defer N l1 u) u := by
  unfold F_X8_defer
  exact w5_B_X8_defer_0.tr kw5_rf
theorem w5_B_X8_settle_171 {N : Nat} {R_3 : Int32 × Int32 × Int32 × CSt → Option (Int32 × CSt)} {l1 : Int32} {l2 : Int32} {l4 : Int32} {u : CSt} (h_R_3 : ∀ a, KW5 (R_3 a) a.2.2.2) : KW5 (B_X8_settle_171 N R_3 l1 l2 l4 u) u := by
  unfold B_X8_settle_171
  exact (h_R_3 _).tr kw5_rf
theorem w5_B_X8_settle_84 {N : Nat} {R_3 : Int32 × Int32 × Int32 × CSt → Option (Int32 × CSt)} {l1 : Int32} {l2 : Int32} {l6 : Int32} {u : CSt} (h_R_3 : ∀ a, KW5 (R_3 a) a.2.2.2) : KW5 (B_X8_settle_84 N R_3 l1 l2 l6 u) u := by
  unfold B_X8_settle_84
  refine KW5_ok ?_
  refine KW5_bc (w5_F_X6_step.tr kw5_rf) (fun _ _ => ?_)
  refine KW5_ok ?_
  refine KW5_rd (fun _ => ?_)
  refine KW5_bc (w5_F_X6_land.tr kw5_rf) (fun _ _ => ?_)
  exact (w5_B_X8_settle_171 h_R_3).tr kw5_rf
theorem w5_B_X8_settle_3 {N : Nat} {R_3 : Int32 × Int32 × Int32 × CSt → Option (Int32 × CSt)} {l1 : Int32} {l2 : Int32} {l4 : Int32} {u : CSt} (h_R_3 : ∀ a, KW5 (R_3 a) a.2.2.2) : KW5 (B_X8_settle_3 N R_3 l1 l2 l4 u) u := by
  unfold B_X8_settle_3
  refine KW5_if ?_ ?_
  · skip
    exact KW5_some kw5_rf
  · skip
    refine KW5_rd (fun _ => ?_)
    refine KW5_pb (fun _ => ?_)
    refine KW5_if ?_ ?_
    · skip
      exact KW5_some kw5_rf
    · skip
      refine KW5_pc ?_
      refine KW5_rd (fun _ => ?_)
      refine KW5_rd (fun _ => ?_)
      refine KW5_pb (fun _ => ?_)
      refine KW5_if ?_ ?_
      · skip
        exact (w5_B_X8_settle_84 h_R_3).tr (f5_xI kw5_rf)
      · skip
        refine KW5_if ?_ ?_
        · skip
          exact (w5_B_X8_settle_84 h_R_3).tr (f5_xI kw5_rf)
        · skip
          refine KW5_if ?_ ?_
          · skip
            refine KW5_pb (fun _ => ?_)
            refine KW5_rd (fun _ => ?_)
            refine KW5_bc (w5_F_X8_combine.tr (f5_xI kw5_rf)) (fun _ _ => ?_)
            exact (w5_B_X8_settle_171 h_R_3).tr kw5_rf
          · skip
            refine KW5_ok ?_
            refine KW5_bc (w5_F_X6_step.tr (f5_xI kw5_rf)) (fun _ _ => ?_)
            exact (w5_B_X8_settle_171 h_R_3).tr kw5_rf
theorem w5_LP_X8_settle_3 {N : Nat}  (n : Nat) : ∀ a : Int32 × Int32 × Int32 × CSt, KW5 (LP_X8_settle_3 N n a) a.2.2.2 := by
  induction n with
  | zero => exact fun a r z e => by have e : (none : Option _) = some (r, z) := e; cases e
  | succ n ih =>
    intro a
    show KW5 (B_X8_settle_3 N (LP_X8_settle_3 N n) a.1 a.2.1 a.2.2.1 a.2.2.2) a.2.2.2
    exact w5_B_X8_settle_3 ih
theorem w5_B_X8_settle_0 {N : Nat} {l1 : Int32} {l2 : Int32} {l3 : Int32} {u : CSt}  : KW5 (B_X8_settle_0 N l1 l2 l3 u) u := by
  unfold B_X8_settle_0
  exact (w5_LP_X8_settle_3  _ _).tr kw5_rf
theorem w5_F_X8_settle {N : Nat} {l1 : Int32} {l2 : Int32} {l3 : Int32} {u : CSt}  : KW5 (F_X8_settle N l1 l2 l3 u) u := by
  unfold F_X8_settle
  exact w5_B_X8_settle_0.tr kw5_rf
theorem w5_B_X8_number_15 {N : Nat} {l1 : Int32} {s0 : Int32} {u : CSt}  : KW5 (B_X8_number_15 N l1 s0 u) u := by
  unfold B_X8_number_15
  refine KW5_bt (w5_F_X9_takeNumber.tr kw5_rf) (fun _ _ => ?_)
  refine KW5_pc ?_
  refine KW5_pc ?_
  refine KW5_ok ?_
  refine KW5_bc (w5_F_X6_constant.tr (f5_xI (f5_xL kw5_rf))) (fun _ _ => ?_)
  exact KW5_some kw5_rf
theorem w5_B_X8_number_0 {N : Nat} {l1 : Int32} {u : CSt}  : KW5 (B_X8_number_0 N l1 u) u := by
  unfold B_X8_number_0
  refine KW5_bc (w5_F_X9_isWide.tr kw5_rf) (fun _ _ => ?_)
  refine KW5_if ?_ ?_
  · skip
    exact w5_B_X8_number_15.tr kw5_rf
  · skip
    exact w5_B_X8_number_15.tr kw5_rf
theorem w5_F_X8_number {N : Nat} {l1 : Int32} {u : CSt}  : KW5 (F_X8_number N l1 u) u := by
  unfold F_X8_number
  exact w5_B_X8_number_0.tr kw5_rf
theorem w5_B_X8_bit_0 {N : Nat} {l1 : Int32} {u : CSt}  : KW5 (B_X8_bit_0 N l1 u) u := by
  unfold B_X8_bit_0
  refine KW5_bc (w5_F_X9_next.tr kw5_rf) (fun _ _ => ?_)
  refine KW5_rd (fun _ => ?_)
  refine KW5_bt (w5_F_X9_takeBounded.tr kw5_rf) (fun _ _ => ?_)
  exact KW5_some kw5_rf
theorem w5_F_X8_bit {N : Nat} {l1 : Int32} {u : CSt}  : KW5 (F_X8_bit N l1 u) u := by
  unfold F_X8_bit
  exact w5_B_X8_bit_0.tr kw5_rf
theorem w5_B_X8_get_36 {N : Nat} {l1 : Nat} {l2 : Int32} {l3 : Int32} {l4 : Int32} {u : CSt}  : KW5 (B_X8_get_36 N l1 l2 l3 l4 u) u := by
  unfold B_X8_get_36
  refine KW5_ok ?_
  refine KW5_bc (w5_F_X6_step.tr kw5_rf) (fun _ _ => ?_)
  exact KW5_some kw5_rf
theorem w5_B_X8_get_34 {N : Nat} {l1 : Nat} {l2 : Int32} {l3 : Int32} {s0 : Int32} {u : CSt}  : KW5 (B_X8_get_34 N l1 l2 l3 s0 u) u := by
  unfold B_X8_get_34
  exact w5_B_X8_get_36.tr kw5_rf
theorem w5_B_X8_get_12 {N : Nat} {l1 : Nat} {l2 : Int32} {l3 : Int32} {s0 : Int32} {u : CSt}  : KW5 (B_X8_get_12 N l1 l2 l3 s0 u) u := by
  unfold B_X8_get_12
  refine KW5_bc (w5_F_X4_isPlaced.tr kw5_rf) (fun _ _ => ?_)
  refine KW5_if ?_ ?_
  · skip
    exact w5_B_X8_get_36.tr kw5_rf
  · skip
    refine KW5_bc (w5_F_X4_isInput.tr kw5_rf) (fun _ _ => ?_)
    refine KW5_if ?_ ?_
    · skip
      exact w5_B_X8_get_34.tr kw5_rf
    · skip
      exact w5_B_X8_get_34.tr kw5_rf
theorem w5_B_X8_get_0 {N : Nat} {l1 : Nat} {l2 : Int32} {l3 : Int32} {u : CSt}  : KW5 (B_X8_get_0 N l1 l2 l3 u) u := by
  unfold B_X8_get_0
  refine KW5_bc (w5_F_X4_isLocal.tr kw5_rf) (fun _ _ => ?_)
  refine KW5_if ?_ ?_
  · skip
    exact w5_B_X8_get_12.tr kw5_rf
  · skip
    exact w5_B_X8_get_12.tr kw5_rf
theorem w5_F_X8_get {N : Nat} {l1 : Nat} {l2 : Int32} {l3 : Int32} {u : CSt}  : KW5 (F_X8_get N l1 l2 l3 u) u := by
  unfold F_X8_get
  exact w5_B_X8_get_0.tr kw5_rf
theorem w5_B_X8_set_26 {N : Nat} {l1 : Nat} {l2 : Int32} {s0 : Int32} {u : CSt}  : KW5 (B_X8_set_26 N l1 l2 s0 u) u := by
  unfold B_X8_set_26
  refine KW5_ok ?_
  refine KW5_bc (w5_F_X6_step.tr kw5_rf) (fun _ _ => ?_)
  exact KW5_some kw5_rf
theorem w5_B_X8_set_0 {N : Nat} {l1 : Nat} {l2 : Int32} {u : CSt}  : KW5 (B_X8_set_0 N l1 l2 u) u := by
  unfold B_X8_set_0
  refine KW5_bc (w5_F_X4_isLocal.tr kw5_rf) (fun _ _ => ?_)
  refine KW5_if ?_ ?_
  · skip
    refine KW5_bc (w5_F_X4_isPlaced.tr kw5_rf) (fun _ _ => ?_)
    refine KW5_if ?_ ?_
    · skip
      exact w5_B_X8_set_26.tr kw5_rf
    · skip
      exact w5_B_X8_set_26.tr kw5_rf
  · skip
    exact w5_B_X8_set_26.tr kw5_rf
theorem w5_F_X8_set {N : Nat} {l1 : Nat} {l2 : Int32} {u : CSt}  : KW5 (F_X8_set N l1 l2 u) u := by
  unfold F_X8_set
  exact w5_B_X8_set_0.tr kw5_rf
theorem w5_B_X8_expression_0 {N : Nat} {ro : Nat → Nat → Int32 → Int32 → CSt → Option (Sum Nat Int32 × CSt)} {u : CSt} (h_ro : ∀ q z a b u, KW5 (ro q z a b u) u) : KW5 (B_X8_expression_0 N ro u) u := by
  unfold B_X8_expression_0
  refine KW5_bt ((h_ro _ _ _ _ _).tr kw5_rf) (fun _ _ => ?_)
  refine KW5_bc (w5_F_X9_is.tr kw5_rf) (fun _ _ => ?_)
  refine KW5_if ?_ ?_
  · skip
    exact KW5_some kw5_rf
  · skip
    refine KW5_bc (w5_F_X9_here.tr kw5_rf) (fun _ _ => ?_)
    refine KW5_ok ?_
    refine KW5_bc (w5_F_X6_step.tr kw5_rf) (fun _ _ => ?_)
    refine KW5_bc (w5_F_X9_next.tr kw5_rf) (fun _ _ => ?_)
    refine KW5_bt ((h_ro _ _ _ _ _).tr kw5_rf) (fun _ _ => ?_)
    refine KW5_ok ?_
    refine KW5_bc (w5_F_X6_step.tr kw5_rf) (fun _ _ => ?_)
    refine KW5_ok ?_
    refine KW5_bc (w5_F_X6_land.tr kw5_rf) (fun _ _ => ?_)
    refine KW5_bc (w5_F_X9_next.tr kw5_rf) (fun _ _ => ?_)
    refine KW5_bt ((h_ro _ _ _ _ _).tr kw5_rf) (fun _ _ => ?_)
    refine KW5_ok ?_
    refine KW5_bc (w5_F_X6_land.tr kw5_rf) (fun _ _ => ?_)
    refine KW5_pc ?_
    exact KW5_some (f5_xI kw5_rf)
theorem w5_F_X8_expression {N : Nat} {ro : Nat → Nat → Int32 → Int32 → CSt → Option (Sum Nat Int32 × CSt)} {u : CSt} (h_ro : ∀ q z a b u, KW5 (ro q z a b u) u) : KW5 (F_X8_expression N ro u) u := by
  unfold F_X8_expression
  exact (w5_B_X8_expression_0 h_ro).tr kw5_rf
theorem w5_B_X8_operators_76 {N : Nat} {ro : Nat → Nat → Int32 → Int32 → CSt → Option (Sum Nat Int32 × CSt)} {l1 : Int32} {l2 : Int32} {u : CSt} (h_ro : ∀ q z a b u, KW5 (ro q z a b u) u) : KW5 (B_X8_operators_76 N ro l1 l2 u) u := by
  unfold B_X8_operators_76
  refine KW5_bc (w5_F_X8_settle.tr kw5_rf) (fun _ _ => ?_)
  exact KW5_some kw5_rf
theorem w5_B_X8_operators_24 {N : Nat} {ro : Nat → Nat → Int32 → Int32 → CSt → Option (Sum Nat Int32 × CSt)} {R_24 : Int32 × Int32 × Int32 × Int32 × CSt → Option ((Sum Nat Int32) × CSt)} {l1 : Int32} {l2 : Int32} {l3 : Int32} {l4 : Int32} {u : CSt} (h_ro : ∀ q z a b u, KW5 (ro q z a b u) u) (h_R_24 : ∀ a, KW5 (R_24 a) a.2.2.2.2) : KW5 (B_X8_operators_24 N ro R_24 l1 l2 l3 l4 u) u := by
  unfold B_X8_operators_24
  refine KW5_if ?_ ?_
  · skip
    exact (w5_B_X8_operators_76 h_ro).tr kw5_rf
  · skip
    refine KW5_if ?_ ?_
    · skip
      exact (w5_B_X8_operators_76 h_ro).tr kw5_rf
    · skip
      refine KW5_bc (w5_F_X8_settle.tr kw5_rf) (fun _ _ => ?_)
      refine KW5_bc (w5_F_X8_defer.tr kw5_rf) (fun _ _ => ?_)
      refine KW5_bt ((h_ro _ _ _ _ _).tr kw5_rf) (fun _ _ => ?_)
      refine KW5_pc ?_
      refine KW5_bc (w5_F_X9_type.tr (f5_xI kw5_rf)) (fun _ _ => ?_)
      refine KW5_pb (fun _ => ?_)
      exact (h_R_24 _).tr kw5_rf
theorem w5_LP_X8_operators_24 {N : Nat} {ro : Nat → Nat → Int32 → Int32 → CSt → Option (Sum Nat Int32 × CSt)} (h_ro : ∀ q z a b u, KW5 (ro q z a b u) u) (n : Nat) : ∀ a : Int32 × Int32 × Int32 × Int32 × CSt, KW5 (LP_X8_operators_24 N ro n a) a.2.2.2.2 := by
  induction n with
  | zero => exact fun a r z e => by have e : (none : Option _) = some (r, z) := e; cases e
  | succ n ih =>
    intro a
    show KW5 (B_X8_operators_24 N ro (LP_X8_operators_24 N ro n) a.1 a.2.1 a.2.2.1 a.2.2.2.1 a.2.2.2.2) a.2.2.2.2
    exact w5_B_X8_operators_24 h_ro ih
theorem w5_B_X8_operators_0 {N : Nat} {ro : Nat → Nat → Int32 → Int32 → CSt → Option (Sum Nat Int32 × CSt)} {u : CSt} (h_ro : ∀ q z a b u, KW5 (ro q z a b u) u) : KW5 (B_X8_operators_0 N ro u) u := by
  unfold B_X8_operators_0
  refine KW5_bt ((h_ro _ _ _ _ _).tr kw5_rf) (fun _ _ => ?_)
  refine KW5_bc (w5_F_X9_type.tr kw5_rf) (fun _ _ => ?_)
  refine KW5_pb (fun _ => ?_)
  exact (w5_LP_X8_operators_24 h_ro _ _).tr kw5_rf
theorem w5_F_X8_operators {N : Nat} {ro : Nat → Nat → Int32 → Int32 → CSt → Option (Sum Nat Int32 × CSt)} {u : CSt} (h_ro : ∀ q z a b u, KW5 (ro q z a b u) u) : KW5 (F_X8_operators N ro u) u := by
  unfold F_X8_operators
  exact (w5_B_X8_operators_0 h_ro).tr kw5_rf
theorem w5_B_X8_operand_0 {N : Nat} {ro : Nat → Nat → Int32 → Int32 → CSt → Option (Sum Nat Int32 × CSt)} {u : CSt} (h_ro : ∀ q z a b u, KW5 (ro q z a b u) u) : KW5 (B_X8_operand_0 N ro u) u := by
  unfold B_X8_operand_0
  refine KW5_bc (w5_F_X9_here.tr kw5_rf) (fun _ _ => ?_)
  refine KW5_bc (w5_F_X9_type.tr kw5_rf) (fun _ _ => ?_)
  refine KW5_if ?_ ?_
  · skip
    refine KW5_ok ?_
    refine KW5_bc (w5_F_X6_step.tr kw5_rf) (fun _ _ => ?_)
    refine KW5_bc (w5_F_X9_next.tr kw5_rf) (fun _ _ => ?_)
    refine KW5_pc ?_
    exact KW5_some (f5_xI kw5_rf)
  · skip
    refine KW5_if ?_ ?_
    · skip
      refine KW5_bt ((h_ro _ _ _ _ _).tr kw5_rf) (fun _ _ => ?_)
      exact KW5_some kw5_rf
    · skip
      refine KW5_if ?_ ?_
      · skip
        refine KW5_bt ((h_ro _ _ _ _ _).tr kw5_rf) (fun _ _ => ?_)
        exact KW5_some kw5_rf
      · skip
        refine KW5_if ?_ ?_
        · skip
          refine KW5_bt ((h_ro _ _ _ _ _).tr kw5_rf) (fun _ _ => ?_)
          exact KW5_some kw5_rf
        · skip
          refine KW5_if ?_ ?_
          · skip
            refine KW5_bt ((h_ro _ _ _ _ _).tr kw5_rf) (fun _ _ => ?_)
            exact KW5_some kw5_rf
          · skip
            refine KW5_if ?_ ?_
            · skip
              refine KW5_bt (w5_F_X8_number.tr kw5_rf) (fun _ _ => ?_)
              exact KW5_some kw5_rf
            · skip
              refine KW5_if ?_ ?_
              · skip
                refine KW5_bt (w5_F_X8_number.tr kw5_rf) (fun _ _ => ?_)
                exact KW5_some kw5_rf
              · skip
                refine KW5_bt ((h_ro _ _ _ _ _).tr kw5_rf) (fun _ _ => ?_)
                exact KW5_some kw5_rf
theorem w5_F_X8_operand {N : Nat} {ro : Nat → Nat → Int32 → Int32 → CSt → Option (Sum Nat Int32 × CSt)} {u : CSt} (h_ro : ∀ q z a b u, KW5 (ro q z a b u) u) : KW5 (F_X8_operand N ro u) u := by
  unfold F_X8_operand
  exact (w5_B_X8_operand_0 h_ro).tr kw5_rf
theorem w5_B_X8_signed_146 {N : Nat} {ro : Nat → Nat → Int32 → Int32 → CSt → Option (Sum Nat Int32 × CSt)} {l2 : Int32} {l4 : Int32} {s1 : Int32} {u : CSt} (h_ro : ∀ q z a b u, KW5 (ro q z a b u) u) : KW5 (B_X8_signed_146 N ro l2 l4 s1 u) u := by
  unfold B_X8_signed_146
  refine KW5_pc ?_
  refine KW5_if ?_ ?_
  · skip
    exact KW5_some (f5_xL kw5_rf)
  · skip
    exact KW5_some (f5_xL kw5_rf)
theorem w5_B_X8_signed_131 {N : Nat} {ro : Nat → Nat → Int32 → Int32 → CSt → Option (Sum Nat Int32 × CSt)} {l2 : Int32} {l4 : Int32} {s1 : Int32} {u : CSt} (h_ro : ∀ q z a b u, KW5 (ro q z a b u) u) : KW5 (B_X8_signed_131 N ro l2 l4 s1 u) u := by
  unfold B_X8_signed_131
  refine KW5_zr ?_
  refine KW5_pc ?_
  refine KW5_if ?_ ?_
  · skip
    exact (w5_B_X8_signed_146 h_ro).tr (f5_xI kw5_rf)
  · skip
    exact (w5_B_X8_signed_146 h_ro).tr (f5_xI kw5_rf)
theorem w5_B_X8_signed_130 {N : Nat} {ro : Nat → Nat → Int32 → Int32 → CSt → Option (Sum Nat Int32 × CSt)} {l2 : Int32} {l4 : Int32} {u : CSt} (h_ro : ∀ q z a b u, KW5 (ro q z a b u) u) : KW5 (B_X8_signed_130 N ro l2 l4 u) u := by
  unfold B_X8_signed_130
  exact (w5_B_X8_signed_131 h_ro).tr kw5_rf
theorem w5_B_X8_signed_110 {N : Nat} {ro : Nat → Nat → Int32 → Int32 → CSt → Option (Sum Nat Int32 × CSt)} {l1 : Int32} {l2 : Int32} {l3 : Int32} {l4 : Int32} {s0 : Nat} {s1 : Int32} {s2 : Int32} {s3 : Int32} {u : CSt} (h_ro : ∀ q z a b u, KW5 (ro q z a b u) u) : KW5 (B_X8_signed_110 N ro l1 l2 l3 l4 s0 s1 s2 s3 u) u := by
  unfold B_X8_signed_110
  refine KW5_bc (w5_F_X6_step.tr kw5_rf) (fun _ _ => ?_)
  refine KW5_if ?_ ?_
  · skip
    refine KW5_if ?_ ?_
    · skip
      exact (w5_B_X8_signed_130 h_ro).tr kw5_rf
    · skip
      exact (w5_B_X8_signed_131 h_ro).tr kw5_rf
  · skip
    exact (w5_B_X8_signed_130 h_ro).tr kw5_rf
theorem w5_B_X8_signed_89 {N : Nat} {ro : Nat → Nat → Int32 → Int32 → CSt → Option (Sum Nat Int32 × CSt)} {l1 : Int32} {l2 : Int32} {l3 : Int32} {l4 : Int32} {s0 : Int32} {u : CSt} (h_ro : ∀ q z a b u, KW5 (ro q z a b u) u) : KW5 (B_X8_signed_89 N ro l1 l2 l3 l4 s0 u) u := by
  unfold B_X8_signed_89
  refine KW5_ok ?_
  refine KW5_if ?_ ?_
  · skip
    exact (w5_B_X8_signed_110 h_ro).tr kw5_rf
  · skip
    exact (w5_B_X8_signed_110 h_ro).tr kw5_rf
theorem w5_B_X8_signed_54 {N : Nat} {ro : Nat → Nat → Int32 → Int32 → CSt → Option (Sum Nat Int32 × CSt)} {l1 : Int32} {l2 : Int32} {s0 : Int32} {u : CSt} (h_ro : ∀ q z a b u, KW5 (ro q z a b u) u) : KW5 (B_X8_signed_54 N ro l1 l2 s0 u) u := by
  unfold B_X8_signed_54
  refine KW5_bt ((h_ro _ _ _ _ _).tr kw5_rf) (fun _ _ => ?_)
  refine KW5_if ?_ ?_
  · skip
    exact (w5_B_X8_signed_89 h_ro).tr kw5_rf
  · skip
    refine KW5_if ?_ ?_
    · skip
      exact (w5_B_X8_signed_89 h_ro).tr kw5_rf
    · skip
      exact (w5_B_X8_signed_89 h_ro).tr kw5_rf
theorem w5_B_X8_signed_49 {N : Nat} {ro : Nat → Nat → Int32 → Int32 → CSt → Option (Sum Nat Int32 × CSt)} {l1 : Int32} {l2 : Int32} {u : CSt} (h_ro : ∀ q z a b u, KW5 (ro q z a b u) u) : KW5 (B_X8_signed_49 N ro l1 l2 u) u := by
  unfold B_X8_signed_49
  exact (w5_B_X8_signed_54 h_ro).tr kw5_rf
theorem w5_B_X8_signed_0 {N : Nat} {ro : Nat → Nat → Int32 → Int32 → CSt → Option (Sum Nat Int32 × CSt)} {l1 : Int32} {u : CSt} (h_ro : ∀ q z a b u, KW5 (ro q z a b u) u) : KW5 (B_X8_signed_0 N ro l1 u) u := by
  unfold B_X8_signed_0
  refine KW5_bc (w5_F_X9_type.tr kw5_rf) (fun _ _ => ?_)
  refine KW5_ok ?_
  refine KW5_bc (w5_F_X6_cost.tr kw5_rf) (fun _ _ => ?_)
  refine KW5_bc (w5_F_X9_next.tr kw5_rf) (fun _ _ => ?_)
  refine KW5_bc (w5_F_X9_is.tr kw5_rf) (fun _ _ => ?_)
  refine KW5_if ?_ ?_
  · skip
    refine KW5_bc (w5_F_X9_is.tr kw5_rf) (fun _ _ => ?_)
    refine KW5_if ?_ ?_
    · skip
      exact (w5_B_X8_signed_54 h_ro).tr kw5_rf
    · skip
      exact (w5_B_X8_signed_49 h_ro).tr kw5_rf
  · skip
    exact (w5_B_X8_signed_49 h_ro).tr kw5_rf
theorem w5_F_X8_signed {N : Nat} {ro : Nat → Nat → Int32 → Int32 → CSt → Option (Sum Nat Int32 × CSt)} {l1 : Int32} {u : CSt} (h_ro : ∀ q z a b u, KW5 (ro q z a b u) u) : KW5 (F_X8_signed N ro l1 u) u := by
  unfold F_X8_signed
  exact (w5_B_X8_signed_0 h_ro).tr kw5_rf
theorem w5_B_X8_bracket_0 {N : Nat} {ro : Nat → Nat → Int32 → Int32 → CSt → Option (Sum Nat Int32 × CSt)} {l1 : Int32} {u : CSt} (h_ro : ∀ q z a b u, KW5 (ro q z a b u) u) : KW5 (B_X8_bracket_0 N ro l1 u) u := by
  unfold B_X8_bracket_0
  refine KW5_bc (w5_F_X9_next.tr kw5_rf) (fun _ _ => ?_)
  refine KW5_bc (w5_F_X9_isKindWord.tr kw5_rf) (fun _ _ => ?_)
  refine KW5_if ?_ ?_
  · skip
    refine KW5_bt ((h_ro _ _ _ _ _).tr kw5_rf) (fun _ _ => ?_)
    refine KW5_bc (w5_F_X9_next.tr kw5_rf) (fun _ _ => ?_)
    exact KW5_some kw5_rf
  · skip
    refine KW5_bc (w5_F_X9_takeKind.tr kw5_rf) (fun _ _ => ?_)
    refine KW5_bc (w5_F_X9_next.tr kw5_rf) (fun _ _ => ?_)
    refine KW5_ok ?_
    refine KW5_bc (w5_F_X6_cost.tr kw5_rf) (fun _ _ => ?_)
    refine KW5_bt ((h_ro _ _ _ _ _).tr kw5_rf) (fun _ _ => ?_)
    refine KW5_ok ?_
    refine KW5_bc (w5_F_X6_step.tr kw5_rf) (fun _ _ => ?_)
    refine KW5_pc ?_
    exact KW5_some (f5_xI kw5_rf)
theorem w5_F_X8_bracket {N : Nat} {ro : Nat → Nat → Int32 → Int32 → CSt → Option (Sum Nat Int32 × CSt)} {l1 : Int32} {u : CSt} (h_ro : ∀ q z a b u, KW5 (ro q z a b u) u) : KW5 (F_X8_bracket N ro l1 u) u := by
  unfold F_X8_bracket
  exact (w5_B_X8_bracket_0 h_ro).tr kw5_rf
theorem w5_B_X8_named_58 {N : Nat} {ro : Nat → Nat → Int32 → Int32 → CSt → Option (Sum Nat Int32 × CSt)} {l1 : Int32} {u : CSt} (h_ro : ∀ q z a b u, KW5 (ro q z a b u) u) : KW5 (B_X8_named_58 N ro l1 u) u := by
  unfold B_X8_named_58
  refine KW5_bt ((h_ro _ _ _ _ _).tr kw5_rf) (fun _ _ => ?_)
  refine KW5_pc ?_
  exact KW5_some (f5_xI kw5_rf)
theorem w5_B_X8_named_0 {N : Nat} {ro : Nat → Nat → Int32 → Int32 → CSt → Option (Sum Nat Int32 × CSt)} {l1 : Int32} {u : CSt} (h_ro : ∀ q z a b u, KW5 (ro q z a b u) u) : KW5 (B_X8_named_0 N ro l1 u) u := by
  unfold B_X8_named_0
  refine KW5_bc (w5_F_X9_typeAhead.tr kw5_rf) (fun _ _ => ?_)
  refine KW5_if ?_ ?_
  · skip
    refine KW5_bt ((h_ro _ _ _ _ _).tr kw5_rf) (fun _ _ => ?_)
    refine KW5_pc ?_
    exact KW5_some (f5_xI kw5_rf)
  · skip
    refine KW5_bc (w5_F_X9_typeAhead.tr kw5_rf) (fun _ _ => ?_)
    refine KW5_if ?_ ?_
    · skip
      refine KW5_bc (w5_F_X9_typeAhead.tr kw5_rf) (fun _ _ => ?_)
      refine KW5_if ?_ ?_
      · skip
        refine KW5_bt ((h_ro _ _ _ _ _).tr kw5_rf) (fun _ _ => ?_)
        refine KW5_pc ?_
        exact KW5_some (f5_xI kw5_rf)
      · skip
        exact (w5_B_X8_named_58 h_ro).tr kw5_rf
    · skip
      exact (w5_B_X8_named_58 h_ro).tr kw5_rf
theorem w5_F_X8_named {N : Nat} {ro : Nat → Nat → Int32 → Int32 → CSt → Option (Sum Nat Int32 × CSt)} {l1 : Int32} {u : CSt} (h_ro : ∀ q z a b u, KW5 (ro q z a b u) u) : KW5 (F_X8_named N ro l1 u) u := by
  unfold F_X8_named
  exact (w5_B_X8_named_0 h_ro).tr kw5_rf
theorem w5_B_X8_ofPlace_58 {N : Nat} {ro : Nat → Nat → Int32 → Int32 → CSt → Option (Sum Nat Int32 × CSt)} {l1 : Int32} {l2 : Nat} {u : CSt} (h_ro : ∀ q z a b u, KW5 (ro q z a b u) u) : KW5 (B_X8_ofPlace_58 N ro l1 l2 u) u := by
  unfold B_X8_ofPlace_58
  refine KW5_bc (w5_F_X9_is.tr kw5_rf) (fun _ _ => ?_)
  refine KW5_if ?_ ?_
  · skip
    exact KW5_some kw5_rf
  · skip
    refine KW5_ok ?_
    refine KW5_bt (w5_F_X8_bit.tr kw5_rf) (fun _ _ => ?_)
    refine KW5_bc (w5_F_X6_step.tr kw5_rf) (fun _ _ => ?_)
    exact KW5_some kw5_rf
theorem w5_B_X8_ofPlace_0 {N : Nat} {ro : Nat → Nat → Int32 → Int32 → CSt → Option (Sum Nat Int32 × CSt)} {l1 : Int32} {u : CSt} (h_ro : ∀ q z a b u, KW5 (ro q z a b u) u) : KW5 (B_X8_ofPlace_0 N ro l1 u) u := by
  unfold B_X8_ofPlace_0
  refine KW5_bt (w5_F_X8_placeName.tr kw5_rf) (fun _ _ => ?_)
  refine KW5_ok ?_
  refine KW5_bc (w5_F_X9_next.tr kw5_rf) (fun _ _ => ?_)
  refine KW5_if ?_ ?_
  · skip
    refine KW5_bc (w5_F_X8_get.tr kw5_rf) (fun _ _ => ?_)
    exact (w5_B_X8_ofPlace_58 h_ro).tr kw5_rf
  · skip
    refine KW5_ok ?_
    refine KW5_bc (w5_F_X6_cost.tr kw5_rf) (fun _ _ => ?_)
    refine KW5_bt ((h_ro _ _ _ _ _).tr kw5_rf) (fun _ _ => ?_)
    refine KW5_ok ?_
    refine KW5_bc (w5_F_X6_step.tr kw5_rf) (fun _ _ => ?_)
    exact (w5_B_X8_ofPlace_58 h_ro).tr kw5_rf
theorem w5_F_X8_ofPlace {N : Nat} {ro : Nat → Nat → Int32 → Int32 → CSt → Option (Sum Nat Int32 × CSt)} {l1 : Int32} {u : CSt} (h_ro : ∀ q z a b u, KW5 (ro q z a b u) u) : KW5 (F_X8_ofPlace N ro l1 u) u := by
  unfold F_X8_ofPlace
  exact (w5_B_X8_ofPlace_0 h_ro).tr kw5_rf
theorem w5_B_X8_ofInstance_132 {N : Nat} {ro : Nat → Nat → Int32 → Int32 → CSt → Option (Sum Nat Int32 × CSt)} {l2 : Nat} {l3 : Int32} {l4 : Nat} {u : CSt} (h_ro : ∀ q z a b u, KW5 (ro q z a b u) u) : KW5 (B_X8_ofInstance_132 N ro l2 l3 l4 u) u := by
  unfold B_X8_ofInstance_132
  refine KW5_bc (w5_F_X9_next.tr kw5_rf) (fun _ _ => ?_)
  refine KW5_if ?_ ?_
  · skip
    refine KW5_ok ?_
    refine KW5_bc (w5_F_X6_step.tr kw5_rf) (fun _ _ => ?_)
    exact KW5_some kw5_rf
  · skip
    refine KW5_ok ?_
    refine KW5_bc (w5_F_X6_cost.tr kw5_rf) (fun _ _ => ?_)
    refine KW5_bt ((h_ro _ _ _ _ _).tr kw5_rf) (fun _ _ => ?_)
    refine KW5_ok ?_
    refine KW5_bc (w5_F_X6_step.tr kw5_rf) (fun _ _ => ?_)
    refine KW5_ok ?_
    refine KW5_bc (w5_F_X6_step.tr kw5_rf) (fun _ _ => ?_)
    exact KW5_some kw5_rf
theorem w5_B_X8_ofInstance_120 {N : Nat} {ro : Nat → Nat → Int32 → Int32 → CSt → Option (Sum Nat Int32 × CSt)} {l2 : Nat} {l3 : Int32} {l4 : Nat} {s0 : Int32} {s1 : Int32} {u : CSt} (h_ro : ∀ q z a b u, KW5 (ro q z a b u) u) : KW5 (B_X8_ofInstance_120 N ro l2 l3 l4 s0 s1 u) u := by
  unfold B_X8_ofInstance_120
  refine KW5_if ?_ ?_
  · skip
    exact (w5_B_X8_ofInstance_132 h_ro).tr kw5_rf
  · skip
    refine KW5_bt (w5_F_X9_refuse.tr kw5_rf) (fun _ _ => ?_)
    exact (w5_B_X8_ofInstance_132 h_ro).tr kw5_rf
theorem w5_B_X8_ofInstance_97 {N : Nat} {ro : Nat → Nat → Int32 → Int32 → CSt → Option (Sum Nat Int32 × CSt)} {l2 : Nat} {l3 : Int32} {l4 : Nat} {u : CSt} (h_ro : ∀ q z a b u, KW5 (ro q z a b u) u) : KW5 (B_X8_ofInstance_97 N ro l2 l3 l4 u) u := by
  unfold B_X8_ofInstance_97
  refine KW5_bc (w5_F_X9_typeAhead.tr kw5_rf) (fun _ _ => ?_)
  refine KW5_if ?_ ?_
  · skip
    exact (w5_B_X8_ofInstance_120 h_ro).tr kw5_rf
  · skip
    exact (w5_B_X8_ofInstance_120 h_ro).tr kw5_rf
theorem w5_B_X8_ofInstance_22 {N : Nat} {ro : Nat → Nat → Int32 → Int32 → CSt → Option (Sum Nat Int32 × CSt)} {l2 : Nat} {u : CSt} (h_ro : ∀ q z a b u, KW5 (ro q z a b u) u) : KW5 (B_X8_ofInstance_22 N ro l2 u) u := by
  unfold B_X8_ofInstance_22
  refine KW5_bc (w5_F_X9_next.tr kw5_rf) (fun _ _ => ?_)
  refine KW5_bc (w5_F_X9_next.tr kw5_rf) (fun _ _ => ?_)
  refine KW5_bc (w5_F_X9_here.tr kw5_rf) (fun _ _ => ?_)
  refine KW5_ok ?_
  refine KW5_bc (w5_F_X6_name.tr kw5_rf) (fun _ _ => ?_)
  refine KW5_ok ?_
  refine KW5_bc (w5_F_X9_head.tr kw5_rf) (fun _ _ => ?_)
  refine KW5_bc (w5_F_X9_tail.tr kw5_rf) (fun _ _ => ?_)
  refine KW5_bc (w5_F_X6_localCalled.tr kw5_rf) (fun _ _ => ?_)
  refine KW5_ok ?_
  refine KW5_if ?_ ?_
  · skip
    refine KW5_bt (w5_F_X9_refuse.tr kw5_rf) (fun _ _ => ?_)
    exact (w5_B_X8_ofInstance_97 h_ro).tr kw5_rf
  · skip
    exact (w5_B_X8_ofInstance_97 h_ro).tr kw5_rf
theorem w5_B_X8_ofInstance_0 {N : Nat} {ro : Nat → Nat → Int32 → Int32 → CSt → Option (Sum Nat Int32 × CSt)} {l1 : Int32} {u : CSt} (h_ro : ∀ q z a b u, KW5 (ro q z a b u) u) : KW5 (B_X8_ofInstance_0 N ro l1 u) u := by
  unfold B_X8_ofInstance_0
  refine KW5_bc (w5_F_X8_known.tr kw5_rf) (fun _ _ => ?_)
  refine KW5_ok ?_
  refine KW5_if ?_ ?_
  · skip
    exact (w5_B_X8_ofInstance_22 h_ro).tr kw5_rf
  · skip
    refine KW5_bt (w5_F_X9_refuse.tr kw5_rf) (fun _ _ => ?_)
    exact (w5_B_X8_ofInstance_22 h_ro).tr kw5_rf
theorem w5_F_X8_ofInstance {N : Nat} {ro : Nat → Nat → Int32 → Int32 → CSt → Option (Sum Nat Int32 × CSt)} {l1 : Int32} {u : CSt} (h_ro : ∀ q z a b u, KW5 (ro q z a b u) u) : KW5 (F_X8_ofInstance N ro l1 u) u := by
  unfold F_X8_ofInstance
  exact (w5_B_X8_ofInstance_0 h_ro).tr kw5_rf
theorem w5_B_X8_called_31 {N : Nat} {ro : Nat → Nat → Int32 → Int32 → CSt → Option (Sum Nat Int32 × CSt)} {l1 : Int32} {l2 : Nat} {u : CSt} (h_ro : ∀ q z a b u, KW5 (ro q z a b u) u) : KW5 (B_X8_called_31 N ro l1 l2 u) u := by
  unfold B_X8_called_31
  refine KW5_ok ?_
  refine KW5_bc (w5_F_X6_cost.tr kw5_rf) (fun _ _ => ?_)
  refine KW5_if ?_ ?_
  · skip
    refine KW5_bt ((h_ro _ _ _ _ _).tr kw5_rf) (fun _ _ => ?_)
    exact KW5_some kw5_rf
  · skip
    refine KW5_bt ((h_ro _ _ _ _ _).tr kw5_rf) (fun _ _ => ?_)
    refine KW5_ok ?_
    refine KW5_bc (w5_F_X6_step.tr kw5_rf) (fun _ _ => ?_)
    exact KW5_some kw5_rf
theorem w5_B_X8_called_0 {N : Nat} {ro : Nat → Nat → Int32 → Int32 → CSt → Option (Sum Nat Int32 × CSt)} {l1 : Int32} {u : CSt} (h_ro : ∀ q z a b u, KW5 (ro q z a b u) u) : KW5 (B_X8_called_0 N ro l1 u) u := by
  unfold B_X8_called_0
  refine KW5_bc (w5_F_X8_known.tr kw5_rf) (fun _ _ => ?_)
  refine KW5_ok ?_
  refine KW5_if ?_ ?_
  · skip
    exact (w5_B_X8_called_31 h_ro).tr kw5_rf
  · skip
    refine KW5_if ?_ ?_
    · skip
      exact (w5_B_X8_called_31 h_ro).tr kw5_rf
    · skip
      refine KW5_bt (w5_F_X9_refuse.tr kw5_rf) (fun _ _ => ?_)
      exact (w5_B_X8_called_31 h_ro).tr kw5_rf
theorem w5_F_X8_called {N : Nat} {ro : Nat → Nat → Int32 → Int32 → CSt → Option (Sum Nat Int32 × CSt)} {l1 : Int32} {u : CSt} (h_ro : ∀ q z a b u, KW5 (ro q z a b u) u) : KW5 (F_X8_called N ro l1 u) u := by
  unfold F_X8_called
  exact (w5_B_X8_called_0 h_ro).tr kw5_rf
theorem w5_B_X8_builtIn_71 {N : Nat} {ro : Nat → Nat → Int32 → Int32 → CSt → Option (Sum Nat Int32 × CSt)} {R_22 : Nat × Int32 × Int32 × Int32 × Int32 × CSt → Option ((Sum Nat Int32) × CSt)} {l1 : Nat} {l2 : Int32} {l4 : Int32} {l5 : Int32} {l6 : Int32} {s0 : Int32} {u : CSt} (h_ro : ∀ q z a b u, KW5 (ro q z a b u) u) (h_R_22 : ∀ a, KW5 (R_22 a) a.2.2.2.2.2) : KW5 (B_X8_builtIn_71 N ro R_22 l1 l2 l4 l5 l6 s0 u) u := by
  unfold B_X8_builtIn_71
  exact (h_R_22 _).tr kw5_rf
theorem w5_B_X8_builtIn_54 {N : Nat} {ro : Nat → Nat → Int32 → Int32 → CSt → Option (Sum Nat Int32 × CSt)} {R_22 : Nat × Int32 × Int32 × Int32 × Int32 × CSt → Option ((Sum Nat Int32) × CSt)} {l1 : Nat} {l2 : Int32} {l3 : Int32} {l4 : Int32} {l5 : Int32} {u : CSt} (h_ro : ∀ q z a b u, KW5 (ro q z a b u) u) (h_R_22 : ∀ a, KW5 (R_22 a) a.2.2.2.2.2) : KW5 (B_X8_builtIn_54 N ro R_22 l1 l2 l3 l4 l5 u) u := by
  unfold B_X8_builtIn_54
  refine KW5_bt ((h_ro _ _ _ _ _).tr kw5_rf) (fun _ _ => ?_)
  refine KW5_if ?_ ?_
  · skip
    exact (w5_B_X8_builtIn_71 h_ro h_R_22).tr kw5_rf
  · skip
    exact (w5_B_X8_builtIn_71 h_ro h_R_22).tr kw5_rf
theorem w5_B_X8_builtIn_215 {N : Nat} {ro : Nat → Nat → Int32 → Int32 → CSt → Option (Sum Nat Int32 × CSt)} {u : CSt} (h_ro : ∀ q z a b u, KW5 (ro q z a b u) u) : KW5 (B_X8_builtIn_215 N ro u) u := by
  unfold B_X8_builtIn_215
  exact KW5_some kw5_rf
theorem w5_B_X8_builtIn_192 {N : Nat} {ro : Nat → Nat → Int32 → Int32 → CSt → Option (Sum Nat Int32 × CSt)} {l1 : Nat} {l2 : Int32} {l7 : Int32} {s0 : Nat} {s1 : Int32} {s2 : Int32} {s3 : Int32} {u : CSt} (h_ro : ∀ q z a b u, KW5 (ro q z a b u) u) : KW5 (B_X8_builtIn_192 N ro l1 l2 l7 s0 s1 s2 s3 u) u := by
  unfold B_X8_builtIn_192
  refine KW5_bc (w5_F_X6_step.tr kw5_rf) (fun _ _ => ?_)
  refine KW5_if ?_ ?_
  · skip
    exact (w5_B_X8_builtIn_215 h_ro).tr kw5_rf
  · skip
    refine KW5_if ?_ ?_
    · skip
      exact (w5_B_X8_builtIn_215 h_ro).tr kw5_rf
    · skip
      exact KW5_some kw5_rf
theorem w5_B_X8_builtIn_169 {N : Nat} {ro : Nat → Nat → Int32 → Int32 → CSt → Option (Sum Nat Int32 × CSt)} {l1 : Nat} {l2 : Int32} {l7 : Int32} {s0 : Int32} {u : CSt} (h_ro : ∀ q z a b u, KW5 (ro q z a b u) u) : KW5 (B_X8_builtIn_169 N ro l1 l2 l7 s0 u) u := by
  unfold B_X8_builtIn_169
  refine KW5_ok ?_
  refine KW5_if ?_ ?_
  · skip
    exact (w5_B_X8_builtIn_192 h_ro).tr kw5_rf
  · skip
    exact (w5_B_X8_builtIn_192 h_ro).tr kw5_rf
theorem w5_B_X8_builtIn_152 {N : Nat} {ro : Nat → Nat → Int32 → Int32 → CSt → Option (Sum Nat Int32 × CSt)} {l1 : Nat} {l2 : Int32} {s0 : Int32} {u : CSt} (h_ro : ∀ q z a b u, KW5 (ro q z a b u) u) : KW5 (B_X8_builtIn_152 N ro l1 l2 s0 u) u := by
  unfold B_X8_builtIn_152
  refine KW5_if ?_ ?_
  · skip
    exact (w5_B_X8_builtIn_169 h_ro).tr kw5_rf
  · skip
    exact (w5_B_X8_builtIn_169 h_ro).tr kw5_rf
theorem w5_B_X8_builtIn_135 {N : Nat} {ro : Nat → Nat → Int32 → Int32 → CSt → Option (Sum Nat Int32 × CSt)} {l1 : Nat} {l2 : Int32} {l3 : Int32} {l4 : Int32} {s0 : Int32} {u : CSt} (h_ro : ∀ q z a b u, KW5 (ro q z a b u) u) : KW5 (B_X8_builtIn_135 N ro l1 l2 l3 l4 s0 u) u := by
  unfold B_X8_builtIn_135
  refine KW5_if ?_ ?_
  · skip
    exact (w5_B_X8_builtIn_152 h_ro).tr kw5_rf
  · skip
    exact (w5_B_X8_builtIn_152 h_ro).tr kw5_rf
theorem w5_B_X8_builtIn_130 {N : Nat} {ro : Nat → Nat → Int32 → Int32 → CSt → Option (Sum Nat Int32 × CSt)} {l1 : Nat} {l2 : Int32} {l3 : Int32} {l4 : Int32} {u : CSt} (h_ro : ∀ q z a b u, KW5 (ro q z a b u) u) : KW5 (B_X8_builtIn_130 N ro l1 l2 l3 l4 u) u := by
  unfold B_X8_builtIn_130
  exact (w5_B_X8_builtIn_135 h_ro).tr kw5_rf
theorem w5_B_X8_builtIn_112 {N : Nat} {ro : Nat → Nat → Int32 → Int32 → CSt → Option (Sum Nat Int32 × CSt)} {l1 : Nat} {l2 : Int32} {l3 : Int32} {l4 : Int32} {u : CSt} (h_ro : ∀ q z a b u, KW5 (ro q z a b u) u) : KW5 (B_X8_builtIn_112 N ro l1 l2 l3 l4 u) u := by
  unfold B_X8_builtIn_112
  refine KW5_if ?_ ?_
  · skip
    exact (w5_B_X8_builtIn_130 h_ro).tr kw5_rf
  · skip
    refine KW5_if ?_ ?_
    · skip
      exact (w5_B_X8_builtIn_130 h_ro).tr kw5_rf
    · skip
      exact (w5_B_X8_builtIn_135 h_ro).tr kw5_rf
theorem w5_B_X8_builtIn_87 {N : Nat} {ro : Nat → Nat → Int32 → Int32 → CSt → Option (Sum Nat Int32 × CSt)} {l1 : Nat} {l2 : Int32} {l3 : Int32} {l4 : Int32} {l5 : Int32} {u : CSt} (h_ro : ∀ q z a b u, KW5 (ro q z a b u) u) : KW5 (B_X8_builtIn_87 N ro l1 l2 l3 l4 l5 u) u := by
  unfold B_X8_builtIn_87
  refine KW5_bc (w5_F_X9_next.tr kw5_rf) (fun _ _ => ?_)
  refine KW5_if ?_ ?_
  · skip
    exact (w5_B_X8_builtIn_112 h_ro).tr kw5_rf
  · skip
    refine KW5_bt (w5_F_X9_refuse.tr kw5_rf) (fun _ _ => ?_)
    exact (w5_B_X8_builtIn_112 h_ro).tr kw5_rf
theorem w5_B_X8_builtIn_22 {N : Nat} {ro : Nat → Nat → Int32 → Int32 → CSt → Option (Sum Nat Int32 × CSt)} {R_22 : Nat × Int32 × Int32 × Int32 × Int32 × CSt → Option ((Sum Nat Int32) × CSt)} {l1 : Nat} {l2 : Int32} {l3 : Int32} {l4 : Int32} {l5 : Int32} {u : CSt} (h_ro : ∀ q z a b u, KW5 (ro q z a b u) u) (h_R_22 : ∀ a, KW5 (R_22 a) a.2.2.2.2.2) : KW5 (B_X8_builtIn_22 N ro R_22 l1 l2 l3 l4 l5 u) u := by
  unfold B_X8_builtIn_22
  refine KW5_if ?_ ?_
  · skip
    exact (w5_B_X8_builtIn_87 h_ro).tr kw5_rf
  · skip
    refine KW5_bc (w5_F_X9_is.tr kw5_rf) (fun _ _ => ?_)
    refine KW5_if ?_ ?_
    · skip
      refine KW5_if ?_ ?_
      · skip
        exact (w5_B_X8_builtIn_54 h_ro h_R_22).tr kw5_rf
      · skip
        refine KW5_bc (w5_F_X9_next.tr kw5_rf) (fun _ _ => ?_)
        exact (w5_B_X8_builtIn_54 h_ro h_R_22).tr kw5_rf
    · skip
      exact (w5_B_X8_builtIn_87 h_ro).tr kw5_rf
theorem w5_LP_X8_builtIn_22 {N : Nat} {ro : Nat → Nat → Int32 → Int32 → CSt → Option (Sum Nat Int32 × CSt)} (h_ro : ∀ q z a b u, KW5 (ro q z a b u) u) (n : Nat) : ∀ a : Nat × Int32 × Int32 × Int32 × Int32 × CSt, KW5 (LP_X8_builtIn_22 N ro n a) a.2.2.2.2.2 := by
  induction n with
  | zero => exact fun a r z e => by have e : (none : Option _) = some (r, z) := e; cases e
  | succ n ih =>
    intro a
    show KW5 (B_X8_builtIn_22 N ro (LP_X8_builtIn_22 N ro n) a.1 a.2.1 a.2.2.1 a.2.2.2.1 a.2.2.2.2.1 a.2.2.2.2.2) a.2.2.2.2.2
    exact w5_B_X8_builtIn_22 h_ro ih
theorem w5_B_X8_builtIn_0 {N : Nat} {ro : Nat → Nat → Int32 → Int32 → CSt → Option (Sum Nat Int32 × CSt)} {l1 : Nat} {l2 : Int32} {u : CSt} (h_ro : ∀ q z a b u, KW5 (ro q z a b u) u) : KW5 (B_X8_builtIn_0 N ro l1 l2 u) u := by
  unfold B_X8_builtIn_0
  refine KW5_bc (w5_F_X9_next.tr kw5_rf) (fun _ _ => ?_)
  refine KW5_bc (w5_F_X9_next.tr kw5_rf) (fun _ _ => ?_)
  exact (w5_LP_X8_builtIn_22 h_ro _ _).tr kw5_rf
theorem w5_F_X8_builtIn {N : Nat} {ro : Nat → Nat → Int32 → Int32 → CSt → Option (Sum Nat Int32 × CSt)} {l1 : Nat} {l2 : Int32} {u : CSt} (h_ro : ∀ q z a b u, KW5 (ro q z a b u) u) : KW5 (F_X8_builtIn N ro l1 l2 u) u := by
  unfold F_X8_builtIn
  exact (w5_B_X8_builtIn_0 h_ro).tr kw5_rf
theorem w5_B_X8_arguments_147 {N : Nat} {ro : Nat → Nat → Int32 → Int32 → CSt → Option (Sum Nat Int32 × CSt)} {R_17 : Nat × Int32 × Int32 × Int32 × CSt → Option ((Sum Nat Int32) × CSt)} {l1 : Nat} {l2 : Int32} {l3 : Int32} {l4 : Int32} {u : CSt} (h_ro : ∀ q z a b u, KW5 (ro q z a b u) u) (h_R_17 : ∀ a, KW5 (R_17 a) a.2.2.2.2) : KW5 (B_X8_arguments_147 N ro R_17 l1 l2 l3 l4 u) u := by
  unfold B_X8_arguments_147
  exact (h_R_17 _).tr kw5_rf
theorem w5_B_X8_arguments_109 {N : Nat} {ro : Nat → Nat → Int32 → Int32 → CSt → Option (Sum Nat Int32 × CSt)} {R_17 : Nat × Int32 × Int32 × Int32 × CSt → Option ((Sum Nat Int32) × CSt)} {l1 : Nat} {l2 : Int32} {l3 : Int32} {l4 : Int32} {l5 : Int32} {l7 : Nat} {u : CSt} (h_ro : ∀ q z a b u, KW5 (ro q z a b u) u) (h_R_17 : ∀ a, KW5 (R_17 a) a.2.2.2.2) : KW5 (B_X8_arguments_109 N ro R_17 l1 l2 l3 l4 l5 l7 u) u := by
  unfold B_X8_arguments_109
  refine KW5_if ?_ ?_
  · skip
    refine KW5_if ?_ ?_
    · skip
      exact (w5_B_X8_arguments_147 h_ro h_R_17).tr kw5_rf
    · skip
      refine KW5_ok ?_
      refine KW5_bc (w5_F_X6_step.tr kw5_rf) (fun _ _ => ?_)
      exact (w5_B_X8_arguments_147 h_ro h_R_17).tr kw5_rf
  · skip
    exact (w5_B_X8_arguments_147 h_ro h_R_17).tr kw5_rf
theorem w5_B_X8_arguments_49 {N : Nat} {ro : Nat → Nat → Int32 → Int32 → CSt → Option (Sum Nat Int32 × CSt)} {R_17 : Nat × Int32 × Int32 × Int32 × CSt → Option ((Sum Nat Int32) × CSt)} {l1 : Nat} {l2 : Int32} {l3 : Int32} {l4 : Int32} {u : CSt} (h_ro : ∀ q z a b u, KW5 (ro q z a b u) u) (h_R_17 : ∀ a, KW5 (R_17 a) a.2.2.2.2) : KW5 (B_X8_arguments_49 N ro R_17 l1 l2 l3 l4 u) u := by
  unfold B_X8_arguments_49
  refine KW5_bc (w5_F_X9_here.tr kw5_rf) (fun _ _ => ?_)
  refine KW5_bt ((h_ro _ _ _ _ _).tr kw5_rf) (fun _ _ => ?_)
  refine KW5_ok ?_
  refine KW5_bc (w5_F_X6_local.tr kw5_rf) (fun _ _ => ?_)
  refine KW5_ok ?_
  refine KW5_if ?_ ?_
  · skip
    refine KW5_bc (w5_F_X8_isTooWide.tr kw5_rf) (fun _ _ => ?_)
    refine KW5_if ?_ ?_
    · skip
      exact (w5_B_X8_arguments_109 h_ro h_R_17).tr kw5_rf
    · skip
      refine KW5_bt (w5_F_X9_refuse.tr kw5_rf) (fun _ _ => ?_)
      exact (w5_B_X8_arguments_109 h_ro h_R_17).tr kw5_rf
  · skip
    exact (w5_B_X8_arguments_109 h_ro h_R_17).tr kw5_rf
theorem w5_B_X8_arguments_153 {N : Nat} {ro : Nat → Nat → Int32 → Int32 → CSt → Option (Sum Nat Int32 × CSt)} {l1 : Nat} {l3 : Int32} {l4 : Int32} {u : CSt} (h_ro : ∀ q z a b u, KW5 (ro q z a b u) u) : KW5 (B_X8_arguments_153 N ro l1 l3 l4 u) u := by
  unfold B_X8_arguments_153
  refine KW5_bc (w5_F_X9_next.tr kw5_rf) (fun _ _ => ?_)
  refine KW5_if ?_ ?_
  · skip
    exact KW5_some kw5_rf
  · skip
    refine KW5_bt (w5_F_X9_refuse.tr kw5_rf) (fun _ _ => ?_)
    exact KW5_some kw5_rf
theorem w5_B_X8_arguments_17 {N : Nat} {ro : Nat → Nat → Int32 → Int32 → CSt → Option (Sum Nat Int32 × CSt)} {R_17 : Nat × Int32 × Int32 × Int32 × CSt → Option ((Sum Nat Int32) × CSt)} {l1 : Nat} {l2 : Int32} {l3 : Int32} {l4 : Int32} {u : CSt} (h_ro : ∀ q z a b u, KW5 (ro q z a b u) u) (h_R_17 : ∀ a, KW5 (R_17 a) a.2.2.2.2) : KW5 (B_X8_arguments_17 N ro R_17 l1 l2 l3 l4 u) u := by
  unfold B_X8_arguments_17
  refine KW5_if ?_ ?_
  · skip
    exact (w5_B_X8_arguments_153 h_ro).tr kw5_rf
  · skip
    refine KW5_bc (w5_F_X9_is.tr kw5_rf) (fun _ _ => ?_)
    refine KW5_if ?_ ?_
    · skip
      refine KW5_if ?_ ?_
      · skip
        exact (w5_B_X8_arguments_49 h_ro h_R_17).tr kw5_rf
      · skip
        refine KW5_bc (w5_F_X9_next.tr kw5_rf) (fun _ _ => ?_)
        exact (w5_B_X8_arguments_49 h_ro h_R_17).tr kw5_rf
    · skip
      exact (w5_B_X8_arguments_153 h_ro).tr kw5_rf
theorem w5_LP_X8_arguments_17 {N : Nat} {ro : Nat → Nat → Int32 → Int32 → CSt → Option (Sum Nat Int32 × CSt)} (h_ro : ∀ q z a b u, KW5 (ro q z a b u) u) (n : Nat) : ∀ a : Nat × Int32 × Int32 × Int32 × CSt, KW5 (LP_X8_arguments_17 N ro n a) a.2.2.2.2 := by
  induction n with
  | zero => exact fun a r z e => by have e : (none : Option _) = some (r, z) := e; cases e
  | succ n ih =>
    intro a
    show KW5 (B_X8_arguments_17 N ro (LP_X8_arguments_17 N ro n) a.1 a.2.1 a.2.2.1 a.2.2.2.1 a.2.2.2.2) a.2.2.2.2
    exact w5_B_X8_arguments_17 h_ro ih
theorem w5_B_X8_arguments_0 {N : Nat} {ro : Nat → Nat → Int32 → Int32 → CSt → Option (Sum Nat Int32 × CSt)} {l1 : Nat} {l2 : Int32} {l3 : Int32} {u : CSt} (h_ro : ∀ q z a b u, KW5 (ro q z a b u) u) : KW5 (B_X8_arguments_0 N ro l1 l2 l3 u) u := by
  unfold B_X8_arguments_0
  refine KW5_bc (w5_F_X9_next.tr kw5_rf) (fun _ _ => ?_)
  refine KW5_bc (w5_F_X9_next.tr kw5_rf) (fun _ _ => ?_)
  exact (w5_LP_X8_arguments_17 h_ro _ _).tr kw5_rf
theorem w5_F_X8_arguments {N : Nat} {ro : Nat → Nat → Int32 → Int32 → CSt → Option (Sum Nat Int32 × CSt)} {l1 : Nat} {l2 : Int32} {l3 : Int32} {u : CSt} (h_ro : ∀ q z a b u, KW5 (ro q z a b u) u) : KW5 (F_X8_arguments N ro l1 l2 l3 u) u := by
  unfold F_X8_arguments
  exact (w5_B_X8_arguments_0 h_ro).tr kw5_rf
theorem w5_B_X8_index_22 {N : Nat} {ro : Nat → Nat → Int32 → Int32 → CSt → Option (Sum Nat Int32 × CSt)} {l1 : Nat} {l2 : Int32} {s0 : Nat} {s1 : Int32} {u : CSt} (h_ro : ∀ q z a b u, KW5 (ro q z a b u) u) : KW5 (B_X8_index_22 N ro l1 l2 s0 s1 u) u := by
  unfold B_X8_index_22
  refine KW5_bc (w5_F_X6_step.tr kw5_rf) (fun _ _ => ?_)
  exact KW5_some kw5_rf
theorem w5_B_X8_index_0 {N : Nat} {ro : Nat → Nat → Int32 → Int32 → CSt → Option (Sum Nat Int32 × CSt)} {l1 : Nat} {l2 : Int32} {u : CSt} (h_ro : ∀ q z a b u, KW5 (ro q z a b u) u) : KW5 (B_X8_index_0 N ro l1 l2 u) u := by
  unfold B_X8_index_0
  refine KW5_bt ((h_ro _ _ _ _ _).tr kw5_rf) (fun _ _ => ?_)
  refine KW5_ok ?_
  refine KW5_bc (w5_F_X4_isLocal.tr kw5_rf) (fun _ _ => ?_)
  refine KW5_if ?_ ?_
  · skip
    exact (w5_B_X8_index_22 h_ro).tr kw5_rf
  · skip
    exact (w5_B_X8_index_22 h_ro).tr kw5_rf
theorem w5_F_X8_index {N : Nat} {ro : Nat → Nat → Int32 → Int32 → CSt → Option (Sum Nat Int32 × CSt)} {l1 : Nat} {l2 : Int32} {u : CSt} (h_ro : ∀ q z a b u, KW5 (ro q z a b u) u) : KW5 (F_X8_index N ro l1 l2 u) u := by
  unfold F_X8_index
  exact (w5_B_X8_index_0 h_ro).tr kw5_rf
theorem w5_B_X8_indexNumber_32 {N : Nat} {ro : Nat → Nat → Int32 → Int32 → CSt → Option (Sum Nat Int32 × CSt)} {u : CSt} (h_ro : ∀ q z a b u, KW5 (ro q z a b u) u) : KW5 (B_X8_indexNumber_32 N ro u) u := by
  unfold B_X8_indexNumber_32
  refine KW5_bc (w5_F_X9_next.tr kw5_rf) (fun _ _ => ?_)
  exact KW5_some kw5_rf
theorem w5_B_X8_indexNumber_0 {N : Nat} {ro : Nat → Nat → Int32 → Int32 → CSt → Option (Sum Nat Int32 × CSt)} {u : CSt} (h_ro : ∀ q z a b u, KW5 (ro q z a b u) u) : KW5 (B_X8_indexNumber_0 N ro u) u := by
  unfold B_X8_indexNumber_0
  refine KW5_bc (w5_F_X9_next.tr kw5_rf) (fun _ _ => ?_)
  refine KW5_bc (w5_F_X9_here.tr kw5_rf) (fun _ _ => ?_)
  refine KW5_bt ((h_ro _ _ _ _ _).tr kw5_rf) (fun _ _ => ?_)
  refine KW5_if ?_ ?_
  · skip
    refine KW5_bt (w5_F_X9_refuse.tr kw5_rf) (fun _ _ => ?_)
    exact (w5_B_X8_indexNumber_32 h_ro).tr kw5_rf
  · skip
    exact (w5_B_X8_indexNumber_32 h_ro).tr kw5_rf
theorem w5_F_X8_indexNumber {N : Nat} {ro : Nat → Nat → Int32 → Int32 → CSt → Option (Sum Nat Int32 × CSt)} {u : CSt} (h_ro : ∀ q z a b u, KW5 (ro q z a b u) u) : KW5 (F_X8_indexNumber N ro u) u := by
  unfold F_X8_indexNumber
  exact (w5_B_X8_indexNumber_0 h_ro).tr kw5_rf
theorem w5_FTE_ {N : Nat} : ∀ (d q z : Nat) (a b : Int32) (u : CSt), KW5 (FTE_ N d q z a b u) u := by
  intro d
  induction d with
  | zero => exact fun q z a b u => KW5_none
  | succ d ih =>
    intro q z a b u
    show KW5 (if q = 0 then F_X8_expression N (FTE_ N d) u else if q = 1 then F_X8_operators N (FTE_ N d) u else if q = 2 then F_X8_operand N (FTE_ N d) u else if q = 3 then F_X8_signed N (FTE_ N d) a u else if q = 4 then F_X8_bracket N (FTE_ N d) a u else if q = 5 then F_X8_named N (FTE_ N d) a u else if q = 6 then F_X8_ofPlace N (FTE_ N d) a u else if q = 7 then F_X8_ofInstance N (FTE_ N d) a u else if q = 8 then F_X8_called N (FTE_ N d) a u else if q = 9 then F_X8_builtIn N (FTE_ N d) z a u else if q = 10 then F_X8_arguments N (FTE_ N d) z a b u else if q = 11 then F_X8_index N (FTE_ N d) z a u else if q = 12 then F_X8_indexNumber N (FTE_ N d) u else none) u
    refine KW5_if (w5_F_X8_expression ih) ?_
    refine KW5_if (w5_F_X8_operators ih) ?_
    refine KW5_if (w5_F_X8_operand ih) ?_
    refine KW5_if (w5_F_X8_signed ih) ?_
    refine KW5_if (w5_F_X8_bracket ih) ?_
    refine KW5_if (w5_F_X8_named ih) ?_
    refine KW5_if (w5_F_X8_ofPlace ih) ?_
    refine KW5_if (w5_F_X8_ofInstance ih) ?_
    refine KW5_if (w5_F_X8_called ih) ?_
    refine KW5_if (w5_F_X8_builtIn ih) ?_
    refine KW5_if (w5_F_X8_arguments ih) ?_
    refine KW5_if (w5_F_X8_index ih) ?_
    refine KW5_if (w5_F_X8_indexNumber ih) ?_
    exact KW5_none
theorem w5_G_X8_expression {N : Nat} {u : CSt} : KW5 (G_X8_expression N u) u := w5_FTE_ _ _ _ _ _ _
theorem w5_G_X8_arguments {N : Nat} {l1 : Nat} {l2 : Int32} {l3 : Int32} {u : CSt} : KW5 (G_X8_arguments N l1 l2 l3 u) u := w5_FTE_ _ _ _ _ _ _
theorem w5_G_X8_index {N : Nat} {l1 : Nat} {l2 : Int32} {u : CSt} : KW5 (G_X8_index N l1 l2 u) u := w5_FTE_ _ _ _ _ _ _
theorem w5_B_X3_newName_108 {N : Nat} {l1 : Int32} {l3 : Int64} {l5 : Int32} {u : CSt}  : KW5 (B_X3_newName_108 N l1 l3 l5 u) u := by
  unfold B_X3_newName_108
  refine KW5_bc (w5_F_X9_next.tr kw5_rf) (fun _ _ => ?_)
  refine KW5_ok ?_
  refine KW5_bc (w5_F_X6_add.tr kw5_rf) (fun _ _ => ?_)
  refine KW5_ok ?_
  exact KW5_some kw5_rf
theorem w5_B_X3_newName_88 {N : Nat} {l1 : Int32} {l2 : Int32} {l3 : Int64} {l5 : Int32} {u : CSt}  : KW5 (B_X3_newName_88 N l1 l2 l3 l5 u) u := by
  unfold B_X3_newName_88
  refine KW5_ok ?_
  refine KW5_bc (w5_F_X6_hasRoomFor.tr kw5_rf) (fun _ _ => ?_)
  refine KW5_if ?_ ?_
  · skip
    refine KW5_bt (w5_F_X9_refuse.tr kw5_rf) (fun _ _ => ?_)
    exact w5_B_X3_newName_108.tr kw5_rf
  · skip
    exact w5_B_X3_newName_108.tr kw5_rf
theorem w5_B_X3_newName_67 {N : Nat} {l1 : Int32} {l2 : Int32} {l3 : Int64} {l5 : Int32} {s0 : Nat} {u : CSt}  : KW5 (B_X3_newName_67 N l1 l2 l3 l5 s0 u) u := by
  unfold B_X3_newName_67
  refine KW5_if ?_ ?_
  · skip
    exact w5_B_X3_newName_88.tr kw5_rf
  · skip
    refine KW5_bt (w5_F_X9_refuse.tr kw5_rf) (fun _ _ => ?_)
    exact w5_B_X3_newName_88.tr kw5_rf
theorem w5_B_X3_newName_0 {N : Nat} {l1 : Int32} {u : CSt}  : KW5 (B_X3_newName_0 N l1 u) u := by
  unfold B_X3_newName_0
  refine KW5_bc (w5_F_X9_here.tr kw5_rf) (fun _ _ => ?_)
  refine KW5_bc (w5_F_X9_head.tr kw5_rf) (fun _ _ => ?_)
  refine KW5_bc (w5_F_X9_tail.tr kw5_rf) (fun _ _ => ?_)
  refine KW5_if ?_ ?_
  · skip
    refine KW5_ok ?_
    refine KW5_bc (w5_F_X6_name.tr kw5_rf) (fun _ _ => ?_)
    refine KW5_ok ?_
    refine KW5_bc (w5_F_X6_localCalled.tr kw5_rf) (fun _ _ => ?_)
    refine KW5_ok ?_
    exact w5_B_X3_newName_67.tr kw5_rf
  · skip
    refine KW5_ok ?_
    refine KW5_bc (w5_F_X6_ofText.tr kw5_rf) (fun _ _ => ?_)
    refine KW5_ok ?_
    exact w5_B_X3_newName_67.tr kw5_rf
theorem w5_F_X3_newName {N : Nat} {l1 : Int32} {u : CSt}  : KW5 (F_X3_newName N l1 u) u := by
  unfold F_X3_newName
  exact w5_B_X3_newName_0.tr kw5_rf
theorem w5_B_X3_allot_0 {N : Nat} {l1 : Int32} {l2 : Int32} {l3 : Int32} {u : CSt}  : KW5 (B_X3_allot_0 N l1 l2 l3 u) u := by
  unfold B_X3_allot_0
  refine KW5_rd (fun _ => ?_)
  refine KW5_wc ?_
  refine KW5_pc ?_
  refine KW5_rd (fun _ => ?_)
  refine KW5_if ?_ ?_
  · skip
    exact KW5_some (f5_xI (f5_xA kw5_rf))
  · skip
    refine KW5_bt (w5_F_X9_refuse.tr (f5_xI (f5_xA kw5_rf))) (fun _ _ => ?_)
    exact KW5_some kw5_rf
theorem w5_F_X3_allot {N : Nat} {l1 : Int32} {l2 : Int32} {l3 : Int32} {u : CSt}  : KW5 (F_X3_allot N l1 l2 l3 u) u := by
  unfold F_X3_allot
  exact w5_B_X3_allot_0.tr kw5_rf
theorem w5_B_X3_join_64 {N : Nat} {l2 : Int32} {l3 : Nat} {s0 : Nat} {s1 : Int32} {s2 : Int32} {u : CSt}  : KW5 (B_X3_join_64 N l2 l3 s0 s1 s2 u) u := by
  unfold B_X3_join_64
  refine KW5_pc ?_
  refine KW5_if ?_ ?_
  · skip
    exact KW5_some (f5_xmI kw5_rf)
  · skip
    refine KW5_bt (w5_F_X9_refuse.tr (f5_xmI kw5_rf)) (fun _ _ => ?_)
    exact KW5_some kw5_rf
theorem w5_B_X3_join_0 {N : Nat} {l1 : Nat} {l2 : Int32} {u : CSt}  : KW5 (B_X3_join_0 N l1 l2 u) u := by
  unfold B_X3_join_0
  refine KW5_ok ?_
  refine KW5_bc (w5_F_X6_name.tr kw5_rf) (fun _ _ => ?_)
  refine KW5_ok ?_
  refine KW5_pc ?_
  refine KW5_pc ?_
  refine KW5_pc ?_
  refine KW5_if ?_ ?_
  · skip
    exact w5_B_X3_join_64.tr (f5_xmI (f5_xmI (f5_xmI kw5_rf)))
  · skip
    exact w5_B_X3_join_64.tr (f5_xmI (f5_xmI (f5_xmI kw5_rf)))
theorem w5_F_X3_join {N : Nat} {l1 : Nat} {l2 : Int32} {u : CSt}  : KW5 (F_X3_join N l1 l2 u) u := by
  unfold F_X3_join
  exact w5_B_X3_join_0.tr kw5_rf
theorem w5_B_X3_constant_60 {N : Nat} {l1 : Int32} {l3 : Int32} {l5 : Int64} {u : CSt}  : KW5 (B_X3_constant_60 N l1 l3 l5 u) u := by
  unfold B_X3_constant_60
  refine KW5_if ?_ ?_
  · skip
    refine KW5_bt (w5_F_X9_refuse.tr kw5_rf) (fun _ _ => ?_)
    exact KW5_some kw5_rf
  · skip
    exact KW5_some kw5_rf
theorem w5_B_X3_constant_21 {N : Nat} {l1 : Int32} {l2 : Int32} {u : CSt}  : KW5 (B_X3_constant_21 N l1 l2 u) u := by
  unfold B_X3_constant_21
  refine KW5_bc (w5_F_X9_here.tr kw5_rf) (fun _ _ => ?_)
  refine KW5_bc (w5_F_X9_isWide.tr kw5_rf) (fun _ _ => ?_)
  refine KW5_bt (w5_F_X9_takeNumber.tr kw5_rf) (fun _ _ => ?_)
  refine KW5_if ?_ ?_
  · skip
    exact w5_B_X3_constant_60.tr kw5_rf
  · skip
    exact w5_B_X3_constant_60.tr kw5_rf
theorem w5_B_X3_constant_0 {N : Nat} {l1 : Int32} {u : CSt}  : KW5 (B_X3_constant_0 N l1 u) u := by
  unfold B_X3_constant_0
  refine KW5_bc (w5_F_X9_is.tr kw5_rf) (fun _ _ => ?_)
  refine KW5_if ?_ ?_
  · skip
    exact w5_B_X3_constant_21.tr kw5_rf
  · skip
    refine KW5_bc (w5_F_X9_next.tr kw5_rf) (fun _ _ => ?_)
    exact w5_B_X3_constant_21.tr kw5_rf
theorem w5_F_X3_constant {N : Nat} {l1 : Int32} {u : CSt}  : KW5 (F_X3_constant N l1 u) u := by
  unfold F_X3_constant
  exact w5_B_X3_constant_0.tr kw5_rf
theorem w5_B_X3_oneVariable_112 {N : Nat} {l1 : Int32} {l3 : Int32} {l4 : Int32} {l5 : Nat} {u : CSt}  : KW5 (B_X3_oneVariable_112 N l1 l3 l4 l5 u) u := by
  unfold B_X3_oneVariable_112
  refine KW5_if ?_ ?_
  · skip
    refine KW5_pc ?_
    refine KW5_bt (w5_F_X3_allot.tr (f5_xmI kw5_rf)) (fun _ _ => ?_)
    exact KW5_some kw5_rf
  · skip
    refine KW5_bt (w5_F_X3_join.tr kw5_rf) (fun _ _ => ?_)
    exact KW5_some kw5_rf
theorem w5_B_X3_oneVariable_83 {N : Nat} {l1 : Int32} {l3 : Int32} {l4 : Int32} {l5 : Nat} {u : CSt}  : KW5 (B_X3_oneVariable_83 N l1 l3 l4 l5 u) u := by
  unfold B_X3_oneVariable_83
  refine KW5_bc (w5_F_X9_is.tr kw5_rf) (fun _ _ => ?_)
  refine KW5_if ?_ ?_
  · skip
    exact w5_B_X3_oneVariable_112.tr kw5_rf
  · skip
    refine KW5_bc (w5_F_X9_next.tr kw5_rf) (fun _ _ => ?_)
    refine KW5_bt (w5_F_X3_constant.tr kw5_rf) (fun _ _ => ?_)
    refine KW5_pc ?_
    exact w5_B_X3_oneVariable_112.tr (f5_xmL kw5_rf)
theorem w5_B_X3_oneVariable_0 {N : Nat} {l1 : Int32} {l2 : Int32} {l3 : Int32} {u : CSt}  : KW5 (B_X3_oneVariable_0 N l1 l2 l3 u) u := by
  unfold B_X3_oneVariable_0
  refine KW5_bc (w5_F_X9_here.tr kw5_rf) (fun _ _ => ?_)
  refine KW5_bt (w5_F_X3_newName.tr kw5_rf) (fun _ _ => ?_)
  refine KW5_ok ?_
  refine KW5_pc ?_
  refine KW5_pc ?_
  refine KW5_pc ?_
  refine KW5_bc (w5_F_X9_is.tr (f5_xmI (f5_xmI (f5_xmI kw5_rf)))) (fun _ _ => ?_)
  refine KW5_if ?_ ?_
  · skip
    exact w5_B_X3_oneVariable_83.tr kw5_rf
  · skip
    refine KW5_bc (w5_F_X9_next.tr kw5_rf) (fun _ _ => ?_)
    refine KW5_pc ?_
    refine KW5_bt (w5_F_X9_takeBounded.tr (f5_xmI kw5_rf)) (fun _ _ => ?_)
    refine KW5_pc ?_
    refine KW5_bc (w5_F_X9_next.tr (f5_xmI kw5_rf)) (fun _ _ => ?_)
    exact w5_B_X3_oneVariable_83.tr kw5_rf
theorem w5_F_X3_oneVariable {N : Nat} {l1 : Int32} {l2 : Int32} {l3 : Int32} {u : CSt}  : KW5 (F_X3_oneVariable N l1 l2 l3 u) u := by
  unfold F_X3_oneVariable
  exact w5_B_X3_oneVariable_0.tr kw5_rf
theorem w5_B_X3_variables_58 {N : Nat} {u : CSt}  : KW5 (B_X3_variables_58 N u) u := by
  unfold B_X3_variables_58
  refine KW5_bc (w5_F_X9_next.tr kw5_rf) (fun _ _ => ?_)
  exact KW5_some kw5_rf
theorem w5_B_X3_variables_18 {N : Nat} {R_18 : Int32 × Int32 × Int32 × Int32 × CSt → Option ((Sum Nat Int32) × CSt)} {l1 : Int32} {l2 : Int32} {l3 : Int32} {l4 : Int32} {u : CSt} (h_R_18 : ∀ a, KW5 (R_18 a) a.2.2.2.2) : KW5 (B_X3_variables_18 N R_18 l1 l2 l3 l4 u) u := by
  unfold B_X3_variables_18
  refine KW5_if ?_ ?_
  · skip
    exact w5_B_X3_variables_58.tr kw5_rf
  · skip
    refine KW5_bc (w5_F_X9_is.tr kw5_rf) (fun _ _ => ?_)
    refine KW5_if ?_ ?_
    · skip
      exact w5_B_X3_variables_58.tr kw5_rf
    · skip
      refine KW5_bc (w5_F_X9_next.tr kw5_rf) (fun _ _ => ?_)
      refine KW5_bt (w5_F_X3_oneVariable.tr kw5_rf) (fun _ _ => ?_)
      exact (h_R_18 _).tr kw5_rf
theorem w5_LP_X3_variables_18 {N : Nat}  (n : Nat) : ∀ a : Int32 × Int32 × Int32 × Int32 × CSt, KW5 (LP_X3_variables_18 N n a) a.2.2.2.2 := by
  induction n with
  | zero => exact fun a r z e => by have e : (none : Option _) = some (r, z) := e; cases e
  | succ n ih =>
    intro a
    show KW5 (B_X3_variables_18 N (LP_X3_variables_18 N n) a.1 a.2.1 a.2.2.1 a.2.2.2.1 a.2.2.2.2) a.2.2.2.2
    exact w5_B_X3_variables_18 ih
theorem w5_B_X3_variables_0 {N : Nat} {l1 : Int32} {l2 : Int32} {u : CSt}  : KW5 (B_X3_variables_0 N l1 l2 u) u := by
  unfold B_X3_variables_0
  refine KW5_bc (w5_F_X9_takeKind.tr kw5_rf) (fun _ _ => ?_)
  refine KW5_bt (w5_F_X3_oneVariable.tr kw5_rf) (fun _ _ => ?_)
  exact (w5_LP_X3_variables_18  _ _).tr kw5_rf
theorem w5_F_X3_variables {N : Nat} {l1 : Int32} {l2 : Int32} {u : CSt}  : KW5 (F_X3_variables N l1 l2 u) u := by
  unfold F_X3_variables
  exact w5_B_X3_variables_0.tr kw5_rf
theorem w5_B_X3_placed_0 {N : Nat} {l1 : Int32} {u : CSt}  : KW5 (B_X3_placed_0 N l1 u) u := by
  unfold B_X3_placed_0
  refine KW5_bc (w5_F_X9_takeKind.tr kw5_rf) (fun _ _ => ?_)
  refine KW5_bt (w5_F_X3_newName.tr kw5_rf) (fun _ _ => ?_)
  refine KW5_ok ?_
  refine KW5_pc ?_
  refine KW5_pc ?_
  refine KW5_pc ?_
  refine KW5_bc (w5_F_X9_next.tr (f5_xmI (f5_xmI (f5_xmI kw5_rf)))) (fun _ _ => ?_)
  refine KW5_rd (fun _ => ?_)
  refine KW5_bt (w5_F_X9_takeBounded.tr kw5_rf) (fun _ _ => ?_)
  refine KW5_pc ?_
  refine KW5_bc (w5_F_X9_next.tr (f5_xmI kw5_rf)) (fun _ _ => ?_)
  exact KW5_some kw5_rf
theorem w5_F_X3_placed {N : Nat} {l1 : Int32} {u : CSt}  : KW5 (F_X3_placed N l1 u) u := by
  unfold F_X3_placed
  exact w5_B_X3_placed_0.tr kw5_rf
theorem w5_B_X3_oneUse_33 {N : Nat} {R_33 : Nat × Int32 × Int32 × CSt → Option ((Sum Nat Int32) × CSt)} {l1 : Nat} {l2 : Int32} {l4 : Int32} {u : CSt} (h_R_33 : ∀ a, KW5 (R_33 a) a.2.2.2) : KW5 (B_X3_oneUse_33 N R_33 l1 l2 l4 u) u := by
  unfold B_X3_oneUse_33
  refine KW5_if ?_ ?_
  · skip
    exact KW5_some kw5_rf
  · skip
    refine KW5_ok ?_
    refine KW5_bc (w5_F_X6_local.tr kw5_rf) (fun _ _ => ?_)
    refine KW5_ok ?_
    refine KW5_bt (w5_F_X3_allot.tr kw5_rf) (fun _ _ => ?_)
    exact (h_R_33 _).tr kw5_rf
theorem w5_LP_X3_oneUse_33 {N : Nat}  (n : Nat) : ∀ a : Nat × Int32 × Int32 × CSt, KW5 (LP_X3_oneUse_33 N n a) a.2.2.2 := by
  induction n with
  | zero => exact fun a r z e => by have e : (none : Option _) = some (r, z) := e; cases e
  | succ n ih =>
    intro a
    show KW5 (B_X3_oneUse_33 N (LP_X3_oneUse_33 N n) a.1 a.2.1 a.2.2.1 a.2.2.2) a.2.2.2
    exact w5_B_X3_oneUse_33 ih
theorem w5_B_X3_oneUse_0 {N : Nat} {l1 : Nat} {u : CSt}  : KW5 (B_X3_oneUse_0 N l1 u) u := by
  unfold B_X3_oneUse_0
  refine KW5_bc (w5_F_X9_here.tr kw5_rf) (fun _ _ => ?_)
  refine KW5_bt (w5_F_X3_newName.tr kw5_rf) (fun _ _ => ?_)
  refine KW5_ok ?_
  refine KW5_pc ?_
  refine KW5_pc ?_
  exact (w5_LP_X3_oneUse_33  _ _).tr (f5_xmI (f5_xmI kw5_rf))
theorem w5_F_X3_oneUse {N : Nat} {l1 : Nat} {u : CSt}  : KW5 (F_X3_oneUse N l1 u) u := by
  unfold F_X3_oneUse
  exact w5_B_X3_oneUse_0.tr kw5_rf
theorem w5_B_X3_uses_82 {N : Nat} {u : CSt}  : KW5 (B_X3_uses_82 N u) u := by
  unfold B_X3_uses_82
  refine KW5_bc (w5_F_X9_next.tr kw5_rf) (fun _ _ => ?_)
  exact KW5_some kw5_rf
theorem w5_B_X3_uses_45 {N : Nat} {R_45 : Nat × Int32 × CSt → Option ((Sum Nat Int32) × CSt)} {l1 : Nat} {l2 : Int32} {u : CSt} (h_R_45 : ∀ a, KW5 (R_45 a) a.2.2) : KW5 (B_X3_uses_45 N R_45 l1 l2 u) u := by
  unfold B_X3_uses_45
  refine KW5_if ?_ ?_
  · skip
    exact w5_B_X3_uses_82.tr kw5_rf
  · skip
    refine KW5_bc (w5_F_X9_is.tr kw5_rf) (fun _ _ => ?_)
    refine KW5_if ?_ ?_
    · skip
      exact w5_B_X3_uses_82.tr kw5_rf
    · skip
      refine KW5_bc (w5_F_X9_next.tr kw5_rf) (fun _ _ => ?_)
      refine KW5_bt (w5_F_X3_oneUse.tr kw5_rf) (fun _ _ => ?_)
      exact (h_R_45 _).tr kw5_rf
theorem w5_LP_X3_uses_45 {N : Nat}  (n : Nat) : ∀ a : Nat × Int32 × CSt, KW5 (LP_X3_uses_45 N n a) a.2.2 := by
  induction n with
  | zero => exact fun a r z e => by have e : (none : Option _) = some (r, z) := e; cases e
  | succ n ih =>
    intro a
    show KW5 (B_X3_uses_45 N (LP_X3_uses_45 N n) a.1 a.2.1 a.2.2) a.2.2
    exact w5_B_X3_uses_45 ih
theorem w5_B_X3_uses_31 {N : Nat} {l1 : Nat} {u : CSt}  : KW5 (B_X3_uses_31 N l1 u) u := by
  unfold B_X3_uses_31
  refine KW5_bc (w5_F_X9_next.tr kw5_rf) (fun _ _ => ?_)
  refine KW5_bt (w5_F_X3_oneUse.tr kw5_rf) (fun _ _ => ?_)
  exact (w5_LP_X3_uses_45  _ _).tr kw5_rf
theorem w5_B_X3_uses_0 {N : Nat} {u : CSt}  : KW5 (B_X3_uses_0 N u) u := by
  unfold B_X3_uses_0
  refine KW5_bc (w5_F_X8_known.tr kw5_rf) (fun _ _ => ?_)
  refine KW5_ok ?_
  refine KW5_if ?_ ?_
  · skip
    exact w5_B_X3_uses_31.tr kw5_rf
  · skip
    refine KW5_bc (w5_F_X9_here.tr kw5_rf) (fun _ _ => ?_)
    refine KW5_bt (w5_F_X9_refuse.tr kw5_rf) (fun _ _ => ?_)
    exact w5_B_X3_uses_31.tr kw5_rf
theorem w5_F_X3_uses {N : Nat} {u : CSt}  : KW5 (F_X3_uses N u) u := by
  unfold F_X3_uses
  exact w5_B_X3_uses_0.tr kw5_rf
theorem w5_B_X3_parameter_19 {N : Nat} {u : CSt}  : KW5 (B_X3_parameter_19 N u) u := by
  unfold B_X3_parameter_19
  refine KW5_bc (w5_F_X9_takeKind.tr kw5_rf) (fun _ _ => ?_)
  refine KW5_bc (w5_F_X9_here.tr kw5_rf) (fun _ _ => ?_)
  refine KW5_bt (w5_F_X3_newName.tr kw5_rf) (fun _ _ => ?_)
  refine KW5_ok ?_
  refine KW5_pc ?_
  refine KW5_pc ?_
  refine KW5_bt (w5_F_X3_join.tr (f5_xmI (f5_xmI kw5_rf))) (fun _ _ => ?_)
  exact KW5_some kw5_rf
theorem w5_B_X3_parameter_0 {N : Nat} {u : CSt}  : KW5 (B_X3_parameter_0 N u) u := by
  unfold B_X3_parameter_0
  refine KW5_bc (w5_F_X9_is.tr kw5_rf) (fun _ _ => ?_)
  refine KW5_if ?_ ?_
  · skip
    exact w5_B_X3_parameter_19.tr kw5_rf
  · skip
    refine KW5_bc (w5_F_X9_next.tr kw5_rf) (fun _ _ => ?_)
    exact w5_B_X3_parameter_19.tr kw5_rf
theorem w5_F_X3_parameter {N : Nat} {u : CSt}  : KW5 (F_X3_parameter N u) u := by
  unfold F_X3_parameter
  exact w5_B_X3_parameter_0.tr kw5_rf
theorem w5_B_X3_put_0 {N : Nat} {l1 : Nat} {l2 : Int32} {u : CSt}  : KW5 (B_X3_put_0 N l1 l2 u) u := by
  unfold B_X3_put_0
  refine KW5_if ?_ ?_
  · skip
    refine KW5_bc (w5_F_X8_set.tr kw5_rf) (fun _ _ => ?_)
    exact KW5_some kw5_rf
  · skip
    refine KW5_ok ?_
    refine KW5_bc (w5_F_X6_step.tr kw5_rf) (fun _ _ => ?_)
    exact KW5_some kw5_rf
theorem w5_F_X3_put {N : Nat} {l1 : Nat} {l2 : Int32} {u : CSt}  : KW5 (F_X3_put N l1 l2 u) u := by
  unfold F_X3_put
  exact w5_B_X3_put_0.tr kw5_rf
theorem w5_B_X3_setPlain_0 {N : Nat} {l1 : Nat} {u : CSt}  : KW5 (B_X3_setPlain_0 N l1 u) u := by
  unfold B_X3_setPlain_0
  refine KW5_bc (w5_F_X9_here.tr kw5_rf) (fun _ _ => ?_)
  refine KW5_bc (w5_F_X9_next.tr kw5_rf) (fun _ _ => ?_)
  refine KW5_bt (w5_G_X8_expression.tr kw5_rf) (fun _ _ => ?_)
  refine KW5_bc (w5_F_X8_isTooWide.tr kw5_rf) (fun _ _ => ?_)
  refine KW5_if ?_ ?_
  · skip
    exact KW5_some kw5_rf
  · skip
    refine KW5_bt (w5_F_X9_refuse.tr kw5_rf) (fun _ _ => ?_)
    exact KW5_some kw5_rf
theorem w5_F_X3_setPlain {N : Nat} {l1 : Nat} {u : CSt}  : KW5 (F_X3_setPlain N l1 u) u := by
  unfold F_X3_setPlain
  exact w5_B_X3_setPlain_0.tr kw5_rf
theorem w5_B_X3_setBit_75 {N : Nat} {l1 : Nat} {l2 : Int32} {l3 : Int32} {u : CSt}  : KW5 (B_X3_setBit_75 N l1 l2 l3 u) u := by
  unfold B_X3_setBit_75
  refine KW5_ok ?_
  refine KW5_bc (w5_F_X6_step.tr kw5_rf) (fun _ _ => ?_)
  refine KW5_bc (w5_F_X3_put.tr kw5_rf) (fun _ _ => ?_)
  exact KW5_some kw5_rf
theorem w5_B_X3_setBit_27 {N : Nat} {l1 : Nat} {l2 : Int32} {l3 : Int32} {u : CSt}  : KW5 (B_X3_setBit_27 N l1 l2 l3 u) u := by
  unfold B_X3_setBit_27
  refine KW5_bc (w5_F_X9_next.tr kw5_rf) (fun _ _ => ?_)
  refine KW5_bt (w5_G_X8_expression.tr kw5_rf) (fun _ _ => ?_)
  refine KW5_if ?_ ?_
  · skip
    refine KW5_bc (w5_F_X8_get.tr kw5_rf) (fun _ _ => ?_)
    exact w5_B_X3_setBit_75.tr kw5_rf
  · skip
    refine KW5_ok ?_
    refine KW5_bc (w5_F_X6_step.tr kw5_rf) (fun _ _ => ?_)
    exact w5_B_X3_setBit_75.tr kw5_rf
theorem w5_B_X3_setBit_0 {N : Nat} {l1 : Nat} {l2 : Int32} {l3 : Int32} {u : CSt}  : KW5 (B_X3_setBit_0 N l1 l2 l3 u) u := by
  unfold B_X3_setBit_0
  refine KW5_bc (w5_F_X9_is.tr kw5_rf) (fun _ _ => ?_)
  refine KW5_if ?_ ?_
  · skip
    refine KW5_bc (w5_F_X9_here.tr kw5_rf) (fun _ _ => ?_)
    refine KW5_bt (w5_F_X9_refuse.tr kw5_rf) (fun _ _ => ?_)
    exact w5_B_X3_setBit_27.tr kw5_rf
  · skip
    exact w5_B_X3_setBit_27.tr kw5_rf
theorem w5_F_X3_setBit {N : Nat} {l1 : Nat} {l2 : Int32} {l3 : Int32} {u : CSt}  : KW5 (F_X3_setBit N l1 l2 l3 u) u := by
  unfold F_X3_setBit
  exact w5_B_X3_setBit_0.tr kw5_rf
theorem w5_B_X3_change_98 {N : Nat} {l1 : Nat} {l4 : Int32} {s1 : Int32} {u : CSt}  : KW5 (B_X3_change_98 N l1 l4 s1 u) u := by
  unfold B_X3_change_98
  refine KW5_bc (w5_F_X8_combine.tr kw5_rf) (fun _ _ => ?_)
  exact KW5_some kw5_rf
theorem w5_B_X3_change_71 {N : Nat} {l1 : Nat} {l3 : Int32} {l4 : Int32} {u : CSt}  : KW5 (B_X3_change_71 N l1 l3 l4 u) u := by
  unfold B_X3_change_71
  refine KW5_ok ?_
  refine KW5_bc (w5_F_X6_constant.tr kw5_rf) (fun _ _ => ?_)
  refine KW5_if ?_ ?_
  · skip
    exact w5_B_X3_change_98.tr kw5_rf
  · skip
    exact w5_B_X3_change_98.tr kw5_rf
theorem w5_B_X3_change_50 {N : Nat} {l1 : Nat} {l3 : Int32} {l4 : Int32} {u : CSt}  : KW5 (B_X3_change_50 N l1 l3 l4 u) u := by
  unfold B_X3_change_50
  refine KW5_bc (w5_F_X9_next.tr kw5_rf) (fun _ _ => ?_)
  refine KW5_if ?_ ?_
  · skip
    exact w5_B_X3_change_71.tr kw5_rf
  · skip
    refine KW5_if ?_ ?_
    · skip
      exact w5_B_X3_change_71.tr kw5_rf
    · skip
      refine KW5_bt (w5_G_X8_expression.tr kw5_rf) (fun _ _ => ?_)
      refine KW5_pb (fun _ => ?_)
      refine KW5_bc (w5_F_X8_combine.tr kw5_rf) (fun _ _ => ?_)
      exact KW5_some kw5_rf
theorem w5_B_X3_change_0 {N : Nat} {l1 : Nat} {l2 : Int32} {u : CSt}  : KW5 (B_X3_change_0 N l1 l2 u) u := by
  unfold B_X3_change_0
  refine KW5_bc (w5_F_X9_type.tr kw5_rf) (fun _ _ => ?_)
  refine KW5_bc (w5_F_X9_here.tr kw5_rf) (fun _ _ => ?_)
  refine KW5_if ?_ ?_
  · skip
    refine KW5_bc (w5_F_X8_get.tr kw5_rf) (fun _ _ => ?_)
    exact w5_B_X3_change_50.tr kw5_rf
  · skip
    refine KW5_ok ?_
    refine KW5_bc (w5_F_X6_step.tr kw5_rf) (fun _ _ => ?_)
    exact w5_B_X3_change_50.tr kw5_rf
theorem w5_F_X3_change {N : Nat} {l1 : Nat} {l2 : Int32} {u : CSt}  : KW5 (F_X3_change N l1 l2 u) u := by
  unfold F_X3_change
  exact w5_B_X3_change_0.tr kw5_rf
theorem w5_B_X3_assignment_104 {N : Nat} {u : CSt}  : KW5 (B_X3_assignment_104 N u) u := by
  unfold B_X3_assignment_104
  refine KW5_bc (w5_F_X9_next.tr kw5_rf) (fun _ _ => ?_)
  exact KW5_some kw5_rf
theorem w5_B_X3_assignment_32 {N : Nat} {l1 : Int32} {l2 : Nat} {u : CSt}  : KW5 (B_X3_assignment_32 N l1 l2 u) u := by
  unfold B_X3_assignment_32
  refine KW5_bc (w5_F_X9_is.tr kw5_rf) (fun _ _ => ?_)
  refine KW5_if ?_ ?_
  · skip
    refine KW5_bc (w5_F_X9_is.tr kw5_rf) (fun _ _ => ?_)
    refine KW5_if ?_ ?_
    · skip
      refine KW5_bt (w5_F_X3_change.tr kw5_rf) (fun _ _ => ?_)
      refine KW5_bc (w5_F_X3_put.tr kw5_rf) (fun _ _ => ?_)
      exact w5_B_X3_assignment_104.tr kw5_rf
    · skip
      refine KW5_bt (w5_F_X3_setPlain.tr kw5_rf) (fun _ _ => ?_)
      refine KW5_bc (w5_F_X3_put.tr kw5_rf) (fun _ _ => ?_)
      exact w5_B_X3_assignment_104.tr kw5_rf
  · skip
    refine KW5_bt (w5_F_X8_bit.tr kw5_rf) (fun _ _ => ?_)
    refine KW5_bt (w5_F_X3_setBit.tr kw5_rf) (fun _ _ => ?_)
    exact w5_B_X3_assignment_104.tr kw5_rf
theorem w5_B_X3_assignment_0 {N : Nat} {l1 : Int32} {u : CSt}  : KW5 (B_X3_assignment_0 N l1 u) u := by
  unfold B_X3_assignment_0
  refine KW5_bt (w5_F_X8_placeName.tr kw5_rf) (fun _ _ => ?_)
  refine KW5_ok ?_
  refine KW5_bc (w5_F_X9_next.tr kw5_rf) (fun _ _ => ?_)
  refine KW5_if ?_ ?_
  · skip
    exact w5_B_X3_assignment_32.tr kw5_rf
  · skip
    refine KW5_bt (w5_G_X8_index.tr kw5_rf) (fun _ _ => ?_)
    exact w5_B_X3_assignment_32.tr kw5_rf
theorem w5_F_X3_assignment {N : Nat} {l1 : Int32} {u : CSt}  : KW5 (F_X3_assignment N l1 u) u := by
  unfold F_X3_assignment
  exact w5_B_X3_assignment_0.tr kw5_rf
theorem w5_B_X3_instanceCall_25 {N : Nat} {l1 : Int32} {l2 : Nat} {u : CSt}  : KW5 (B_X3_instanceCall_25 N l1 l2 u) u := by
  unfold B_X3_instanceCall_25
  refine KW5_ok ?_
  refine KW5_bc (w5_F_X6_cost.tr kw5_rf) (fun _ _ => ?_)
  refine KW5_ok ?_
  refine KW5_bc (w5_F_X6_name.tr kw5_rf) (fun _ _ => ?_)
  refine KW5_ok ?_
  refine KW5_bt (w5_G_X8_arguments.tr kw5_rf) (fun _ _ => ?_)
  refine KW5_ok ?_
  refine KW5_bc (w5_F_X6_step.tr kw5_rf) (fun _ _ => ?_)
  refine KW5_bc (w5_F_X9_next.tr kw5_rf) (fun _ _ => ?_)
  exact KW5_some kw5_rf
theorem w5_B_X3_instanceCall_0 {N : Nat} {l1 : Int32} {u : CSt}  : KW5 (B_X3_instanceCall_0 N l1 u) u := by
  unfold B_X3_instanceCall_0
  refine KW5_bc (w5_F_X8_known.tr kw5_rf) (fun _ _ => ?_)
  refine KW5_ok ?_
  refine KW5_if ?_ ?_
  · skip
    exact w5_B_X3_instanceCall_25.tr kw5_rf
  · skip
    refine KW5_bt (w5_F_X9_refuse.tr kw5_rf) (fun _ _ => ?_)
    exact w5_B_X3_instanceCall_25.tr kw5_rf
theorem w5_F_X3_instanceCall {N : Nat} {l1 : Int32} {u : CSt}  : KW5 (F_X3_instanceCall N l1 u) u := by
  unfold F_X3_instanceCall
  exact w5_B_X3_instanceCall_0.tr kw5_rf
theorem w5_B_X3_leave_69 {N : Nat} {u : CSt}  : KW5 (B_X3_leave_69 N u) u := by
  unfold B_X3_leave_69
  refine KW5_bc (w5_F_X9_next.tr kw5_rf) (fun _ _ => ?_)
  refine KW5_bc (w5_F_X9_next.tr kw5_rf) (fun _ _ => ?_)
  exact KW5_some kw5_rf
theorem w5_B_X3_leave_16 {N : Nat} {l1 : Int32} {u : CSt}  : KW5 (B_X3_leave_16 N l1 u) u := by
  unfold B_X3_leave_16
  refine KW5_bc (w5_F_X9_is.tr kw5_rf) (fun _ _ => ?_)
  refine KW5_if ?_ ?_
  · skip
    refine KW5_ok ?_
    refine KW5_bc (w5_F_X6_step.tr kw5_rf) (fun _ _ => ?_)
    refine KW5_pc ?_
    exact w5_B_X3_leave_69.tr (f5_xI kw5_rf)
  · skip
    refine KW5_ok ?_
    refine KW5_bc (w5_F_X6_step.tr kw5_rf) (fun _ _ => ?_)
    refine KW5_pc ?_
    exact w5_B_X3_leave_69.tr (f5_xI kw5_rf)
theorem w5_B_X3_leave_0 {N : Nat} {l1 : Int32} {u : CSt}  : KW5 (B_X3_leave_0 N l1 u) u := by
  unfold B_X3_leave_0
  refine KW5_if ?_ ?_
  · skip
    refine KW5_bt (w5_F_X9_refuse.tr kw5_rf) (fun _ _ => ?_)
    exact w5_B_X3_leave_16.tr kw5_rf
  · skip
    exact w5_B_X3_leave_16.tr kw5_rf
theorem w5_F_X3_leave {N : Nat} {l1 : Int32} {u : CSt}  : KW5 (F_X3_leave N l1 u) u := by
  unfold F_X3_leave
  exact w5_B_X3_leave_0.tr kw5_rf
theorem w5_B_X3_returned_147 {N : Nat} {u : CSt}  : KW5 (B_X3_returned_147 N u) u := by
  unfold B_X3_returned_147
  refine KW5_bc (w5_F_X9_next.tr kw5_rf) (fun _ _ => ?_)
  exact KW5_some kw5_rf
theorem w5_B_X3_returned_115 {N : Nat} {l1 : Int32} {l3 : Nat} {u : CSt}  : KW5 (B_X3_returned_115 N l1 l3 u) u := by
  unfold B_X3_returned_115
  refine KW5_ok ?_
  refine KW5_bc (w5_F_X6_step.tr kw5_rf) (fun _ _ => ?_)
  exact w5_B_X3_returned_147.tr kw5_rf
theorem w5_B_X3_returned_60 {N : Nat} {l1 : Int32} {l2 : Int32} {l3 : Nat} {u : CSt}  : KW5 (B_X3_returned_60 N l1 l2 l3 u) u := by
  unfold B_X3_returned_60
  refine KW5_bc (w5_F_X9_next.tr kw5_rf) (fun _ _ => ?_)
  refine KW5_if ?_ ?_
  · skip
    refine KW5_ok ?_
    refine KW5_bc (w5_F_X6_step.tr kw5_rf) (fun _ _ => ?_)
    exact w5_B_X3_returned_147.tr kw5_rf
  · skip
    refine KW5_bc (w5_F_X9_here.tr kw5_rf) (fun _ _ => ?_)
    refine KW5_bt (w5_G_X8_expression.tr kw5_rf) (fun _ _ => ?_)
    refine KW5_bc (w5_F_X8_isTooWide.tr kw5_rf) (fun _ _ => ?_)
    refine KW5_if ?_ ?_
    · skip
      exact w5_B_X3_returned_115.tr kw5_rf
    · skip
      refine KW5_bt (w5_F_X9_refuse.tr kw5_rf) (fun _ _ => ?_)
      exact w5_B_X3_returned_115.tr kw5_rf
theorem w5_B_X3_returned_48 {N : Nat} {l1 : Int32} {l2 : Int32} {l3 : Nat} {s0 : Int32} {s1 : Int32} {u : CSt}  : KW5 (B_X3_returned_48 N l1 l2 l3 s0 s1 u) u := by
  unfold B_X3_returned_48
  refine KW5_if ?_ ?_
  · skip
    exact w5_B_X3_returned_60.tr kw5_rf
  · skip
    refine KW5_bt (w5_F_X9_refuse.tr kw5_rf) (fun _ _ => ?_)
    exact w5_B_X3_returned_60.tr kw5_rf
theorem w5_B_X3_returned_18 {N : Nat} {l1 : Int32} {s0 : Int32} {u : CSt}  : KW5 (B_X3_returned_18 N l1 s0 u) u := by
  unfold B_X3_returned_18
  refine KW5_ok ?_
  refine KW5_bc (w5_F_X6_name.tr kw5_rf) (fun _ _ => ?_)
  refine KW5_ok ?_
  refine KW5_if ?_ ?_
  · skip
    exact w5_B_X3_returned_48.tr kw5_rf
  · skip
    exact w5_B_X3_returned_48.tr kw5_rf
theorem w5_B_X3_returned_0 {N : Nat} {l1 : Int32} {u : CSt}  : KW5 (B_X3_returned_0 N l1 u) u := by
  unfold B_X3_returned_0
  refine KW5_bc (w5_F_X9_typeAhead.tr kw5_rf) (fun _ _ => ?_)
  refine KW5_if ?_ ?_
  · skip
    exact w5_B_X3_returned_18.tr kw5_rf
  · skip
    exact w5_B_X3_returned_18.tr kw5_rf
theorem w5_F_X3_returned {N : Nat} {l1 : Int32} {u : CSt}  : KW5 (F_X3_returned N l1 u) u := by
  unfold F_X3_returned
  exact w5_B_X3_returned_0.tr kw5_rf
theorem w5_B_X3_labels_90 {N : Nat} {R_2 : Int32 × CSt → Option ((Sum Nat Int32) × CSt)} {l1 : Int32} {l2 : Int64} {l4 : Int64} {u : CSt} (h_R_2 : ∀ a, KW5 (R_2 a) a.2) : KW5 (B_X3_labels_90 N R_2 l1 l2 l4 u) u := by
  unfold B_X3_labels_90
  refine KW5_ok ?_
  refine KW5_bc (w5_F_X6_label.tr kw5_rf) (fun _ _ => ?_)
  exact (h_R_2 _).tr kw5_rf
theorem w5_B_X3_labels_2 {N : Nat} {R_2 : Int32 × CSt → Option ((Sum Nat Int32) × CSt)} {l1 : Int32} {u : CSt} (h_R_2 : ∀ a, KW5 (R_2 a) a.2) : KW5 (B_X3_labels_2 N R_2 l1 u) u := by
  unfold B_X3_labels_2
  refine KW5_if ?_ ?_
  · skip
    exact KW5_some kw5_rf
  · skip
    refine KW5_bc (w5_F_X9_is.tr kw5_rf) (fun _ _ => ?_)
    refine KW5_if ?_ ?_
    · skip
      refine KW5_bc (w5_F_X9_next.tr kw5_rf) (fun _ _ => ?_)
      refine KW5_bt (w5_F_X3_constant.tr kw5_rf) (fun _ _ => ?_)
      refine KW5_bc (w5_F_X9_is.tr kw5_rf) (fun _ _ => ?_)
      refine KW5_if ?_ ?_
      · skip
        exact (w5_B_X3_labels_90 h_R_2).tr kw5_rf
      · skip
        refine KW5_bc (w5_F_X9_next.tr kw5_rf) (fun _ _ => ?_)
        refine KW5_bc (w5_F_X9_here.tr kw5_rf) (fun _ _ => ?_)
        refine KW5_bt (w5_F_X3_constant.tr kw5_rf) (fun _ _ => ?_)
        refine KW5_if ?_ ?_
        · skip
          exact (w5_B_X3_labels_90 h_R_2).tr kw5_rf
        · skip
          refine KW5_bt (w5_F_X9_refuse.tr kw5_rf) (fun _ _ => ?_)
          exact (w5_B_X3_labels_90 h_R_2).tr kw5_rf
    · skip
      exact KW5_some kw5_rf
theorem w5_LP_X3_labels_2 {N : Nat}  (n : Nat) : ∀ a : Int32 × CSt, KW5 (LP_X3_labels_2 N n a) a.2 := by
  induction n with
  | zero => exact fun a r z e => by have e : (none : Option _) = some (r, z) := e; cases e
  | succ n ih =>
    intro a
    show KW5 (B_X3_labels_2 N (LP_X3_labels_2 N n) a.1 a.2) a.2
    exact w5_B_X3_labels_2 ih
theorem w5_B_X3_labels_0 {N : Nat} {u : CSt}  : KW5 (B_X3_labels_0 N u) u := by
  unfold B_X3_labels_0
  exact (w5_LP_X3_labels_2  _ _).tr kw5_rf
theorem w5_F_X3_labels {N : Nat} {u : CSt}  : KW5 (F_X3_labels N u) u := by
  unfold F_X3_labels
  exact w5_B_X3_labels_0.tr kw5_rf
theorem w5_B_X3_body_0 {N : Nat} {ro : Nat → Nat → Int32 → Int32 → CSt → Option (Sum Nat Int32 × CSt)} {u : CSt} (h_ro : ∀ q z a b u, KW5 (ro q z a b u) u) : KW5 (B_X3_body_0 N ro u) u := by
  unfold B_X3_body_0
  refine KW5_bc (w5_F_X9_next.tr kw5_rf) (fun _ _ => ?_)
  refine KW5_bt ((h_ro _ _ _ _ _).tr kw5_rf) (fun _ _ => ?_)
  exact KW5_some kw5_rf
theorem w5_F_X3_body {N : Nat} {ro : Nat → Nat → Int32 → Int32 → CSt → Option (Sum Nat Int32 × CSt)} {u : CSt} (h_ro : ∀ q z a b u, KW5 (ro q z a b u) u) : KW5 (F_X3_body N ro u) u := by
  unfold F_X3_body
  exact (w5_B_X3_body_0 h_ro).tr kw5_rf
theorem w5_B_X3_statements_31 {N : Nat} {ro : Nat → Nat → Int32 → Int32 → CSt → Option (Sum Nat Int32 × CSt)} {u : CSt} (h_ro : ∀ q z a b u, KW5 (ro q z a b u) u) : KW5 (B_X3_statements_31 N ro u) u := by
  unfold B_X3_statements_31
  refine KW5_bc (w5_F_X9_here.tr kw5_rf) (fun _ _ => ?_)
  refine KW5_bc (w5_F_X9_next.tr kw5_rf) (fun _ _ => ?_)
  exact KW5_some kw5_rf
theorem w5_B_X3_statements_2 {N : Nat} {ro : Nat → Nat → Int32 → Int32 → CSt → Option (Sum Nat Int32 × CSt)} {R_2 : Int32 × CSt → Option ((Sum Nat Int32) × CSt)} {l1 : Int32} {u : CSt} (h_ro : ∀ q z a b u, KW5 (ro q z a b u) u) (h_R_2 : ∀ a, KW5 (R_2 a) a.2) : KW5 (B_X3_statements_2 N ro R_2 l1 u) u := by
  unfold B_X3_statements_2
  refine KW5_if ?_ ?_
  · skip
    exact (w5_B_X3_statements_31 h_ro).tr kw5_rf
  · skip
    refine KW5_bc (w5_F_X9_is.tr kw5_rf) (fun _ _ => ?_)
    refine KW5_if ?_ ?_
    · skip
      refine KW5_bt ((h_ro _ _ _ _ _).tr kw5_rf) (fun _ _ => ?_)
      exact (h_R_2 _).tr kw5_rf
    · skip
      exact (w5_B_X3_statements_31 h_ro).tr kw5_rf
theorem w5_LP_X3_statements_2 {N : Nat} {ro : Nat → Nat → Int32 → Int32 → CSt → Option (Sum Nat Int32 × CSt)} (h_ro : ∀ q z a b u, KW5 (ro q z a b u) u) (n : Nat) : ∀ a : Int32 × CSt, KW5 (LP_X3_statements_2 N ro n a) a.2 := by
  induction n with
  | zero => exact fun a r z e => by have e : (none : Option _) = some (r, z) := e; cases e
  | succ n ih =>
    intro a
    show KW5 (B_X3_statements_2 N ro (LP_X3_statements_2 N ro n) a.1 a.2) a.2
    exact w5_B_X3_statements_2 h_ro ih
theorem w5_B_X3_statements_0 {N : Nat} {ro : Nat → Nat → Int32 → Int32 → CSt → Option (Sum Nat Int32 × CSt)} {u : CSt} (h_ro : ∀ q z a b u, KW5 (ro q z a b u) u) : KW5 (B_X3_statements_0 N ro u) u := by
  unfold B_X3_statements_0
  exact (w5_LP_X3_statements_2 h_ro _ _).tr kw5_rf
theorem w5_F_X3_statements {N : Nat} {ro : Nat → Nat → Int32 → Int32 → CSt → Option (Sum Nat Int32 × CSt)} {u : CSt} (h_ro : ∀ q z a b u, KW5 (ro q z a b u) u) : KW5 (F_X3_statements N ro u) u := by
  unfold F_X3_statements
  exact (w5_B_X3_statements_0 h_ro).tr kw5_rf
theorem w5_B_X3_statement_0 {N : Nat} {ro : Nat → Nat → Int32 → Int32 → CSt → Option (Sum Nat Int32 × CSt)} {u : CSt} (h_ro : ∀ q z a b u, KW5 (ro q z a b u) u) : KW5 (B_X3_statement_0 N ro u) u := by
  unfold B_X3_statement_0
  refine KW5_bc (w5_F_X9_here.tr kw5_rf) (fun _ _ => ?_)
  refine KW5_ok ?_
  refine KW5_bc (w5_F_X6_cost.tr kw5_rf) (fun _ _ => ?_)
  refine KW5_bc (w5_F_X9_type.tr kw5_rf) (fun _ _ => ?_)
  refine KW5_if ?_ ?_
  · skip
    refine KW5_bt ((h_ro _ _ _ _ _).tr kw5_rf) (fun _ _ => ?_)
    exact KW5_some kw5_rf
  · skip
    refine KW5_if ?_ ?_
    · skip
      refine KW5_bt ((h_ro _ _ _ _ _).tr kw5_rf) (fun _ _ => ?_)
      exact KW5_some kw5_rf
    · skip
      refine KW5_if ?_ ?_
      · skip
        refine KW5_bt ((h_ro _ _ _ _ _).tr kw5_rf) (fun _ _ => ?_)
        exact KW5_some kw5_rf
      · skip
        refine KW5_if ?_ ?_
        · skip
          refine KW5_bt ((h_ro _ _ _ _ _).tr kw5_rf) (fun _ _ => ?_)
          exact KW5_some kw5_rf
        · skip
          refine KW5_if ?_ ?_
          · skip
            refine KW5_bt (w5_F_X3_leave.tr kw5_rf) (fun _ _ => ?_)
            exact KW5_some kw5_rf
          · skip
            refine KW5_if ?_ ?_
            · skip
              refine KW5_bt (w5_F_X3_leave.tr kw5_rf) (fun _ _ => ?_)
              exact KW5_some kw5_rf
            · skip
              refine KW5_if ?_ ?_
              · skip
                refine KW5_bt (w5_F_X3_returned.tr kw5_rf) (fun _ _ => ?_)
                exact KW5_some kw5_rf
              · skip
                refine KW5_if ?_ ?_
                · skip
                  refine KW5_bc (w5_F_X9_next.tr kw5_rf) (fun _ _ => ?_)
                  refine KW5_bt (w5_G_X8_expression.tr kw5_rf) (fun _ _ => ?_)
                  refine KW5_ok ?_
                  refine KW5_bc (w5_F_X6_step.tr kw5_rf) (fun _ _ => ?_)
                  refine KW5_bc (w5_F_X9_next.tr kw5_rf) (fun _ _ => ?_)
                  exact KW5_some kw5_rf
                · skip
                  refine KW5_bc (w5_F_X9_typeAhead.tr kw5_rf) (fun _ _ => ?_)
                  refine KW5_if ?_ ?_
                  · skip
                    refine KW5_bt (w5_F_X3_instanceCall.tr kw5_rf) (fun _ _ => ?_)
                    exact KW5_some kw5_rf
                  · skip
                    refine KW5_bt (w5_F_X3_assignment.tr kw5_rf) (fun _ _ => ?_)
                    exact KW5_some kw5_rf
theorem w5_F_X3_statement {N : Nat} {ro : Nat → Nat → Int32 → Int32 → CSt → Option (Sum Nat Int32 × CSt)} {u : CSt} (h_ro : ∀ q z a b u, KW5 (ro q z a b u) u) : KW5 (F_X3_statement N ro u) u := by
  unfold F_X3_statement
  exact (w5_B_X3_statement_0 h_ro).tr kw5_rf
theorem w5_B_X3_choice_113 {N : Nat} {ro : Nat → Nat → Int32 → Int32 → CSt → Option (Sum Nat Int32 × CSt)} {l2 : Int32} {u : CSt} (h_ro : ∀ q z a b u, KW5 (ro q z a b u) u) : KW5 (B_X3_choice_113 N ro l2 u) u := by
  unfold B_X3_choice_113
  refine KW5_ok ?_
  refine KW5_bc (w5_F_X6_land.tr kw5_rf) (fun _ _ => ?_)
  exact KW5_some kw5_rf
theorem w5_B_X3_choice_90 {N : Nat} {ro : Nat → Nat → Int32 → Int32 → CSt → Option (Sum Nat Int32 × CSt)} {l2 : Int32} {u : CSt} (h_ro : ∀ q z a b u, KW5 (ro q z a b u) u) : KW5 (B_X3_choice_90 N ro l2 u) u := by
  unfold B_X3_choice_90
  refine KW5_bc (w5_F_X9_is.tr kw5_rf) (fun _ _ => ?_)
  refine KW5_if ?_ ?_
  · skip
    exact (w5_B_X3_choice_113 h_ro).tr kw5_rf
  · skip
    refine KW5_bc (w5_F_X9_next.tr kw5_rf) (fun _ _ => ?_)
    refine KW5_bt ((h_ro _ _ _ _ _).tr kw5_rf) (fun _ _ => ?_)
    exact (w5_B_X3_choice_113 h_ro).tr kw5_rf
theorem w5_B_X3_choice_7 {N : Nat} {ro : Nat → Nat → Int32 → Int32 → CSt → Option (Sum Nat Int32 × CSt)} {R_7 : Int32 × Int32 × Int32 × Int32 × CSt → Option ((Sum Nat Int32) × CSt)} {l1 : Int32} {l2 : Int32} {l3 : Int32} {l4 : Int32} {u : CSt} (h_ro : ∀ q z a b u, KW5 (ro q z a b u) u) (h_R_7 : ∀ a, KW5 (R_7 a) a.2.2.2.2) : KW5 (B_X3_choice_7 N ro R_7 l1 l2 l3 l4 u) u := by
  unfold B_X3_choice_7
  refine KW5_if ?_ ?_
  · skip
    exact (w5_B_X3_choice_90 h_ro).tr kw5_rf
  · skip
    refine KW5_if ?_ ?_
    · skip
      exact (w5_B_X3_choice_90 h_ro).tr kw5_rf
    · skip
      refine KW5_bc (w5_F_X9_next.tr kw5_rf) (fun _ _ => ?_)
      refine KW5_bt (w5_G_X8_expression.tr kw5_rf) (fun _ _ => ?_)
      refine KW5_ok ?_
      refine KW5_bc (w5_F_X6_step.tr kw5_rf) (fun _ _ => ?_)
      refine KW5_bt ((h_ro _ _ _ _ _).tr kw5_rf) (fun _ _ => ?_)
      refine KW5_ok ?_
      refine KW5_bc (w5_F_X6_step.tr kw5_rf) (fun _ _ => ?_)
      refine KW5_ok ?_
      refine KW5_bc (w5_F_X6_land.tr kw5_rf) (fun _ _ => ?_)
      refine KW5_bc (w5_F_X9_is.tr kw5_rf) (fun _ _ => ?_)
      exact (h_R_7 _).tr kw5_rf
theorem w5_LP_X3_choice_7 {N : Nat} {ro : Nat → Nat → Int32 → Int32 → CSt → Option (Sum Nat Int32 × CSt)} (h_ro : ∀ q z a b u, KW5 (ro q z a b u) u) (n : Nat) : ∀ a : Int32 × Int32 × Int32 × Int32 × CSt, KW5 (LP_X3_choice_7 N ro n a) a.2.2.2.2 := by
  induction n with
  | zero => exact fun a r z e => by have e : (none : Option _) = some (r, z) := e; cases e
  | succ n ih =>
    intro a
    show KW5 (B_X3_choice_7 N ro (LP_X3_choice_7 N ro n) a.1 a.2.1 a.2.2.1 a.2.2.2.1 a.2.2.2.2) a.2.2.2.2
    exact w5_B_X3_choice_7 h_ro ih
theorem w5_B_X3_choice_0 {N : Nat} {ro : Nat → Nat → Int32 → Int32 → CSt → Option (Sum Nat Int32 × CSt)} {l1 : Int32} {u : CSt} (h_ro : ∀ q z a b u, KW5 (ro q z a b u) u) : KW5 (B_X3_choice_0 N ro l1 u) u := by
  unfold B_X3_choice_0
  exact (w5_LP_X3_choice_7 h_ro _ _).tr kw5_rf
theorem w5_F_X3_choice {N : Nat} {ro : Nat → Nat → Int32 → Int32 → CSt → Option (Sum Nat Int32 × CSt)} {l1 : Int32} {u : CSt} (h_ro : ∀ q z a b u, KW5 (ro q z a b u) u) : KW5 (F_X3_choice N ro l1 u) u := by
  unfold F_X3_choice
  exact (w5_B_X3_choice_0 h_ro).tr kw5_rf
theorem w5_B_X3_loop_0 {N : Nat} {ro : Nat → Nat → Int32 → Int32 → CSt → Option (Sum Nat Int32 × CSt)} {l1 : Int32} {u : CSt} (h_ro : ∀ q z a b u, KW5 (ro q z a b u) u) : KW5 (B_X3_loop_0 N ro l1 u) u := by
  unfold B_X3_loop_0
  refine KW5_bc (w5_F_X9_next.tr kw5_rf) (fun _ _ => ?_)
  refine KW5_ok ?_
  refine KW5_bt (w5_G_X8_expression.tr kw5_rf) (fun _ _ => ?_)
  refine KW5_ok ?_
  refine KW5_bc (w5_F_X6_step.tr kw5_rf) (fun _ _ => ?_)
  refine KW5_pc ?_
  refine KW5_bt ((h_ro _ _ _ _ _).tr (f5_xI kw5_rf)) (fun _ _ => ?_)
  refine KW5_ok ?_
  refine KW5_bc (w5_F_X6_step.tr kw5_rf) (fun _ _ => ?_)
  refine KW5_ok ?_
  refine KW5_bc (w5_F_X6_land.tr kw5_rf) (fun _ _ => ?_)
  refine KW5_pc ?_
  exact KW5_some (f5_xI kw5_rf)
theorem w5_F_X3_loop {N : Nat} {ro : Nat → Nat → Int32 → Int32 → CSt → Option (Sum Nat Int32 × CSt)} {l1 : Int32} {u : CSt} (h_ro : ∀ q z a b u, KW5 (ro q z a b u) u) : KW5 (F_X3_loop N ro l1 u) u := by
  unfold F_X3_loop
  exact (w5_B_X3_loop_0 h_ro).tr kw5_rf
theorem w5_B_X3_round_0 {N : Nat} {ro : Nat → Nat → Int32 → Int32 → CSt → Option (Sum Nat Int32 × CSt)} {l1 : Int32} {u : CSt} (h_ro : ∀ q z a b u, KW5 (ro q z a b u) u) : KW5 (B_X3_round_0 N ro l1 u) u := by
  unfold B_X3_round_0
  refine KW5_pc ?_
  refine KW5_pc ?_
  refine KW5_ok ?_
  refine KW5_bc (w5_F_X6_cost.tr (f5_xI (f5_xI kw5_rf))) (fun _ _ => ?_)
  refine KW5_bt ((h_ro _ _ _ _ _).tr kw5_rf) (fun _ _ => ?_)
  refine KW5_pc ?_
  refine KW5_ok ?_
  refine KW5_bc (w5_F_X6_land.tr (f5_xI kw5_rf)) (fun _ _ => ?_)
  refine KW5_pc ?_
  exact KW5_some (f5_xI kw5_rf)
theorem w5_F_X3_round {N : Nat} {ro : Nat → Nat → Int32 → Int32 → CSt → Option (Sum Nat Int32 × CSt)} {l1 : Int32} {u : CSt} (h_ro : ∀ q z a b u, KW5 (ro q z a b u) u) : KW5 (F_X3_round N ro l1 u) u := by
  unfold F_X3_round
  exact (w5_B_X3_round_0 h_ro).tr kw5_rf
theorem w5_B_X3_counted_71 {N : Nat} {ro : Nat → Nat → Int32 → Int32 → CSt → Option (Sum Nat Int32 × CSt)} {l1 : Int32} {l2 : Int32} {l3 : Nat} {u : CSt} (h_ro : ∀ q z a b u, KW5 (ro q z a b u) u) : KW5 (B_X3_counted_71 N ro l1 l2 l3 u) u := by
  unfold B_X3_counted_71
  refine KW5_bc (w5_F_X9_next.tr kw5_rf) (fun _ _ => ?_)
  refine KW5_bt (w5_F_X3_setPlain.tr kw5_rf) (fun _ _ => ?_)
  refine KW5_bc (w5_F_X8_set.tr kw5_rf) (fun _ _ => ?_)
  refine KW5_bc (w5_F_X9_next.tr kw5_rf) (fun _ _ => ?_)
  refine KW5_bt (w5_G_X8_expression.tr kw5_rf) (fun _ _ => ?_)
  refine KW5_ok ?_
  refine KW5_bc (w5_F_X8_get.tr kw5_rf) (fun _ _ => ?_)
  refine KW5_ok ?_
  refine KW5_bc (w5_F_X6_step.tr kw5_rf) (fun _ _ => ?_)
  refine KW5_pc ?_
  refine KW5_bt ((h_ro _ _ _ _ _).tr (f5_xI kw5_rf)) (fun _ _ => ?_)
  refine KW5_bc (w5_F_X8_get.tr kw5_rf) (fun _ _ => ?_)
  refine KW5_ok ?_
  refine KW5_bc (w5_F_X6_step.tr kw5_rf) (fun _ _ => ?_)
  refine KW5_pc ?_
  refine KW5_bc (w5_F_X8_get.tr (f5_xI kw5_rf)) (fun _ _ => ?_)
  refine KW5_ok ?_
  refine KW5_bc (w5_F_X6_constant.tr kw5_rf) (fun _ _ => ?_)
  refine KW5_bc (w5_F_X8_combine.tr kw5_rf) (fun _ _ => ?_)
  refine KW5_bc (w5_F_X8_set.tr kw5_rf) (fun _ _ => ?_)
  refine KW5_ok ?_
  refine KW5_bc (w5_F_X6_step.tr kw5_rf) (fun _ _ => ?_)
  refine KW5_ok ?_
  refine KW5_bc (w5_F_X6_land.tr kw5_rf) (fun _ _ => ?_)
  refine KW5_pc ?_
  refine KW5_ok ?_
  refine KW5_bc (w5_F_X6_step.tr (f5_xI kw5_rf)) (fun _ _ => ?_)
  exact KW5_some kw5_rf
theorem w5_B_X3_counted_62 {N : Nat} {ro : Nat → Nat → Int32 → Int32 → CSt → Option (Sum Nat Int32 × CSt)} {l1 : Int32} {l2 : Int32} {l3 : Nat} {u : CSt} (h_ro : ∀ q z a b u, KW5 (ro q z a b u) u) : KW5 (B_X3_counted_62 N ro l1 l2 l3 u) u := by
  unfold B_X3_counted_62
  refine KW5_bt (w5_F_X9_refuse.tr kw5_rf) (fun _ _ => ?_)
  exact (w5_B_X3_counted_71 h_ro).tr kw5_rf
theorem w5_B_X3_counted_41 {N : Nat} {ro : Nat → Nat → Int32 → Int32 → CSt → Option (Sum Nat Int32 × CSt)} {l1 : Int32} {l2 : Int32} {l3 : Nat} {u : CSt} (h_ro : ∀ q z a b u, KW5 (ro q z a b u) u) : KW5 (B_X3_counted_41 N ro l1 l2 l3 u) u := by
  unfold B_X3_counted_41
  refine KW5_bc (w5_F_X4_hasNumbers.tr kw5_rf) (fun _ _ => ?_)
  refine KW5_if ?_ ?_
  · skip
    exact (w5_B_X3_counted_62 h_ro).tr kw5_rf
  · skip
    refine KW5_if ?_ ?_
    · skip
      refine KW5_bc (w5_F_X4_isInput.tr kw5_rf) (fun _ _ => ?_)
      refine KW5_if ?_ ?_
      · skip
        exact (w5_B_X3_counted_71 h_ro).tr kw5_rf
      · skip
        exact (w5_B_X3_counted_62 h_ro).tr kw5_rf
    · skip
      exact (w5_B_X3_counted_62 h_ro).tr kw5_rf
theorem w5_B_X3_counted_0 {N : Nat} {ro : Nat → Nat → Int32 → Int32 → CSt → Option (Sum Nat Int32 × CSt)} {l1 : Int32} {u : CSt} (h_ro : ∀ q z a b u, KW5 (ro q z a b u) u) : KW5 (B_X3_counted_0 N ro l1 u) u := by
  unfold B_X3_counted_0
  refine KW5_bc (w5_F_X9_next.tr kw5_rf) (fun _ _ => ?_)
  refine KW5_bc (w5_F_X9_here.tr kw5_rf) (fun _ _ => ?_)
  refine KW5_bc (w5_F_X8_known.tr kw5_rf) (fun _ _ => ?_)
  refine KW5_ok ?_
  refine KW5_if ?_ ?_
  · skip
    refine KW5_bt (w5_F_X9_refuse.tr kw5_rf) (fun _ _ => ?_)
    exact (w5_B_X3_counted_41 h_ro).tr kw5_rf
  · skip
    exact (w5_B_X3_counted_41 h_ro).tr kw5_rf
theorem w5_F_X3_counted {N : Nat} {ro : Nat → Nat → Int32 → Int32 → CSt → Option (Sum Nat Int32 × CSt)} {l1 : Int32} {u : CSt} (h_ro : ∀ q z a b u, KW5 (ro q z a b u) u) : KW5 (F_X3_counted N ro l1 u) u := by
  unfold F_X3_counted
  exact (w5_B_X3_counted_0 h_ro).tr kw5_rf
theorem w5_B_X3_cases_176 {N : Nat} {ro : Nat → Nat → Int32 → Int32 → CSt → Option (Sum Nat Int32 × CSt)} {l2 : Int32} {u : CSt} (h_ro : ∀ q z a b u, KW5 (ro q z a b u) u) : KW5 (B_X3_cases_176 N ro l2 u) u := by
  unfold B_X3_cases_176
  refine KW5_bc (w5_F_X9_next.tr kw5_rf) (fun _ _ => ?_)
  refine KW5_ok ?_
  refine KW5_bc (w5_F_X6_land.tr kw5_rf) (fun _ _ => ?_)
  exact KW5_some kw5_rf
theorem w5_B_X3_cases_140 {N : Nat} {ro : Nat → Nat → Int32 → Int32 → CSt → Option (Sum Nat Int32 × CSt)} {l1 : Int32} {l2 : Int32} {u : CSt} (h_ro : ∀ q z a b u, KW5 (ro q z a b u) u) : KW5 (B_X3_cases_140 N ro l1 l2 u) u := by
  unfold B_X3_cases_140
  refine KW5_ok ?_
  refine KW5_bc (w5_F_X6_step.tr kw5_rf) (fun _ _ => ?_)
  refine KW5_bc (w5_F_X9_is.tr kw5_rf) (fun _ _ => ?_)
  refine KW5_if ?_ ?_
  · skip
    exact (w5_B_X3_cases_176 h_ro).tr kw5_rf
  · skip
    refine KW5_bc (w5_F_X9_next.tr kw5_rf) (fun _ _ => ?_)
    refine KW5_bt ((h_ro _ _ _ _ _).tr kw5_rf) (fun _ _ => ?_)
    exact (w5_B_X3_cases_176 h_ro).tr kw5_rf
theorem w5_B_X3_cases_26 {N : Nat} {ro : Nat → Nat → Int32 → Int32 → CSt → Option (Sum Nat Int32 × CSt)} {R_26 : Int32 × Int32 × Int32 × CSt → Option ((Sum Nat Int32) × CSt)} {l1 : Int32} {l2 : Int32} {l3 : Int32} {u : CSt} (h_ro : ∀ q z a b u, KW5 (ro q z a b u) u) (h_R_26 : ∀ a, KW5 (R_26 a) a.2.2.2) : KW5 (B_X3_cases_26 N ro R_26 l1 l2 l3 u) u := by
  unfold B_X3_cases_26
  refine KW5_if ?_ ?_
  · skip
    exact (w5_B_X3_cases_140 h_ro).tr kw5_rf
  · skip
    refine KW5_bc (w5_F_X9_is.tr kw5_rf) (fun _ _ => ?_)
    refine KW5_if ?_ ?_
    · skip
      exact (w5_B_X3_cases_140 h_ro).tr kw5_rf
    · skip
      refine KW5_ok ?_
      refine KW5_bt (w5_F_X3_labels.tr kw5_rf) (fun _ _ => ?_)
      refine KW5_ok ?_
      refine KW5_bc (w5_F_X6_step.tr kw5_rf) (fun _ _ => ?_)
      refine KW5_ok ?_
      refine KW5_bc (w5_F_X6_step.tr kw5_rf) (fun _ _ => ?_)
      refine KW5_ok ?_
      refine KW5_bc (w5_F_X6_step.tr kw5_rf) (fun _ _ => ?_)
      refine KW5_bt ((h_ro _ _ _ _ _).tr kw5_rf) (fun _ _ => ?_)
      refine KW5_ok ?_
      refine KW5_bc (w5_F_X6_step.tr kw5_rf) (fun _ _ => ?_)
      refine KW5_ok ?_
      refine KW5_bc (w5_F_X6_land.tr kw5_rf) (fun _ _ => ?_)
      exact (h_R_26 _).tr kw5_rf
theorem w5_LP_X3_cases_26 {N : Nat} {ro : Nat → Nat → Int32 → Int32 → CSt → Option (Sum Nat Int32 × CSt)} (h_ro : ∀ q z a b u, KW5 (ro q z a b u) u) (n : Nat) : ∀ a : Int32 × Int32 × Int32 × CSt, KW5 (LP_X3_cases_26 N ro n a) a.2.2.2 := by
  induction n with
  | zero => exact fun a r z e => by have e : (none : Option _) = some (r, z) := e; cases e
  | succ n ih =>
    intro a
    show KW5 (B_X3_cases_26 N ro (LP_X3_cases_26 N ro n) a.1 a.2.1 a.2.2.1 a.2.2.2) a.2.2.2
    exact w5_B_X3_cases_26 h_ro ih
theorem w5_B_X3_cases_0 {N : Nat} {ro : Nat → Nat → Int32 → Int32 → CSt → Option (Sum Nat Int32 × CSt)} {l1 : Int32} {u : CSt} (h_ro : ∀ q z a b u, KW5 (ro q z a b u) u) : KW5 (B_X3_cases_0 N ro l1 u) u := by
  unfold B_X3_cases_0
  refine KW5_bc (w5_F_X9_next.tr kw5_rf) (fun _ _ => ?_)
  refine KW5_bt (w5_G_X8_expression.tr kw5_rf) (fun _ _ => ?_)
  refine KW5_bc (w5_F_X9_next.tr kw5_rf) (fun _ _ => ?_)
  exact (w5_LP_X3_cases_26 h_ro _ _).tr kw5_rf
theorem w5_F_X3_cases {N : Nat} {ro : Nat → Nat → Int32 → Int32 → CSt → Option (Sum Nat Int32 × CSt)} {l1 : Int32} {u : CSt} (h_ro : ∀ q z a b u, KW5 (ro q z a b u) u) : KW5 (F_X3_cases N ro l1 u) u := by
  unfold F_X3_cases
  exact (w5_B_X3_cases_0 h_ro).tr kw5_rf
theorem w5_FMS_ {N : Nat} : ∀ (d q z : Nat) (a b : Int32) (u : CSt), KW5 (FMS_ N d q z a b u) u := by
  intro d
  induction d with
  | zero => exact fun q z a b u => KW5_none
  | succ d ih =>
    intro q z a b u
    show KW5 (if q = 0 then F_X3_body N (FMS_ N d) u else if q = 1 then F_X3_statements N (FMS_ N d) u else if q = 2 then F_X3_statement N (FMS_ N d) u else if q = 3 then F_X3_choice N (FMS_ N d) a u else if q = 4 then F_X3_loop N (FMS_ N d) a u else if q = 5 then F_X3_round N (FMS_ N d) a u else if q = 6 then F_X3_counted N (FMS_ N d) a u else if q = 7 then F_X3_cases N (FMS_ N d) a u else none) u
    refine KW5_if (w5_F_X3_body ih) ?_
    refine KW5_if (w5_F_X3_statements ih) ?_
    refine KW5_if (w5_F_X3_statement ih) ?_
    refine KW5_if (w5_F_X3_choice ih) ?_
    refine KW5_if (w5_F_X3_loop ih) ?_
    refine KW5_if (w5_F_X3_round ih) ?_
    refine KW5_if (w5_F_X3_counted ih) ?_
    refine KW5_if (w5_F_X3_cases ih) ?_
    exact KW5_none
theorem w5_G_X3_statements {N : Nat} {u : CSt} : KW5 (G_X3_statements N u) u := w5_FMS_ _ _ _ _ _ _
theorem w5_B_X3_routine_118 {N : Nat} {l1 : Int32} {l2 : Int32} {l3 : Nat} {u : CSt}  : KW5 (B_X3_routine_118 N l1 l2 l3 u) u := by
  unfold B_X3_routine_118
  refine KW5_ok ?_
  refine KW5_pc ?_
  refine KW5_bt (w5_G_X3_statements.tr (f5_xmI kw5_rf)) (fun _ _ => ?_)
  refine KW5_if ?_ ?_
  · skip
    refine KW5_ok ?_
    refine KW5_bc (w5_F_X6_constant.tr kw5_rf) (fun _ _ => ?_)
    refine KW5_ok ?_
    refine KW5_bc (w5_F_X6_step.tr kw5_rf) (fun _ _ => ?_)
    refine KW5_ok ?_
    refine KW5_pc ?_
    exact KW5_some (f5_xpI kw5_rf)
  · skip
    refine KW5_ok ?_
    refine KW5_bc (w5_F_X6_step.tr kw5_rf) (fun _ _ => ?_)
    refine KW5_ok ?_
    refine KW5_pc ?_
    exact KW5_some (f5_xpI kw5_rf)
theorem w5_B_X3_routine_79 {N : Nat} {R_79 : Int32 × Int32 × Nat × Int32 × CSt → Option ((Sum Nat Int32) × CSt)} {l1 : Int32} {l2 : Int32} {l3 : Nat} {l4 : Int32} {u : CSt} (h_R_79 : ∀ a, KW5 (R_79 a) a.2.2.2.2) : KW5 (B_X3_routine_79 N R_79 l1 l2 l3 l4 u) u := by
  unfold B_X3_routine_79
  refine KW5_if ?_ ?_
  · skip
    exact w5_B_X3_routine_118.tr kw5_rf
  · skip
    refine KW5_bc (w5_F_X9_is.tr kw5_rf) (fun _ _ => ?_)
    refine KW5_if ?_ ?_
    · skip
      exact w5_B_X3_routine_118.tr kw5_rf
    · skip
      refine KW5_bc (w5_F_X9_next.tr kw5_rf) (fun _ _ => ?_)
      refine KW5_bt (w5_F_X3_variables.tr kw5_rf) (fun _ _ => ?_)
      exact (h_R_79 _).tr kw5_rf
theorem w5_LP_X3_routine_79 {N : Nat}  (n : Nat) : ∀ a : Int32 × Int32 × Nat × Int32 × CSt, KW5 (LP_X3_routine_79 N n a) a.2.2.2.2 := by
  induction n with
  | zero => exact fun a r z e => by have e : (none : Option _) = some (r, z) := e; cases e
  | succ n ih =>
    intro a
    show KW5 (B_X3_routine_79 N (LP_X3_routine_79 N n) a.1 a.2.1 a.2.2.1 a.2.2.2.1 a.2.2.2.2) a.2.2.2.2
    exact w5_B_X3_routine_79 ih
theorem w5_B_X3_routine_62 {N : Nat} {l1 : Int32} {l2 : Int32} {l3 : Nat} {u : CSt}  : KW5 (B_X3_routine_62 N l1 l2 l3 u) u := by
  unfold B_X3_routine_62
  refine KW5_bc (w5_F_X9_next.tr kw5_rf) (fun _ _ => ?_)
  refine KW5_bc (w5_F_X9_next.tr kw5_rf) (fun _ _ => ?_)
  exact (w5_LP_X3_routine_79  _ _).tr kw5_rf
theorem w5_B_X3_routine_32 {N : Nat} {R_32 : Int32 × Int32 × Nat × Int32 × CSt → Option ((Sum Nat Int32) × CSt)} {l1 : Int32} {l2 : Int32} {l3 : Nat} {l4 : Int32} {u : CSt} (h_R_32 : ∀ a, KW5 (R_32 a) a.2.2.2.2) : KW5 (B_X3_routine_32 N R_32 l1 l2 l3 l4 u) u := by
  unfold B_X3_routine_32
  refine KW5_if ?_ ?_
  · skip
    exact w5_B_X3_routine_62.tr kw5_rf
  · skip
    refine KW5_bc (w5_F_X9_is.tr kw5_rf) (fun _ _ => ?_)
    refine KW5_if ?_ ?_
    · skip
      refine KW5_bt (w5_F_X3_parameter.tr kw5_rf) (fun _ _ => ?_)
      exact (h_R_32 _).tr kw5_rf
    · skip
      exact w5_B_X3_routine_62.tr kw5_rf
theorem w5_LP_X3_routine_32 {N : Nat}  (n : Nat) : ∀ a : Int32 × Int32 × Nat × Int32 × CSt, KW5 (LP_X3_routine_32 N n a) a.2.2.2.2 := by
  induction n with
  | zero => exact fun a r z e => by have e : (none : Option _) = some (r, z) := e; cases e
  | succ n ih =>
    intro a
    show KW5 (B_X3_routine_32 N (LP_X3_routine_32 N n) a.1 a.2.1 a.2.2.1 a.2.2.2.1 a.2.2.2.2) a.2.2.2.2
    exact w5_B_X3_routine_32 ih
theorem w5_B_X3_routine_0 {N : Nat} {l1 : Int32} {l2 : Int32} {u : CSt}  : KW5 (B_X3_routine_0 N l1 l2 u) u := by
  unfold B_X3_routine_0
  refine KW5_bt (w5_F_X3_newName.tr kw5_rf) (fun _ _ => ?_)
  refine KW5_ok ?_
  refine KW5_pc ?_
  refine KW5_ok ?_
  refine KW5_pc ?_
  refine KW5_bc (w5_F_X9_next.tr (f5_xpI (f5_xmI kw5_rf))) (fun _ _ => ?_)
  exact (w5_LP_X3_routine_32  _ _).tr kw5_rf
theorem w5_F_X3_routine {N : Nat} {l1 : Int32} {l2 : Int32} {u : CSt}  : KW5 (F_X3_routine N l1 l2 u) u := by
  unfold F_X3_routine
  exact w5_B_X3_routine_0.tr kw5_rf
theorem w5_B_X3_cyclic_94 {N : Nat} {u : CSt}  : KW5 (B_X3_cyclic_94 N u) u := by
  unfold B_X3_cyclic_94
  refine KW5_bc (w5_F_X9_next.tr kw5_rf) (fun _ _ => ?_)
  refine KW5_ok ?_
  refine KW5_bt (w5_G_X3_statements.tr kw5_rf) (fun _ _ => ?_)
  refine KW5_bc (w5_F_X6_step.tr kw5_rf) (fun _ _ => ?_)
  exact KW5_some kw5_rf
theorem w5_B_X3_cyclic_61 {N : Nat} {l1 : Nat} {l2 : Int32} {l3 : Int32} {u : CSt}  : KW5 (B_X3_cyclic_61 N l1 l2 l3 u) u := by
  unfold B_X3_cyclic_61
  refine KW5_if ?_ ?_
  · skip
    exact w5_B_X3_cyclic_94.tr kw5_rf
  · skip
    refine KW5_ok ?_
    refine KW5_ix ?_
    refine KW5_bc (w5_F_X7_become.tr kw5_rf) (fun _ _ => ?_)
    exact w5_B_X3_cyclic_94.tr kw5_rf
theorem w5_B_X3_cyclic_0 {N : Nat} {u : CSt}  : KW5 (B_X3_cyclic_0 N u) u := by
  unfold B_X3_cyclic_0
  refine KW5_bt (w5_F_X3_newName.tr kw5_rf) (fun _ _ => ?_)
  refine KW5_ok ?_
  refine KW5_bc (w5_F_X9_next.tr kw5_rf) (fun _ _ => ?_)
  refine KW5_bt (w5_F_X9_takeBounded.tr kw5_rf) (fun _ _ => ?_)
  refine KW5_bc (w5_F_X9_is.tr kw5_rf) (fun _ _ => ?_)
  refine KW5_if ?_ ?_
  · skip
    exact w5_B_X3_cyclic_61.tr kw5_rf
  · skip
    refine KW5_bc (w5_F_X9_next.tr kw5_rf) (fun _ _ => ?_)
    refine KW5_bt (w5_F_X9_takeBounded.tr kw5_rf) (fun _ _ => ?_)
    exact w5_B_X3_cyclic_61.tr kw5_rf
theorem w5_F_X3_cyclic {N : Nat} {u : CSt}  : KW5 (F_X3_cyclic N u) u := by
  unfold F_X3_cyclic
  exact w5_B_X3_cyclic_0.tr kw5_rf
theorem w5_B_X3_make_205 {N : Nat} {R_57 : Int32 × CSt → Option ((Sum Nat Int32) × CSt)} {l2 : Int32} {u : CSt} (h_R_57 : ∀ a, KW5 (R_57 a) a.2) : KW5 (B_X3_make_205 N R_57 l2 u) u := by
  unfold B_X3_make_205
  exact (h_R_57 _).tr kw5_rf
theorem w5_B_X3_make_57 {N : Nat} {R_57 : Int32 × CSt → Option ((Sum Nat Int32) × CSt)} {l2 : Int32} {u : CSt} (h_R_57 : ∀ a, KW5 (R_57 a) a.2) : KW5 (B_X3_make_57 N R_57 l2 u) u := by
  unfold B_X3_make_57
  refine KW5_if ?_ ?_
  · skip
    exact KW5_some kw5_rf
  · skip
    refine KW5_bc (w5_F_X9_is.tr kw5_rf) (fun _ _ => ?_)
    refine KW5_if ?_ ?_
    · skip
      refine KW5_bc (w5_F_X9_type.tr kw5_rf) (fun _ _ => ?_)
      refine KW5_bc (w5_F_X9_next.tr kw5_rf) (fun _ _ => ?_)
      refine KW5_if ?_ ?_
      · skip
        refine KW5_bt (w5_F_X3_variables.tr kw5_rf) (fun _ _ => ?_)
        exact (w5_B_X3_make_205 h_R_57).tr kw5_rf
      · skip
        refine KW5_if ?_ ?_
        · skip
          refine KW5_bt (w5_F_X3_variables.tr kw5_rf) (fun _ _ => ?_)
          exact (w5_B_X3_make_205 h_R_57).tr kw5_rf
        · skip
          refine KW5_if ?_ ?_
          · skip
            refine KW5_bt (w5_F_X3_placed.tr kw5_rf) (fun _ _ => ?_)
            exact (w5_B_X3_make_205 h_R_57).tr kw5_rf
          · skip
            refine KW5_if ?_ ?_
            · skip
              refine KW5_bt (w5_F_X3_placed.tr kw5_rf) (fun _ _ => ?_)
              exact (w5_B_X3_make_205 h_R_57).tr kw5_rf
            · skip
              refine KW5_if ?_ ?_
              · skip
                refine KW5_bt (w5_F_X3_routine.tr kw5_rf) (fun _ _ => ?_)
                exact (w5_B_X3_make_205 h_R_57).tr kw5_rf
              · skip
                refine KW5_if ?_ ?_
                · skip
                  refine KW5_bt (w5_F_X3_uses.tr kw5_rf) (fun _ _ => ?_)
                  exact (w5_B_X3_make_205 h_R_57).tr kw5_rf
                · skip
                  refine KW5_if ?_ ?_
                  · skip
                    refine KW5_bc (w5_F_X9_takeKind.tr kw5_rf) (fun _ _ => ?_)
                    refine KW5_bt (w5_F_X3_routine.tr kw5_rf) (fun _ _ => ?_)
                    exact (w5_B_X3_make_205 h_R_57).tr kw5_rf
                  · skip
                    refine KW5_bt (w5_F_X3_cyclic.tr kw5_rf) (fun _ _ => ?_)
                    exact (w5_B_X3_make_205 h_R_57).tr kw5_rf
    · skip
      exact KW5_some kw5_rf
theorem w5_LP_X3_make_57 {N : Nat}  (n : Nat) : ∀ a : Int32 × CSt, KW5 (LP_X3_make_57 N n a) a.2 := by
  induction n with
  | zero => exact fun a r z e => by have e : (none : Option _) = some (r, z) := e; cases e
  | succ n ih =>
    intro a
    show KW5 (B_X3_make_57 N (LP_X3_make_57 N n) a.1 a.2) a.2
    exact w5_B_X3_make_57 ih
theorem w5_B_X3_make_0 {N : Nat} {l1 : Nat} {u : CSt}  : KW5 (B_X3_make_0 N l1 u) u := by
  unfold B_X3_make_0
  refine KW5_pc ?_
  refine KW5_ok ?_
  refine KW5_bc (w5_F_X6_empty.tr (f5_xR kw5_rf)) (fun _ _ => ?_)
  refine KW5_bc (w5_F_X8_begin.tr kw5_rf) (fun _ _ => ?_)
  refine KW5_pc ?_
  refine KW5_pc ?_
  refine KW5_pc ?_
  refine KW5_pc ?_
  refine KW5_pc ?_
  refine KW5_bc (w5_F_X9_rewind.tr (f5_xI (f5_xI (f5_xI (f5_xI (f5_xF kw5_rf)))))) (fun _ _ => ?_)
  exact (w5_LP_X3_make_57  _ _).tr kw5_rf
theorem w5_F_X3_make {N : Nat} {l1 : Nat} {u : CSt}  : KW5 (F_X3_make N l1 u) u := by
  unfold F_X3_make
  exact w5_B_X3_make_0.tr kw5_rf
def km5 (u w : CSt) : Prop := w.2.2.2.2 = u.2.2.2.2
def KM5 {β : Type} (x : Option (β × CSt)) (u : CSt) : Prop := ∀ r w, x = some (r, w) → km5 u w
section KM5s
variable {α β γ : Type} {u v w : CSt}
theorem km5_rf : km5 u u := rfl
theorem km5_tr (h : km5 u v) (h2 : km5 v w) : km5 u w := Eq.trans h2 h
theorem KM5.tr {x : Option (β × CSt)} (hx : KM5 x w) (h : km5 u w) : KM5 x u := fun r z e => km5_tr h (hx r z e)
theorem f6_xI {k : Nat} {a : Int32} (h : km5 u w) : km5 u (xI w k a) := h
theorem f6_xL {k : Nat} {a : Int64} (h : km5 u w) : km5 u (xL w k a) := h
theorem f6_xA {k i : Nat} {a : Int32} (h : km5 u w) : km5 u (xA w k i a) := h
theorem f6_xF {k : Nat} {g : Nat → Int32} (h : km5 u w) : km5 u (xF w k g) := h
theorem f6_xB {k i : Nat} {a : Int64} (h : km5 u w) : km5 u (xB w k i a) := h
theorem KM5_some {r : β} (h : km5 u w) : KM5 (some (r, w)) u := fun _ _ e => by cases e; exact h
theorem KM5_none : KM5 (none : Option (β × CSt)) u := fun _ _ e => nomatch e
theorem KM5_rd {f : Nat → α} {n : Nat} {i : Int32} {k : α → Option (β × CSt)} (h : ∀ a, KM5 (k a) u) : KM5 (rd f n i k) u := by
  intro r z e
  have q : wq (rd f n i k) (fun r' z' => r' = r ∧ z' = z) := ⟨r, z, e, rfl, rfl⟩
  obtain ⟨r1, z1, e1, rfl, rfl⟩ := (wq_rd.mp q).2
  exact h _ _ _ e1
theorem KM5_if {c : Prop} {d : Decidable c} {a b : Option (β × CSt)} (ha : KM5 a u) (hb : KM5 b u) : KM5 (if c then a else b) u := by
  by_cases q : c
  · rw [if_pos q]; exact ha
  · rw [if_neg q]; exact hb
theorem KM5_zr {v : Int32} {x : Option (β × CSt)} (h : KM5 x u) : KM5 (zr v x) u := fun r z e => h r z (zr_of e).2
theorem KM5_nz {v : Int32} {x : Option (β × CSt)} (h : KM5 x u) : KM5 (nz v x) u := fun r z e => h r z (nz_of e).2
theorem KM5_ok {P : Prop} {d : Decidable P} {x : Option (β × CSt)} (h : KM5 x u) : KM5 (ok P d x) u := fun r z e => h r z (ok_of e).2
theorem KM5_pc {x : CSt} {k : CSt → Option (β × CSt)} (h : KM5 (k x) u) : KM5 (pc x k) u := h
theorem KM5_wc {n : Nat} {i : Int32} {x : CSt} {k : CSt → Option (β × CSt)} (h : KM5 (k x) u) : KM5 (wc n i x k) u := by
  intro r z e
  have q : wq (wc n i x k) (fun r' z' => r' = r ∧ z' = z) := ⟨r, z, e, rfl, rfl⟩
  obtain ⟨r1, z1, e1, rfl, rfl⟩ := (wq_wc.mp q).2
  exact h _ _ e1
theorem KM5_bc {x : Option (α × CSt)} {k : α → CSt → Option (β × CSt)} (hx : KM5 x u) (h : ∀ r w, KM5 (k r w) w) : KM5 (bc x k) u := by
  intro r z e
  have q : wq (bc x k) (fun r' z' => r' = r ∧ z' = z) := ⟨r, z, e, rfl, rfl⟩
  obtain ⟨r1, z1, e1, r2, z2, e2, rfl, rfl⟩ := wq_bc.mp q
  exact km5_tr (hx _ _ e1) (h _ _ _ _ e2)
theorem KM5_pb {x : Option α} {k : α → Option (β × CSt)} (h : ∀ a, KM5 (k a) u) : KM5 (pb x k) u := by
  intro r z e
  have q : wq (pb x k) (fun r' z' => r' = r ∧ z' = z) := ⟨r, z, e, rfl, rfl⟩
  obtain ⟨a, -, r1, z1, e1, rfl, rfl⟩ := wq_pb.mp q
  exact h _ _ _ e1
theorem KM5_bt {x : Option (Sum Nat α × CSt)} {k : α → CSt → Option (Sum Nat γ × CSt)} (hx : KM5 x u) (h : ∀ r w, KM5 (k r w) w) : KM5 (bt x k) u := by
  intro r z e
  unfold bt at e
  cases hq : x with
  | none => rw [hq] at e; cases e
  | some a =>
    obtain ⟨y, v⟩ := a
    rw [hq] at e
    cases y with
    | inl n => cases e; exact hx _ _ hq
    | inr b => exact km5_tr (hx _ _ hq) (h _ _ _ _ e)
theorem KM5_ix {n : Nat} {i : Int32} {x : Option (β × CSt)} (h : KM5 x u) : KM5 (ix n i x) u := by
  intro r z e
  have q : wq (ix n i x) (fun r' z' => r' = r ∧ z' = z) := ⟨r, z, e, rfl, rfl⟩
  obtain ⟨r1, z1, e1, rfl, rfl⟩ := (wq_ix.mp q).2
  exact h _ _ e1
theorem KM5_bh {x : Option (Sum Nat α × CSt)} {kc : CSt → Option (β × CSt)} {k : α → CSt → Option (β × CSt)} (hx : KM5 x u) (h0 : ∀ w, KM5 (kc w) w) (h : ∀ r w, KM5 (k r w) w) : KM5 (bh x kc k) u := by
  intro r z e
  obtain ⟨y1, w1, e1, ⟨-, e2⟩ | ⟨q, -, e2⟩⟩ := bh_of e
  · exact km5_tr (hx _ _ e1) (h0 _ _ _ e2)
  · exact km5_tr (hx _ _ e1) (h _ _ _ _ e2)
end KM5s
theorem m5_B_X9_rewind_0 {N : Nat} {u : CSt}  : KM5 (B_X9_rewind_0 N u) u := by
  unfold B_X9_rewind_0
  refine KM5_pc ?_
  exact KM5_some (f6_xI km5_rf)
theorem m5_F_X9_rewind {N : Nat} {u : CSt}  : KM5 (F_X9_rewind N u) u := by
  unfold F_X9_rewind
  exact m5_B_X9_rewind_0.tr km5_rf
theorem m5_B_X9_type_0 {N : Nat} {u : CSt}  : KM5 (B_X9_type_0 N u) u := by
  unfold B_X9_type_0
  refine KM5_rd (fun _ => ?_)
  exact KM5_some km5_rf
theorem m5_F_X9_type {N : Nat} {u : CSt}  : KM5 (F_X9_type N u) u := by
  unfold F_X9_type
  exact m5_B_X9_type_0.tr km5_rf
theorem m5_B_X9_typeAhead_0 {N : Nat} {l1 : Int32} {u : CSt}  : KM5 (B_X9_typeAhead_0 N l1 u) u := by
  unfold B_X9_typeAhead_0
  refine KM5_if ?_ ?_
  · skip
    exact KM5_some km5_rf
  · skip
    refine KM5_rd (fun _ => ?_)
    exact KM5_some km5_rf
theorem m5_F_X9_typeAhead {N : Nat} {l1 : Int32} {u : CSt}  : KM5 (F_X9_typeAhead N l1 u) u := by
  unfold F_X9_typeAhead
  exact m5_B_X9_typeAhead_0.tr km5_rf
theorem m5_B_X9_is_0 {N : Nat} {l1 : Int32} {u : CSt}  : KM5 (B_X9_is_0 N l1 u) u := by
  unfold B_X9_is_0
  refine KM5_rd (fun _ => ?_)
  refine KM5_if ?_ ?_
  · skip
    exact KM5_some km5_rf
  · skip
    exact KM5_some km5_rf
theorem m5_F_X9_is {N : Nat} {l1 : Int32} {u : CSt}  : KM5 (F_X9_is N l1 u) u := by
  unfold F_X9_is
  exact m5_B_X9_is_0.tr km5_rf
theorem m5_B_X9_isKindWord_0 {N : Nat} {u : CSt}  : KM5 (B_X9_isKindWord_0 N u) u := by
  unfold B_X9_isKindWord_0
  refine KM5_rd (fun _ => ?_)
  refine KM5_if ?_ ?_
  · skip
    exact KM5_some km5_rf
  · skip
    refine KM5_rd (fun _ => ?_)
    refine KM5_if ?_ ?_
    · skip
      exact KM5_some km5_rf
    · skip
      exact KM5_some km5_rf
theorem m5_F_X9_isKindWord {N : Nat} {u : CSt}  : KM5 (F_X9_isKindWord N u) u := by
  unfold F_X9_isKindWord
  exact m5_B_X9_isKindWord_0.tr km5_rf
theorem m5_B_X9_next_0 {N : Nat} {u : CSt}  : KM5 (B_X9_next_0 N u) u := by
  unfold B_X9_next_0
  refine KM5_if ?_ ?_
  · skip
    exact KM5_some km5_rf
  · skip
    refine KM5_pc ?_
    exact KM5_some (f6_xI km5_rf)
theorem m5_F_X9_next {N : Nat} {u : CSt}  : KM5 (F_X9_next N u) u := by
  unfold F_X9_next
  exact m5_B_X9_next_0.tr km5_rf
theorem m5_B_X9_misfit_0 {N : Nat} {u : CSt}  : KM5 (B_X9_misfit_0 N u) u := by
  unfold B_X9_misfit_0
  refine KM5_rd (fun _ => ?_)
  refine KM5_if ?_ ?_
  · skip
    exact KM5_some km5_rf
  · skip
    exact KM5_some km5_rf
theorem m5_F_X9_misfit {N : Nat} {u : CSt}  : KM5 (F_X9_misfit N u) u := by
  unfold F_X9_misfit
  exact m5_B_X9_misfit_0.tr km5_rf
theorem m5_B_X9_refuse_0 {N : Nat} {l1 : Int32} {l2 : Int32} {u : CSt}  : KM5 (B_X9_refuse_0 N l1 l2 u) u := by
  unfold B_X9_refuse_0
  refine KM5_pc ?_
  refine KM5_pc ?_
  exact KM5_some (f6_xI (f6_xI km5_rf))
theorem m5_F_X9_refuse {N : Nat} {l1 : Int32} {l2 : Int32} {u : CSt}  : KM5 (F_X9_refuse N l1 l2 u) u := by
  unfold F_X9_refuse
  exact m5_B_X9_refuse_0.tr km5_rf
theorem m5_B_X9_take_30 {N : Nat} {u : CSt}  : KM5 (B_X9_take_30 N u) u := by
  unfold B_X9_take_30
  refine KM5_bc (m5_F_X9_next.tr km5_rf) (fun _ _ => ?_)
  exact KM5_some km5_rf
theorem m5_B_X9_take_0 {N : Nat} {l1 : Int32} {u : CSt}  : KM5 (B_X9_take_0 N l1 u) u := by
  unfold B_X9_take_0
  refine KM5_rd (fun _ => ?_)
  refine KM5_if ?_ ?_
  · skip
    exact m5_B_X9_take_30.tr km5_rf
  · skip
    refine KM5_bc (m5_F_X9_misfit.tr km5_rf) (fun _ _ => ?_)
    refine KM5_rd (fun _ => ?_)
    refine KM5_bt (m5_F_X9_refuse.tr km5_rf) (fun _ _ => ?_)
    exact m5_B_X9_take_30.tr km5_rf
theorem m5_F_X9_take {N : Nat} {l1 : Int32} {u : CSt}  : KM5 (F_X9_take N l1 u) u := by
  unfold F_X9_take
  exact m5_B_X9_take_0.tr km5_rf
theorem m5_B_X9_refuseToken_0 {N : Nat} {u : CSt}  : KM5 (B_X9_refuseToken_0 N u) u := by
  unfold B_X9_refuseToken_0
  refine KM5_bc (m5_F_X9_misfit.tr km5_rf) (fun _ _ => ?_)
  refine KM5_rd (fun _ => ?_)
  refine KM5_bt (m5_F_X9_refuse.tr km5_rf) (fun _ _ => ?_)
  exact KM5_some km5_rf
theorem m5_F_X9_refuseToken {N : Nat} {u : CSt}  : KM5 (F_X9_refuseToken N u) u := by
  unfold F_X9_refuseToken
  exact m5_B_X9_refuseToken_0.tr km5_rf
theorem m5_B_X9_byteAt_0 {N : Nat} {l1 : Int32} {u : CSt}  : KM5 (B_X9_byteAt_0 N l1 u) u := by
  unfold B_X9_byteAt_0
  refine KM5_if ?_ ?_
  · skip
    exact KM5_some km5_rf
  · skip
    refine KM5_if ?_ ?_
    · skip
      exact KM5_some km5_rf
    · skip
      refine KM5_if ?_ ?_
      · skip
        exact KM5_some km5_rf
      · skip
        refine KM5_rd (fun _ => ?_)
        exact KM5_some km5_rf
theorem m5_F_X9_byteAt {N : Nat} {l1 : Int32} {u : CSt}  : KM5 (F_X9_byteAt N l1 u) u := by
  unfold F_X9_byteAt
  exact m5_B_X9_byteAt_0.tr km5_rf
theorem m5_B_X9_behindGap_93 {N : Nat} {R_4 : Int32 × Int32 × CSt → Option (Int32 × CSt)} {l2 : Int32} {l3 : Int32} {u : CSt} (h_R_4 : ∀ a, KM5 (R_4 a) a.2.2) : KM5 (B_X9_behindGap_93 N R_4 l2 l3 u) u := by
  unfold B_X9_behindGap_93
  exact (h_R_4 _).tr km5_rf
theorem m5_B_X9_behindGap_35 {N : Nat} {R_4 : Int32 × Int32 × CSt → Option (Int32 × CSt)} {l3 : Int32} {s0 : Int32} {u : CSt} (h_R_4 : ∀ a, KM5 (R_4 a) a.2.2) : KM5 (B_X9_behindGap_35 N R_4 l3 s0 u) u := by
  unfold B_X9_behindGap_35
  exact (m5_B_X9_behindGap_93 h_R_4).tr km5_rf
theorem m5_B_X9_behindGap_63 {N : Nat} {R_4 : Int32 × Int32 × CSt → Option (Int32 × CSt)} {l2 : Int32} {l3 : Int32} {l4 : Int32} {u : CSt} (h_R_4 : ∀ a, KM5 (R_4 a) a.2.2) : KM5 (B_X9_behindGap_63 N R_4 l2 l3 l4 u) u := by
  unfold B_X9_behindGap_63
  refine KM5_if ?_ ?_
  · skip
    exact (m5_B_X9_behindGap_93 h_R_4).tr km5_rf
  · skip
    refine KM5_if ?_ ?_
    · skip
      exact (m5_B_X9_behindGap_93 h_R_4).tr km5_rf
    · skip
      refine KM5_if ?_ ?_
      · skip
        exact (m5_B_X9_behindGap_93 h_R_4).tr km5_rf
      · skip
        refine KM5_if ?_ ?_
        · skip
          exact (m5_B_X9_behindGap_93 h_R_4).tr km5_rf
        · skip
          exact KM5_some km5_rf
theorem m5_B_X9_behindGap_4 {N : Nat} {R_4 : Int32 × Int32 × CSt → Option (Int32 × CSt)} {l2 : Int32} {l3 : Int32} {u : CSt} (h_R_4 : ∀ a, KM5 (R_4 a) a.2.2) : KM5 (B_X9_behindGap_4 N R_4 l2 l3 u) u := by
  unfold B_X9_behindGap_4
  refine KM5_if ?_ ?_
  · skip
    exact KM5_some km5_rf
  · skip
    refine KM5_bc (m5_F_X9_byteAt.tr km5_rf) (fun _ _ => ?_)
    refine KM5_if ?_ ?_
    · skip
      refine KM5_if ?_ ?_
      · skip
        refine KM5_bc (m5_F_X9_byteAt.tr km5_rf) (fun _ _ => ?_)
        refine KM5_if ?_ ?_
        · skip
          exact (m5_B_X9_behindGap_93 h_R_4).tr km5_rf
        · skip
          exact (m5_B_X9_behindGap_63 h_R_4).tr km5_rf
      · skip
        exact (m5_B_X9_behindGap_63 h_R_4).tr km5_rf
    · skip
      refine KM5_if ?_ ?_
      · skip
        exact (m5_B_X9_behindGap_35 h_R_4).tr km5_rf
      · skip
        exact (m5_B_X9_behindGap_35 h_R_4).tr km5_rf
theorem m5_LP_X9_behindGap_4 {N : Nat}  (n : Nat) : ∀ a : Int32 × Int32 × CSt, KM5 (LP_X9_behindGap_4 N n a) a.2.2 := by
  induction n with
  | zero => exact fun a r z e => by have e : (none : Option _) = some (r, z) := e; cases e
  | succ n ih =>
    intro a
    show KM5 (B_X9_behindGap_4 N (LP_X9_behindGap_4 N n) a.1 a.2.1 a.2.2) a.2.2
    exact m5_B_X9_behindGap_4 ih
theorem m5_B_X9_behindGap_0 {N : Nat} {l1 : Int32} {u : CSt}  : KM5 (B_X9_behindGap_0 N l1 u) u := by
  unfold B_X9_behindGap_0
  exact (m5_LP_X9_behindGap_4  _ _).tr km5_rf
theorem m5_F_X9_behindGap {N : Nat} {l1 : Int32} {u : CSt}  : KM5 (F_X9_behindGap N l1 u) u := by
  unfold F_X9_behindGap
  exact m5_B_X9_behindGap_0.tr km5_rf
theorem m5_B_X9_put_0 {N : Nat} {l1 : Int32} {l2 : Int64} {l4 : Int32} {u : CSt}  : KM5 (B_X9_put_0 N l1 l2 l4 u) u := by
  unfold B_X9_put_0
  refine KM5_wc ?_
  refine KM5_wc ?_
  refine KM5_wc ?_
  exact KM5_some (f6_xA (f6_xB (f6_xA km5_rf)))
theorem m5_F_X9_put {N : Nat} {l1 : Int32} {l2 : Int64} {l4 : Int32} {u : CSt}  : KM5 (F_X9_put N l1 l2 l4 u) u := by
  unfold F_X9_put
  exact m5_B_X9_put_0.tr km5_rf
theorem m5_B_X9_closeWith_0 {N : Nat} {l1 : Int32} {l2 : Int32} {u : CSt}  : KM5 (B_X9_closeWith_0 N l1 l2 u) u := by
  unfold B_X9_closeWith_0
  refine KM5_bc (m5_F_X9_put.tr km5_rf) (fun _ _ => ?_)
  refine KM5_wc ?_
  exact KM5_some (f6_xA km5_rf)
theorem m5_F_X9_closeWith {N : Nat} {l1 : Int32} {l2 : Int32} {u : CSt}  : KM5 (F_X9_closeWith N l1 l2 u) u := by
  unfold F_X9_closeWith
  exact m5_B_X9_closeWith_0.tr km5_rf
theorem m5_B_X9_wordHead_5 {N : Nat} {R_5 : Int32 × Int32 × Int64 × Int32 × CSt → Option (Int64 × CSt)} {l1 : Int32} {l2 : Int32} {l3 : Int64} {l5 : Int32} {u : CSt} (h_R_5 : ∀ a, KM5 (R_5 a) a.2.2.2.2) : KM5 (B_X9_wordHead_5 N R_5 l1 l2 l3 l5 u) u := by
  unfold B_X9_wordHead_5
  refine KM5_if ?_ ?_
  · skip
    exact KM5_some km5_rf
  · skip
    refine KM5_if ?_ ?_
    · skip
      exact KM5_some km5_rf
    · skip
      refine KM5_bc (m5_F_X9_byteAt.tr km5_rf) (fun _ _ => ?_)
      exact (h_R_5 _).tr km5_rf
theorem m5_LP_X9_wordHead_5 {N : Nat}  (n : Nat) : ∀ a : Int32 × Int32 × Int64 × Int32 × CSt, KM5 (LP_X9_wordHead_5 N n a) a.2.2.2.2 := by
  induction n with
  | zero => exact fun a r z e => by have e : (none : Option _) = some (r, z) := e; cases e
  | succ n ih =>
    intro a
    show KM5 (B_X9_wordHead_5 N (LP_X9_wordHead_5 N n) a.1 a.2.1 a.2.2.1 a.2.2.2.1 a.2.2.2.2) a.2.2.2.2
    exact m5_B_X9_wordHead_5 ih
theorem m5_B_X9_wordHead_0 {N : Nat} {l1 : Int32} {l2 : Int32} {u : CSt}  : KM5 (B_X9_wordHead_0 N l1 l2 u) u := by
  unfold B_X9_wordHead_0
  exact (m5_LP_X9_wordHead_5  _ _).tr km5_rf
theorem m5_F_X9_wordHead {N : Nat} {l1 : Int32} {l2 : Int32} {u : CSt}  : KM5 (F_X9_wordHead N l1 l2 u) u := by
  unfold F_X9_wordHead
  exact m5_B_X9_wordHead_0.tr km5_rf
theorem m5_B_X9_wordTail_8 {N : Nat} {R_8 : Int32 × Int32 × Int32 × CSt → Option (Int32 × CSt)} {l2 : Int32} {l3 : Int32} {l4 : Int32} {u : CSt} (h_R_8 : ∀ a, KM5 (R_8 a) a.2.2.2) : KM5 (B_X9_wordTail_8 N R_8 l2 l3 l4 u) u := by
  unfold B_X9_wordTail_8
  refine KM5_if ?_ ?_
  · skip
    exact KM5_some km5_rf
  · skip
    refine KM5_bc (m5_F_X9_byteAt.tr km5_rf) (fun _ _ => ?_)
    exact (h_R_8 _).tr km5_rf
theorem m5_LP_X9_wordTail_8 {N : Nat}  (n : Nat) : ∀ a : Int32 × Int32 × Int32 × CSt, KM5 (LP_X9_wordTail_8 N n a) a.2.2.2 := by
  induction n with
  | zero => exact fun a r z e => by have e : (none : Option _) = some (r, z) := e; cases e
  | succ n ih =>
    intro a
    show KM5 (B_X9_wordTail_8 N (LP_X9_wordTail_8 N n) a.1 a.2.1 a.2.2.1 a.2.2.2) a.2.2.2
    exact m5_B_X9_wordTail_8 ih
theorem m5_B_X9_wordTail_0 {N : Nat} {l1 : Int32} {l2 : Int32} {u : CSt}  : KM5 (B_X9_wordTail_0 N l1 l2 u) u := by
  unfold B_X9_wordTail_0
  exact (m5_LP_X9_wordTail_8  _ _).tr km5_rf
theorem m5_F_X9_wordTail {N : Nat} {l1 : Int32} {l2 : Int32} {u : CSt}  : KM5 (F_X9_wordTail N l1 l2 u) u := by
  unfold F_X9_wordTail
  exact m5_B_X9_wordTail_0.tr km5_rf
theorem m5_B_X9_wordType_2 {N : Nat} {R_2 : Int64 × Int32 × CSt → Option (Int32 × CSt)} {l1 : Int64} {l3 : Int32} {u : CSt} (h_R_2 : ∀ a, KM5 (R_2 a) a.2.2) : KM5 (B_X9_wordType_2 N R_2 l1 l3 u) u := by
  unfold B_X9_wordType_2
  refine KM5_if ?_ ?_
  · skip
    exact KM5_some km5_rf
  · skip
    refine KM5_rd (fun _ => ?_)
    refine KM5_if ?_ ?_
    · skip
      exact KM5_some km5_rf
    · skip
      exact (h_R_2 _).tr km5_rf
theorem m5_LP_X9_wordType_2 {N : Nat}  (n : Nat) : ∀ a : Int64 × Int32 × CSt, KM5 (LP_X9_wordType_2 N n a) a.2.2 := by
  induction n with
  | zero => exact fun a r z e => by have e : (none : Option _) = some (r, z) := e; cases e
  | succ n ih =>
    intro a
    show KM5 (B_X9_wordType_2 N (LP_X9_wordType_2 N n) a.1 a.2.1 a.2.2) a.2.2
    exact m5_B_X9_wordType_2 ih
theorem m5_B_X9_wordType_0 {N : Nat} {l1 : Int64} {u : CSt}  : KM5 (B_X9_wordType_0 N l1 u) u := by
  unfold B_X9_wordType_0
  exact (m5_LP_X9_wordType_2  _ _).tr km5_rf
theorem m5_F_X9_wordType {N : Nat} {l1 : Int64} {u : CSt}  : KM5 (F_X9_wordType N l1 u) u := by
  unfold F_X9_wordType
  exact m5_B_X9_wordType_0.tr km5_rf
theorem m5_B_X9_readWord_69 {N : Nat} {l2 : Int32} {l3 : Int64} {l5 : Int32} {s1 : Int32} {u : CSt}  : KM5 (B_X9_readWord_69 N l2 l3 l5 s1 u) u := by
  unfold B_X9_readWord_69
  refine KM5_bc (m5_F_X9_put.tr km5_rf) (fun _ _ => ?_)
  exact KM5_some km5_rf
theorem m5_B_X9_readWord_27 {N : Nat} {l1 : Int32} {l2 : Int32} {u : CSt}  : KM5 (B_X9_readWord_27 N l1 l2 u) u := by
  unfold B_X9_readWord_27
  refine KM5_if ?_ ?_
  · skip
    refine KM5_bc (m5_F_X9_wordHead.tr km5_rf) (fun _ _ => ?_)
    refine KM5_bc (m5_F_X9_wordTail.tr km5_rf) (fun _ _ => ?_)
    refine KM5_if ?_ ?_
    · skip
      refine KM5_bc (m5_F_X9_wordType.tr km5_rf) (fun _ _ => ?_)
      exact m5_B_X9_readWord_69.tr km5_rf
    · skip
      exact m5_B_X9_readWord_69.tr km5_rf
  · skip
    exact KM5_some km5_rf
theorem m5_B_X9_readWord_2 {N : Nat} {R_2 : Int32 × Int32 × CSt → Option (Int32 × CSt)} {l1 : Int32} {l2 : Int32} {u : CSt} (h_R_2 : ∀ a, KM5 (R_2 a) a.2.2) : KM5 (B_X9_readWord_2 N R_2 l1 l2 u) u := by
  unfold B_X9_readWord_2
  refine KM5_if ?_ ?_
  · skip
    exact m5_B_X9_readWord_27.tr km5_rf
  · skip
    refine KM5_bc (m5_F_X9_byteAt.tr km5_rf) (fun _ _ => ?_)
    refine KM5_pb (fun _ => ?_)
    refine KM5_if ?_ ?_
    · skip
      exact m5_B_X9_readWord_27.tr km5_rf
    · skip
      exact (h_R_2 _).tr km5_rf
theorem m5_LP_X9_readWord_2 {N : Nat}  (n : Nat) : ∀ a : Int32 × Int32 × CSt, KM5 (LP_X9_readWord_2 N n a) a.2.2 := by
  induction n with
  | zero => exact fun a r z e => by have e : (none : Option _) = some (r, z) := e; cases e
  | succ n ih =>
    intro a
    show KM5 (B_X9_readWord_2 N (LP_X9_readWord_2 N n) a.1 a.2.1 a.2.2) a.2.2
    exact m5_B_X9_readWord_2 ih
theorem m5_B_X9_readWord_0 {N : Nat} {l1 : Int32} {u : CSt}  : KM5 (B_X9_readWord_0 N l1 u) u := by
  unfold B_X9_readWord_0
  exact (m5_LP_X9_readWord_2  _ _).tr km5_rf
theorem m5_F_X9_readWord {N : Nat} {l1 : Int32} {u : CSt}  : KM5 (F_X9_readWord N l1 u) u := by
  unfold F_X9_readWord
  exact m5_B_X9_readWord_0.tr km5_rf
theorem m5_B_X9_hexBits_5 {N : Nat} {R_5 : Int32 × Int64 × Int32 × CSt → Option (Int64 × CSt)} {l2 : Int32} {l3 : Int64} {l5 : Int32} {u : CSt} (h_R_5 : ∀ a, KM5 (R_5 a) a.2.2.2) : KM5 (B_X9_hexBits_5 N R_5 l2 l3 l5 u) u := by
  unfold B_X9_hexBits_5
  refine KM5_if ?_ ?_
  · skip
    exact KM5_some km5_rf
  · skip
    refine KM5_bc (m5_F_X9_byteAt.tr km5_rf) (fun _ _ => ?_)
    refine KM5_pb (fun _ => ?_)
    exact (h_R_5 _).tr km5_rf
theorem m5_LP_X9_hexBits_5 {N : Nat}  (n : Nat) : ∀ a : Int32 × Int64 × Int32 × CSt, KM5 (LP_X9_hexBits_5 N n a) a.2.2.2 := by
  induction n with
  | zero => exact fun a r z e => by have e : (none : Option _) = some (r, z) := e; cases e
  | succ n ih =>
    intro a
    show KM5 (B_X9_hexBits_5 N (LP_X9_hexBits_5 N n) a.1 a.2.1 a.2.2.1 a.2.2.2) a.2.2.2
    exact m5_B_X9_hexBits_5 ih
theorem m5_B_X9_hexBits_0 {N : Nat} {l1 : Int32} {l2 : Int32} {u : CSt}  : KM5 (B_X9_hexBits_0 N l1 l2 u) u := by
  unfold B_X9_hexBits_0
  exact (m5_LP_X9_hexBits_5  _ _).tr km5_rf
theorem m5_F_X9_hexBits {N : Nat} {l1 : Int32} {l2 : Int32} {u : CSt}  : KM5 (F_X9_hexBits N l1 l2 u) u := by
  unfold F_X9_hexBits
  exact m5_B_X9_hexBits_0.tr km5_rf
theorem m5_B_X9_decimal_5 {N : Nat} {R_5 : Int32 × Int64 × Int32 × CSt → Option (Int64 × CSt)} {l2 : Int32} {l3 : Int64} {l5 : Int32} {u : CSt} (h_R_5 : ∀ a, KM5 (R_5 a) a.2.2.2) : KM5 (B_X9_decimal_5 N R_5 l2 l3 l5 u) u := by
  unfold B_X9_decimal_5
  refine KM5_if ?_ ?_
  · skip
    exact KM5_some km5_rf
  · skip
    refine KM5_bc (m5_F_X9_byteAt.tr km5_rf) (fun _ _ => ?_)
    refine KM5_pb (fun _ => ?_)
    exact (h_R_5 _).tr km5_rf
theorem m5_LP_X9_decimal_5 {N : Nat}  (n : Nat) : ∀ a : Int32 × Int64 × Int32 × CSt, KM5 (LP_X9_decimal_5 N n a) a.2.2.2 := by
  induction n with
  | zero => exact fun a r z e => by have e : (none : Option _) = some (r, z) := e; cases e
  | succ n ih =>
    intro a
    show KM5 (B_X9_decimal_5 N (LP_X9_decimal_5 N n) a.1 a.2.1 a.2.2.1 a.2.2.2) a.2.2.2
    exact m5_B_X9_decimal_5 ih
theorem m5_B_X9_decimal_0 {N : Nat} {l1 : Int32} {l2 : Int32} {u : CSt}  : KM5 (B_X9_decimal_0 N l1 l2 u) u := by
  unfold B_X9_decimal_0
  exact (m5_LP_X9_decimal_5  _ _).tr km5_rf
theorem m5_F_X9_decimal {N : Nat} {l1 : Int32} {l2 : Int32} {u : CSt}  : KM5 (F_X9_decimal N l1 l2 u) u := by
  unfold F_X9_decimal
  exact m5_B_X9_decimal_0.tr km5_rf
theorem m5_B_X9_readNumber_211 {N : Nat} {l6 : Int32} {l8 : Int32} {s1 : Int32} {s2 : Int64} {u : CSt}  : KM5 (B_X9_readNumber_211 N l6 l8 s1 s2 u) u := by
  unfold B_X9_readNumber_211
  refine KM5_bc (m5_F_X9_put.tr km5_rf) (fun _ _ => ?_)
  exact KM5_some km5_rf
theorem m5_B_X9_readNumber_276 {N : Nat} {l6 : Int32} {s1 : Int32} {s2 : Int64} {s3 : Int32} {u : CSt}  : KM5 (B_X9_readNumber_276 N l6 s1 s2 s3 u) u := by
  unfold B_X9_readNumber_276
  refine KM5_bc (m5_F_X9_put.tr km5_rf) (fun _ _ => ?_)
  exact KM5_some km5_rf
theorem m5_B_X9_readNumber_254 {N : Nat} {l6 : Int32} {l8 : Int32} {l9 : Int64} {s0 : Int32} {u : CSt}  : KM5 (B_X9_readNumber_254 N l6 l8 l9 s0 u) u := by
  unfold B_X9_readNumber_254
  refine KM5_if ?_ ?_
  · skip
    exact m5_B_X9_readNumber_276.tr km5_rf
  · skip
    exact m5_B_X9_readNumber_276.tr km5_rf
theorem m5_B_X9_readNumber_249 {N : Nat} {l6 : Int32} {l8 : Int32} {l9 : Int64} {u : CSt}  : KM5 (B_X9_readNumber_249 N l6 l8 l9 u) u := by
  unfold B_X9_readNumber_249
  exact m5_B_X9_readNumber_254.tr km5_rf
theorem m5_B_X9_readNumber_253 {N : Nat} {l6 : Int32} {l8 : Int32} {l9 : Int64} {u : CSt}  : KM5 (B_X9_readNumber_253 N l6 l8 l9 u) u := by
  unfold B_X9_readNumber_253
  exact m5_B_X9_readNumber_254.tr km5_rf
theorem m5_B_X9_readNumber_178 {N : Nat} {l2 : Int32} {l3 : Int32} {l4 : Int32} {l5 : Int32} {l6 : Int32} {s0 : Int32} {u : CSt}  : KM5 (B_X9_readNumber_178 N l2 l3 l4 l5 l6 s0 u) u := by
  unfold B_X9_readNumber_178
  refine KM5_if ?_ ?_
  · skip
    refine KM5_bc (m5_F_X9_decimal.tr km5_rf) (fun _ _ => ?_)
    refine KM5_if ?_ ?_
    · skip
      exact m5_B_X9_readNumber_249.tr km5_rf
    · skip
      refine KM5_if ?_ ?_
      · skip
        refine KM5_if ?_ ?_
        · skip
          exact m5_B_X9_readNumber_253.tr km5_rf
        · skip
          exact m5_B_X9_readNumber_249.tr km5_rf
      · skip
        exact m5_B_X9_readNumber_253.tr km5_rf
  · skip
    refine KM5_bc (m5_F_X9_hexBits.tr km5_rf) (fun _ _ => ?_)
    refine KM5_if ?_ ?_
    · skip
      exact m5_B_X9_readNumber_211.tr km5_rf
    · skip
      exact m5_B_X9_readNumber_211.tr km5_rf
theorem m5_B_X9_readNumber_137 {N : Nat} {l2 : Int32} {l3 : Int32} {l4 : Int32} {l5 : Int32} {l6 : Int32} {s0 : Int32} {u : CSt}  : KM5 (B_X9_readNumber_137 N l2 l3 l4 l5 l6 s0 u) u := by
  unfold B_X9_readNumber_137
  refine KM5_if ?_ ?_
  · skip
    exact KM5_some km5_rf
  · skip
    refine KM5_if ?_ ?_
    · skip
      exact KM5_some km5_rf
    · skip
      refine KM5_bc (m5_F_X9_byteAt.tr km5_rf) (fun _ _ => ?_)
      refine KM5_pb (fun _ => ?_)
      refine KM5_if ?_ ?_
      · skip
        refine KM5_if ?_ ?_
        · skip
          exact m5_B_X9_readNumber_178.tr km5_rf
        · skip
          exact m5_B_X9_readNumber_178.tr km5_rf
      · skip
        exact KM5_some km5_rf
theorem m5_B_X9_readNumber_104 {N : Nat} {l2 : Int32} {l3 : Int32} {l4 : Int32} {l5 : Int32} {s0 : Int32} {u : CSt}  : KM5 (B_X9_readNumber_104 N l2 l3 l4 l5 s0 u) u := by
  unfold B_X9_readNumber_104
  refine KM5_if ?_ ?_
  · skip
    refine KM5_if ?_ ?_
    · skip
      exact m5_B_X9_readNumber_137.tr km5_rf
    · skip
      exact m5_B_X9_readNumber_137.tr km5_rf
  · skip
    refine KM5_if ?_ ?_
    · skip
      exact m5_B_X9_readNumber_137.tr km5_rf
    · skip
      exact m5_B_X9_readNumber_137.tr km5_rf
theorem m5_B_X9_readNumber_88 {N : Nat} {l2 : Int32} {l3 : Int32} {l4 : Int32} {s0 : Int32} {u : CSt}  : KM5 (B_X9_readNumber_88 N l2 l3 l4 s0 u) u := by
  unfold B_X9_readNumber_88
  refine KM5_if ?_ ?_
  · skip
    exact m5_B_X9_readNumber_104.tr km5_rf
  · skip
    exact m5_B_X9_readNumber_104.tr km5_rf
theorem m5_B_X9_readNumber_72 {N : Nat} {l2 : Int32} {l3 : Int32} {l4 : Int32} {u : CSt}  : KM5 (B_X9_readNumber_72 N l2 l3 l4 u) u := by
  unfold B_X9_readNumber_72
  refine KM5_bc (m5_F_X9_byteAt.tr km5_rf) (fun _ _ => ?_)
  refine KM5_if ?_ ?_
  · skip
    exact m5_B_X9_readNumber_88.tr km5_rf
  · skip
    exact m5_B_X9_readNumber_88.tr km5_rf
theorem m5_B_X9_readNumber_43 {N : Nat} {R_43 : Int32 × Int32 × Int32 × CSt → Option (Int32 × CSt)} {l2 : Int32} {l3 : Int32} {l4 : Int32} {u : CSt} (h_R_43 : ∀ a, KM5 (R_43 a) a.2.2.2) : KM5 (B_X9_readNumber_43 N R_43 l2 l3 l4 u) u := by
  unfold B_X9_readNumber_43
  refine KM5_if ?_ ?_
  · skip
    exact m5_B_X9_readNumber_72.tr km5_rf
  · skip
    refine KM5_bc (m5_F_X9_byteAt.tr km5_rf) (fun _ _ => ?_)
    refine KM5_pb (fun _ => ?_)
    refine KM5_if ?_ ?_
    · skip
      exact m5_B_X9_readNumber_72.tr km5_rf
    · skip
      exact (h_R_43 _).tr km5_rf
theorem m5_LP_X9_readNumber_43 {N : Nat}  (n : Nat) : ∀ a : Int32 × Int32 × Int32 × CSt, KM5 (LP_X9_readNumber_43 N n a) a.2.2.2 := by
  induction n with
  | zero => exact fun a r z e => by have e : (none : Option _) = some (r, z) := e; cases e
  | succ n ih =>
    intro a
    show KM5 (B_X9_readNumber_43 N (LP_X9_readNumber_43 N n) a.1 a.2.1 a.2.2.1 a.2.2.2) a.2.2.2
    exact m5_B_X9_readNumber_43 ih
theorem m5_B_X9_readNumber_39 {N : Nat} {l2 : Int32} {s0 : Int32} {u : CSt}  : KM5 (B_X9_readNumber_39 N l2 s0 u) u := by
  unfold B_X9_readNumber_39
  exact (m5_LP_X9_readNumber_43  _ _).tr km5_rf
theorem m5_B_X9_readNumber_27 {N : Nat} {l1 : Int32} {s0 : Int32} {u : CSt}  : KM5 (B_X9_readNumber_27 N l1 s0 u) u := by
  unfold B_X9_readNumber_27
  refine KM5_if ?_ ?_
  · skip
    exact m5_B_X9_readNumber_39.tr km5_rf
  · skip
    exact m5_B_X9_readNumber_39.tr km5_rf
theorem m5_B_X9_readNumber_26 {N : Nat} {l1 : Int32} {u : CSt}  : KM5 (B_X9_readNumber_26 N l1 u) u := by
  unfold B_X9_readNumber_26
  exact m5_B_X9_readNumber_27.tr km5_rf
theorem m5_B_X9_readNumber_0 {N : Nat} {l1 : Int32} {u : CSt}  : KM5 (B_X9_readNumber_0 N l1 u) u := by
  unfold B_X9_readNumber_0
  refine KM5_bc (m5_F_X9_byteAt.tr km5_rf) (fun _ _ => ?_)
  refine KM5_if ?_ ?_
  · skip
    refine KM5_bc (m5_F_X9_byteAt.tr km5_rf) (fun _ _ => ?_)
    refine KM5_if ?_ ?_
    · skip
      exact m5_B_X9_readNumber_27.tr km5_rf
    · skip
      exact m5_B_X9_readNumber_26.tr km5_rf
  · skip
    exact m5_B_X9_readNumber_26.tr km5_rf
theorem m5_F_X9_readNumber {N : Nat} {l1 : Int32} {u : CSt}  : KM5 (F_X9_readNumber N l1 u) u := by
  unfold F_X9_readNumber
  exact m5_B_X9_readNumber_0.tr km5_rf
theorem m5_B_X9_readCharacter_0 {N : Nat} {l1 : Int32} {u : CSt}  : KM5 (B_X9_readCharacter_0 N l1 u) u := by
  unfold B_X9_readCharacter_0
  refine KM5_bc (m5_F_X9_byteAt.tr km5_rf) (fun _ _ => ?_)
  refine KM5_if ?_ ?_
  · skip
    exact KM5_some km5_rf
  · skip
    refine KM5_if ?_ ?_
    · skip
      exact KM5_some km5_rf
    · skip
      refine KM5_bc (m5_F_X9_byteAt.tr km5_rf) (fun _ _ => ?_)
      refine KM5_if ?_ ?_
      · skip
        refine KM5_bc (m5_F_X9_put.tr km5_rf) (fun _ _ => ?_)
        exact KM5_some km5_rf
      · skip
        exact KM5_some km5_rf
theorem m5_F_X9_readCharacter {N : Nat} {l1 : Int32} {u : CSt}  : KM5 (F_X9_readCharacter N l1 u) u := by
  unfold F_X9_readCharacter
  exact m5_B_X9_readCharacter_0.tr km5_rf
theorem m5_B_X9_readSign_98 {N : Nat} {l1 : Int32} {l3 : Int32} {l4 : Int32} {u : CSt}  : KM5 (B_X9_readSign_98 N l1 l3 l4 u) u := by
  unfold B_X9_readSign_98
  refine KM5_bc (m5_F_X9_put.tr km5_rf) (fun _ _ => ?_)
  exact KM5_some km5_rf
theorem m5_B_X9_readSign_65 {N : Nat} {l1 : Int32} {l2 : Int32} {l3 : Int32} {l4 : Int32} {u : CSt}  : KM5 (B_X9_readSign_65 N l1 l2 l3 l4 u) u := by
  unfold B_X9_readSign_65
  refine KM5_bc (m5_F_X9_byteAt.tr km5_rf) (fun _ _ => ?_)
  refine KM5_if ?_ ?_
  · skip
    refine KM5_pb (fun _ => ?_)
    refine KM5_if ?_ ?_
    · skip
      exact m5_B_X9_readSign_98.tr km5_rf
    · skip
      exact m5_B_X9_readSign_98.tr km5_rf
  · skip
    exact m5_B_X9_readSign_98.tr km5_rf
theorem m5_B_X9_readSign_33 {N : Nat} {R_33 : Int32 × Int32 × Int32 × Int32 × Int32 × CSt → Option (Int32 × CSt)} {l1 : Int32} {l2 : Int32} {l3 : Int32} {l4 : Int32} {l5 : Int32} {u : CSt} (h_R_33 : ∀ a, KM5 (R_33 a) a.2.2.2.2.2) : KM5 (B_X9_readSign_33 N R_33 l1 l2 l3 l4 l5 u) u := by
  unfold B_X9_readSign_33
  refine KM5_if ?_ ?_
  · skip
    exact m5_B_X9_readSign_65.tr km5_rf
  · skip
    refine KM5_bc (m5_F_X9_byteAt.tr km5_rf) (fun _ _ => ?_)
    refine KM5_if ?_ ?_
    · skip
      exact (h_R_33 _).tr km5_rf
    · skip
      exact m5_B_X9_readSign_65.tr km5_rf
theorem m5_LP_X9_readSign_33 {N : Nat}  (n : Nat) : ∀ a : Int32 × Int32 × Int32 × Int32 × Int32 × CSt, KM5 (LP_X9_readSign_33 N n a) a.2.2.2.2.2 := by
  induction n with
  | zero => exact fun a r z e => by have e : (none : Option _) = some (r, z) := e; cases e
  | succ n ih =>
    intro a
    show KM5 (B_X9_readSign_33 N (LP_X9_readSign_33 N n) a.1 a.2.1 a.2.2.1 a.2.2.2.1 a.2.2.2.2.1 a.2.2.2.2.2) a.2.2.2.2.2
    exact m5_B_X9_readSign_33 ih
theorem m5_B_X9_readSign_0 {N : Nat} {l1 : Int32} {u : CSt}  : KM5 (B_X9_readSign_0 N l1 u) u := by
  unfold B_X9_readSign_0
  refine KM5_bc (m5_F_X9_byteAt.tr km5_rf) (fun _ _ => ?_)
  refine KM5_if ?_ ?_
  · skip
    exact KM5_some km5_rf
  · skip
    refine KM5_if ?_ ?_
    · skip
      refine KM5_pb (fun _ => ?_)
      exact (m5_LP_X9_readSign_33  _ _).tr km5_rf
    · skip
      exact KM5_some km5_rf
theorem m5_F_X9_readSign {N : Nat} {l1 : Int32} {u : CSt}  : KM5 (F_X9_readSign N l1 u) u := by
  unfold F_X9_readSign
  exact m5_B_X9_readSign_0.tr km5_rf
theorem m5_B_X9_readToken_34 {N : Nat} {l1 : Int32} {l2 : Int32} {u : CSt}  : KM5 (B_X9_readToken_34 N l1 l2 u) u := by
  unfold B_X9_readToken_34
  refine KM5_pb (fun _ => ?_)
  refine KM5_if ?_ ?_
  · skip
    refine KM5_if ?_ ?_
    · skip
      refine KM5_bc (m5_F_X9_readCharacter.tr km5_rf) (fun _ _ => ?_)
      exact KM5_some km5_rf
    · skip
      refine KM5_bc (m5_F_X9_readSign.tr km5_rf) (fun _ _ => ?_)
      exact KM5_some km5_rf
  · skip
    refine KM5_bc (m5_F_X9_readWord.tr km5_rf) (fun _ _ => ?_)
    exact KM5_some km5_rf
theorem m5_B_X9_readToken_0 {N : Nat} {l1 : Int32} {u : CSt}  : KM5 (B_X9_readToken_0 N l1 u) u := by
  unfold B_X9_readToken_0
  refine KM5_bc (m5_F_X9_byteAt.tr km5_rf) (fun _ _ => ?_)
  refine KM5_wc ?_
  refine KM5_if ?_ ?_
  · skip
    exact m5_B_X9_readToken_34.tr (f6_xA km5_rf)
  · skip
    refine KM5_if ?_ ?_
    · skip
      exact m5_B_X9_readToken_34.tr (f6_xA km5_rf)
    · skip
      refine KM5_bc (m5_F_X9_readNumber.tr (f6_xA km5_rf)) (fun _ _ => ?_)
      exact KM5_some km5_rf
theorem m5_F_X9_readToken {N : Nat} {l1 : Int32} {u : CSt}  : KM5 (F_X9_readToken N l1 u) u := by
  unfold F_X9_readToken
  exact m5_B_X9_readToken_0.tr km5_rf
theorem m5_B_X9_read_132 {N : Nat} {l2 : Int32} {s1 : Int32} {u : CSt}  : KM5 (B_X9_read_132 N l2 s1 u) u := by
  unfold B_X9_read_132
  refine KM5_bc (m5_F_X9_closeWith.tr km5_rf) (fun _ _ => ?_)
  exact KM5_some km5_rf
theorem m5_B_X9_read_93 {N : Nat} {l2 : Int32} {u : CSt}  : KM5 (B_X9_read_93 N l2 u) u := by
  unfold B_X9_read_93
  refine KM5_if ?_ ?_
  · skip
    refine KM5_bc (m5_F_X9_readToken.tr km5_rf) (fun _ _ => ?_)
    refine KM5_if ?_ ?_
    · skip
      exact m5_B_X9_read_132.tr km5_rf
    · skip
      exact m5_B_X9_read_132.tr km5_rf
  · skip
    refine KM5_bc (m5_F_X9_closeWith.tr km5_rf) (fun _ _ => ?_)
    exact KM5_some km5_rf
theorem m5_B_X9_read_33 {N : Nat} {R_33 : Int32 × Int32 × CSt → Option (Int32 × CSt)} {l2 : Int32} {l3 : Int32} {u : CSt} (h_R_33 : ∀ a, KM5 (R_33 a) a.2.2) : KM5 (B_X9_read_33 N R_33 l2 l3 u) u := by
  unfold B_X9_read_33
  refine KM5_if ?_ ?_
  · skip
    exact m5_B_X9_read_93.tr km5_rf
  · skip
    refine KM5_if ?_ ?_
    · skip
      exact m5_B_X9_read_93.tr km5_rf
    · skip
      refine KM5_bc (m5_F_X9_readToken.tr km5_rf) (fun _ _ => ?_)
      refine KM5_if ?_ ?_
      · skip
        refine KM5_pc ?_
        refine KM5_bc (m5_F_X9_behindGap.tr (f6_xI km5_rf)) (fun _ _ => ?_)
        exact (h_R_33 _).tr km5_rf
      · skip
        refine KM5_bc (m5_F_X9_closeWith.tr km5_rf) (fun _ _ => ?_)
        exact KM5_some km5_rf
theorem m5_LP_X9_read_33 {N : Nat}  (n : Nat) : ∀ a : Int32 × Int32 × CSt, KM5 (LP_X9_read_33 N n a) a.2.2 := by
  induction n with
  | zero => exact fun a r z e => by have e : (none : Option _) = some (r, z) := e; cases e
  | succ n ih =>
    intro a
    show KM5 (B_X9_read_33 N (LP_X9_read_33 N n) a.1 a.2.1 a.2.2) a.2.2
    exact m5_B_X9_read_33 ih
theorem m5_B_X9_read_0 {N : Nat} {l1 : Int32} {u : CSt}  : KM5 (B_X9_read_0 N l1 u) u := by
  unfold B_X9_read_0
  refine KM5_pc ?_
  refine KM5_pc ?_
  refine KM5_pc ?_
  refine KM5_pc ?_
  refine KM5_pc ?_
  refine KM5_bc (m5_F_X9_behindGap.tr (f6_xI (f6_xI (f6_xI (f6_xI (f6_xI km5_rf)))))) (fun _ _ => ?_)
  exact (m5_LP_X9_read_33  _ _).tr km5_rf
theorem m5_F_X9_read {N : Nat} {l1 : Int32} {u : CSt}  : KM5 (F_X9_read N l1 u) u := by
  unfold F_X9_read
  exact m5_B_X9_read_0.tr km5_rf
theorem m5_B_X0_opens_27 {N : Nat} {u : CSt}  : KM5 (B_X0_opens_27 N u) u := by
  unfold B_X0_opens_27
  refine KM5_pc ?_
  refine KM5_bc (m5_F_X9_next.tr (f6_xI km5_rf)) (fun _ _ => ?_)
  exact KM5_some km5_rf
theorem m5_B_X0_opens_20 {N : Nat} {u : CSt}  : KM5 (B_X0_opens_20 N u) u := by
  unfold B_X0_opens_20
  refine KM5_bt (m5_F_X9_refuseToken.tr km5_rf) (fun _ _ => ?_)
  exact m5_B_X0_opens_27.tr km5_rf
theorem m5_B_X0_opens_0 {N : Nat} {l1 : Int32} {u : CSt}  : KM5 (B_X0_opens_0 N l1 u) u := by
  unfold B_X0_opens_0
  refine KM5_bc (m5_F_X9_is.tr km5_rf) (fun _ _ => ?_)
  refine KM5_if ?_ ?_
  · skip
    exact m5_B_X0_opens_20.tr km5_rf
  · skip
    refine KM5_if ?_ ?_
    · skip
      exact m5_B_X0_opens_27.tr km5_rf
    · skip
      exact m5_B_X0_opens_20.tr km5_rf
theorem m5_F_X0_opens {N : Nat} {l1 : Int32} {u : CSt}  : KM5 (F_X0_opens N l1 u) u := by
  unfold F_X0_opens
  exact m5_B_X0_opens_0.tr km5_rf
theorem m5_B_X0_closes_0 {N : Nat} {l1 : Int32} {u : CSt}  : KM5 (B_X0_closes_0 N l1 u) u := by
  unfold B_X0_closes_0
  refine KM5_bt (m5_F_X9_take.tr km5_rf) (fun _ _ => ?_)
  refine KM5_pc ?_
  exact KM5_some (f6_xI km5_rf)
theorem m5_F_X0_closes {N : Nat} {l1 : Int32} {u : CSt}  : KM5 (F_X0_closes N l1 u) u := by
  unfold F_X0_closes
  exact m5_B_X0_closes_0.tr km5_rf
theorem m5_B_X0_kind_17 {N : Nat} {u : CSt}  : KM5 (B_X0_kind_17 N u) u := by
  unfold B_X0_kind_17
  refine KM5_bc (m5_F_X9_next.tr km5_rf) (fun _ _ => ?_)
  exact KM5_some km5_rf
theorem m5_B_X0_kind_0 {N : Nat} {u : CSt}  : KM5 (B_X0_kind_0 N u) u := by
  unfold B_X0_kind_0
  refine KM5_bc (m5_F_X9_isKindWord.tr km5_rf) (fun _ _ => ?_)
  refine KM5_if ?_ ?_
  · skip
    refine KM5_bt (m5_F_X9_refuseToken.tr km5_rf) (fun _ _ => ?_)
    exact m5_B_X0_kind_17.tr km5_rf
  · skip
    exact m5_B_X0_kind_17.tr km5_rf
theorem m5_F_X0_kind {N : Nat} {u : CSt}  : KM5 (F_X0_kind N u) u := by
  unfold F_X0_kind
  exact m5_B_X0_kind_0.tr km5_rf
theorem m5_B_X0_constant_52 {N : Nat} {u : CSt}  : KM5 (B_X0_constant_52 N u) u := by
  unfold B_X0_constant_52
  refine KM5_bc (m5_F_X9_next.tr km5_rf) (fun _ _ => ?_)
  exact KM5_some km5_rf
theorem m5_B_X0_constant_19 {N : Nat} {u : CSt}  : KM5 (B_X0_constant_19 N u) u := by
  unfold B_X0_constant_19
  refine KM5_bc (m5_F_X9_is.tr km5_rf) (fun _ _ => ?_)
  refine KM5_if ?_ ?_
  · skip
    refine KM5_bc (m5_F_X9_is.tr km5_rf) (fun _ _ => ?_)
    refine KM5_if ?_ ?_
    · skip
      refine KM5_bt (m5_F_X9_refuseToken.tr km5_rf) (fun _ _ => ?_)
      exact m5_B_X0_constant_52.tr km5_rf
    · skip
      exact m5_B_X0_constant_52.tr km5_rf
  · skip
    exact m5_B_X0_constant_52.tr km5_rf
theorem m5_B_X0_constant_0 {N : Nat} {u : CSt}  : KM5 (B_X0_constant_0 N u) u := by
  unfold B_X0_constant_0
  refine KM5_bc (m5_F_X9_is.tr km5_rf) (fun _ _ => ?_)
  refine KM5_if ?_ ?_
  · skip
    exact m5_B_X0_constant_19.tr km5_rf
  · skip
    refine KM5_bc (m5_F_X9_next.tr km5_rf) (fun _ _ => ?_)
    exact m5_B_X0_constant_19.tr km5_rf
theorem m5_F_X0_constant {N : Nat} {u : CSt}  : KM5 (F_X0_constant N u) u := by
  unfold F_X0_constant
  exact m5_B_X0_constant_0.tr km5_rf
theorem m5_B_X0_oneVariable_44 {N : Nat} {u : CSt}  : KM5 (B_X0_oneVariable_44 N u) u := by
  unfold B_X0_oneVariable_44
  refine KM5_bc (m5_F_X9_is.tr km5_rf) (fun _ _ => ?_)
  refine KM5_if ?_ ?_
  · skip
    exact KM5_some km5_rf
  · skip
    refine KM5_bc (m5_F_X9_next.tr km5_rf) (fun _ _ => ?_)
    refine KM5_bt (m5_F_X0_constant.tr km5_rf) (fun _ _ => ?_)
    exact KM5_some km5_rf
theorem m5_B_X0_oneVariable_0 {N : Nat} {u : CSt}  : KM5 (B_X0_oneVariable_0 N u) u := by
  unfold B_X0_oneVariable_0
  refine KM5_bt (m5_F_X9_take.tr km5_rf) (fun _ _ => ?_)
  refine KM5_bc (m5_F_X9_is.tr km5_rf) (fun _ _ => ?_)
  refine KM5_if ?_ ?_
  · skip
    exact m5_B_X0_oneVariable_44.tr km5_rf
  · skip
    refine KM5_bt (m5_F_X0_opens.tr km5_rf) (fun _ _ => ?_)
    refine KM5_bt (m5_F_X9_take.tr km5_rf) (fun _ _ => ?_)
    refine KM5_bt (m5_F_X0_closes.tr km5_rf) (fun _ _ => ?_)
    exact m5_B_X0_oneVariable_44.tr km5_rf
theorem m5_F_X0_oneVariable {N : Nat} {u : CSt}  : KM5 (F_X0_oneVariable N u) u := by
  unfold F_X0_oneVariable
  exact m5_B_X0_oneVariable_0.tr km5_rf
theorem m5_B_X0_variables_53 {N : Nat} {u : CSt}  : KM5 (B_X0_variables_53 N u) u := by
  unfold B_X0_variables_53
  refine KM5_bt (m5_F_X9_take.tr km5_rf) (fun _ _ => ?_)
  exact KM5_some km5_rf
theorem m5_B_X0_variables_17 {N : Nat} {R_17 : Int32 × CSt → Option ((Sum Nat Int32) × CSt)} {l1 : Int32} {u : CSt} (h_R_17 : ∀ a, KM5 (R_17 a) a.2) : KM5 (B_X0_variables_17 N R_17 l1 u) u := by
  unfold B_X0_variables_17
  refine KM5_if ?_ ?_
  · skip
    exact m5_B_X0_variables_53.tr km5_rf
  · skip
    refine KM5_bc (m5_F_X9_is.tr km5_rf) (fun _ _ => ?_)
    refine KM5_if ?_ ?_
    · skip
      exact m5_B_X0_variables_53.tr km5_rf
    · skip
      refine KM5_bc (m5_F_X9_next.tr km5_rf) (fun _ _ => ?_)
      refine KM5_bt (m5_F_X0_oneVariable.tr km5_rf) (fun _ _ => ?_)
      exact (h_R_17 _).tr km5_rf
theorem m5_LP_X0_variables_17 {N : Nat}  (n : Nat) : ∀ a : Int32 × CSt, KM5 (LP_X0_variables_17 N n a) a.2 := by
  induction n with
  | zero => exact fun a r z e => by have e : (none : Option _) = some (r, z) := e; cases e
  | succ n ih =>
    intro a
    show KM5 (B_X0_variables_17 N (LP_X0_variables_17 N n) a.1 a.2) a.2
    exact m5_B_X0_variables_17 ih
theorem m5_B_X0_variables_0 {N : Nat} {u : CSt}  : KM5 (B_X0_variables_0 N u) u := by
  unfold B_X0_variables_0
  refine KM5_bc (m5_F_X9_next.tr km5_rf) (fun _ _ => ?_)
  refine KM5_bt (m5_F_X0_kind.tr km5_rf) (fun _ _ => ?_)
  refine KM5_bt (m5_F_X0_oneVariable.tr km5_rf) (fun _ _ => ?_)
  exact (m5_LP_X0_variables_17  _ _).tr km5_rf
theorem m5_F_X0_variables {N : Nat} {u : CSt}  : KM5 (F_X0_variables N u) u := by
  unfold F_X0_variables
  exact m5_B_X0_variables_0.tr km5_rf
theorem m5_B_X0_placed_0 {N : Nat} {u : CSt}  : KM5 (B_X0_placed_0 N u) u := by
  unfold B_X0_placed_0
  refine KM5_bc (m5_F_X9_next.tr km5_rf) (fun _ _ => ?_)
  refine KM5_bt (m5_F_X0_kind.tr km5_rf) (fun _ _ => ?_)
  refine KM5_bt (m5_F_X9_take.tr km5_rf) (fun _ _ => ?_)
  refine KM5_bt (m5_F_X9_take.tr km5_rf) (fun _ _ => ?_)
  refine KM5_bt (m5_F_X9_take.tr km5_rf) (fun _ _ => ?_)
  refine KM5_bt (m5_F_X9_take.tr km5_rf) (fun _ _ => ?_)
  exact KM5_some km5_rf
theorem m5_F_X0_placed {N : Nat} {u : CSt}  : KM5 (F_X0_placed N u) u := by
  unfold F_X0_placed
  exact m5_B_X0_placed_0.tr km5_rf
theorem m5_B_X0_uses_71 {N : Nat} {u : CSt}  : KM5 (B_X0_uses_71 N u) u := by
  unfold B_X0_uses_71
  refine KM5_bt (m5_F_X9_take.tr km5_rf) (fun _ _ => ?_)
  exact KM5_some km5_rf
theorem m5_B_X0_uses_29 {N : Nat} {R_29 : Int32 × CSt → Option ((Sum Nat Int32) × CSt)} {l1 : Int32} {u : CSt} (h_R_29 : ∀ a, KM5 (R_29 a) a.2) : KM5 (B_X0_uses_29 N R_29 l1 u) u := by
  unfold B_X0_uses_29
  refine KM5_if ?_ ?_
  · skip
    exact m5_B_X0_uses_71.tr km5_rf
  · skip
    refine KM5_bc (m5_F_X9_is.tr km5_rf) (fun _ _ => ?_)
    refine KM5_if ?_ ?_
    · skip
      exact m5_B_X0_uses_71.tr km5_rf
    · skip
      refine KM5_bc (m5_F_X9_next.tr km5_rf) (fun _ _ => ?_)
      refine KM5_bt (m5_F_X9_take.tr km5_rf) (fun _ _ => ?_)
      exact (h_R_29 _).tr km5_rf
theorem m5_LP_X0_uses_29 {N : Nat}  (n : Nat) : ∀ a : Int32 × CSt, KM5 (LP_X0_uses_29 N n a) a.2 := by
  induction n with
  | zero => exact fun a r z e => by have e : (none : Option _) = some (r, z) := e; cases e
  | succ n ih =>
    intro a
    show KM5 (B_X0_uses_29 N (LP_X0_uses_29 N n) a.1 a.2) a.2
    exact m5_B_X0_uses_29 ih
theorem m5_B_X0_uses_0 {N : Nat} {u : CSt}  : KM5 (B_X0_uses_0 N u) u := by
  unfold B_X0_uses_0
  refine KM5_bc (m5_F_X9_next.tr km5_rf) (fun _ _ => ?_)
  refine KM5_bt (m5_F_X9_take.tr km5_rf) (fun _ _ => ?_)
  refine KM5_bt (m5_F_X9_take.tr km5_rf) (fun _ _ => ?_)
  exact (m5_LP_X0_uses_29  _ _).tr km5_rf
theorem m5_F_X0_uses {N : Nat} {u : CSt}  : KM5 (F_X0_uses N u) u := by
  unfold F_X0_uses
  exact m5_B_X0_uses_0.tr km5_rf
theorem m5_B_X0_label_0 {N : Nat} {u : CSt}  : KM5 (B_X0_label_0 N u) u := by
  unfold B_X0_label_0
  refine KM5_bt (m5_F_X0_constant.tr km5_rf) (fun _ _ => ?_)
  refine KM5_bc (m5_F_X9_is.tr km5_rf) (fun _ _ => ?_)
  refine KM5_if ?_ ?_
  · skip
    exact KM5_some km5_rf
  · skip
    refine KM5_bc (m5_F_X9_next.tr km5_rf) (fun _ _ => ?_)
    refine KM5_bt (m5_F_X0_constant.tr km5_rf) (fun _ _ => ?_)
    exact KM5_some km5_rf
theorem m5_F_X0_label {N : Nat} {u : CSt}  : KM5 (F_X0_label N u) u := by
  unfold F_X0_label
  exact m5_B_X0_label_0.tr km5_rf
theorem m5_B_X0_bit_0 {N : Nat} {u : CSt}  : KM5 (B_X0_bit_0 N u) u := by
  unfold B_X0_bit_0
  refine KM5_bc (m5_F_X9_is.tr km5_rf) (fun _ _ => ?_)
  refine KM5_if ?_ ?_
  · skip
    exact KM5_some km5_rf
  · skip
    refine KM5_bc (m5_F_X9_next.tr km5_rf) (fun _ _ => ?_)
    refine KM5_bt (m5_F_X9_take.tr km5_rf) (fun _ _ => ?_)
    exact KM5_some km5_rf
theorem m5_F_X0_bit {N : Nat} {u : CSt}  : KM5 (F_X0_bit N u) u := by
  unfold F_X0_bit
  exact m5_B_X0_bit_0.tr km5_rf
theorem m5_B_X0_expression_43 {N : Nat} {ro : Nat → Nat → Int32 → Int32 → CSt → Option (Sum Nat Int32 × CSt)} {u : CSt} (h_ro : ∀ q z a b u, KM5 (ro q z a b u) u) : KM5 (B_X0_expression_43 N ro u) u := by
  unfold B_X0_expression_43
  refine KM5_bc (m5_F_X9_is.tr km5_rf) (fun _ _ => ?_)
  refine KM5_if ?_ ?_
  · skip
    exact KM5_some km5_rf
  · skip
    refine KM5_bt (m5_F_X0_opens.tr km5_rf) (fun _ _ => ?_)
    refine KM5_bt ((h_ro _ _ _ _ _).tr km5_rf) (fun _ _ => ?_)
    refine KM5_bt (m5_F_X9_take.tr km5_rf) (fun _ _ => ?_)
    refine KM5_bt ((h_ro _ _ _ _ _).tr km5_rf) (fun _ _ => ?_)
    refine KM5_pc ?_
    exact KM5_some (f6_xI km5_rf)
theorem m5_B_X0_expression_6 {N : Nat} {ro : Nat → Nat → Int32 → Int32 → CSt → Option (Sum Nat Int32 × CSt)} {R_6 : Int32 × CSt → Option ((Sum Nat Int32) × CSt)} {l1 : Int32} {u : CSt} (h_ro : ∀ q z a b u, KM5 (ro q z a b u) u) (h_R_6 : ∀ a, KM5 (R_6 a) a.2) : KM5 (B_X0_expression_6 N ro R_6 l1 u) u := by
  unfold B_X0_expression_6
  refine KM5_if ?_ ?_
  · skip
    exact (m5_B_X0_expression_43 h_ro).tr km5_rf
  · skip
    refine KM5_bc (m5_F_X9_type.tr km5_rf) (fun _ _ => ?_)
    refine KM5_pb (fun _ => ?_)
    refine KM5_if ?_ ?_
    · skip
      exact (m5_B_X0_expression_43 h_ro).tr km5_rf
    · skip
      refine KM5_bc (m5_F_X9_next.tr km5_rf) (fun _ _ => ?_)
      refine KM5_bt ((h_ro _ _ _ _ _).tr km5_rf) (fun _ _ => ?_)
      exact (h_R_6 _).tr km5_rf
theorem m5_LP_X0_expression_6 {N : Nat} {ro : Nat → Nat → Int32 → Int32 → CSt → Option (Sum Nat Int32 × CSt)} (h_ro : ∀ q z a b u, KM5 (ro q z a b u) u) (n : Nat) : ∀ a : Int32 × CSt, KM5 (LP_X0_expression_6 N ro n a) a.2 := by
  induction n with
  | zero => exact fun a r z e => by have e : (none : Option _) = some (r, z) := e; cases e
  | succ n ih =>
    intro a
    show KM5 (B_X0_expression_6 N ro (LP_X0_expression_6 N ro n) a.1 a.2) a.2
    exact m5_B_X0_expression_6 h_ro ih
theorem m5_B_X0_expression_0 {N : Nat} {ro : Nat → Nat → Int32 → Int32 → CSt → Option (Sum Nat Int32 × CSt)} {u : CSt} (h_ro : ∀ q z a b u, KM5 (ro q z a b u) u) : KM5 (B_X0_expression_0 N ro u) u := by
  unfold B_X0_expression_0
  refine KM5_bt ((h_ro _ _ _ _ _).tr km5_rf) (fun _ _ => ?_)
  exact (m5_LP_X0_expression_6 h_ro _ _).tr km5_rf
theorem m5_F_X0_expression {N : Nat} {ro : Nat → Nat → Int32 → Int32 → CSt → Option (Sum Nat Int32 × CSt)} {u : CSt} (h_ro : ∀ q z a b u, KM5 (ro q z a b u) u) : KM5 (F_X0_expression N ro u) u := by
  unfold F_X0_expression
  exact (m5_B_X0_expression_0 h_ro).tr km5_rf
theorem m5_B_X0_operand_0 {N : Nat} {ro : Nat → Nat → Int32 → Int32 → CSt → Option (Sum Nat Int32 × CSt)} {u : CSt} (h_ro : ∀ q z a b u, KM5 (ro q z a b u) u) : KM5 (B_X0_operand_0 N ro u) u := by
  unfold B_X0_operand_0
  refine KM5_bc (m5_F_X9_type.tr km5_rf) (fun _ _ => ?_)
  refine KM5_if ?_ ?_
  · skip
    refine KM5_bc (m5_F_X9_next.tr km5_rf) (fun _ _ => ?_)
    exact KM5_some km5_rf
  · skip
    refine KM5_if ?_ ?_
    · skip
      refine KM5_bc (m5_F_X9_type.tr km5_rf) (fun _ _ => ?_)
      refine KM5_bt (m5_F_X0_opens.tr km5_rf) (fun _ _ => ?_)
      refine KM5_bt ((h_ro _ _ _ _ _).tr km5_rf) (fun _ _ => ?_)
      refine KM5_pc ?_
      exact KM5_some (f6_xI km5_rf)
    · skip
      refine KM5_if ?_ ?_
      · skip
        refine KM5_bt ((h_ro _ _ _ _ _).tr km5_rf) (fun _ _ => ?_)
        exact KM5_some km5_rf
      · skip
        refine KM5_if ?_ ?_
        · skip
          refine KM5_bc (m5_F_X9_type.tr km5_rf) (fun _ _ => ?_)
          refine KM5_bt (m5_F_X0_opens.tr km5_rf) (fun _ _ => ?_)
          refine KM5_bt ((h_ro _ _ _ _ _).tr km5_rf) (fun _ _ => ?_)
          refine KM5_pc ?_
          exact KM5_some (f6_xI km5_rf)
        · skip
          refine KM5_if ?_ ?_
          · skip
            refine KM5_bc (m5_F_X9_type.tr km5_rf) (fun _ _ => ?_)
            refine KM5_bt (m5_F_X0_opens.tr km5_rf) (fun _ _ => ?_)
            refine KM5_bt ((h_ro _ _ _ _ _).tr km5_rf) (fun _ _ => ?_)
            refine KM5_pc ?_
            exact KM5_some (f6_xI km5_rf)
          · skip
            refine KM5_if ?_ ?_
            · skip
              refine KM5_bt ((h_ro _ _ _ _ _).tr km5_rf) (fun _ _ => ?_)
              exact KM5_some km5_rf
            · skip
              refine KM5_if ?_ ?_
              · skip
                refine KM5_bc (m5_F_X9_next.tr km5_rf) (fun _ _ => ?_)
                exact KM5_some km5_rf
              · skip
                refine KM5_if ?_ ?_
                · skip
                  refine KM5_bc (m5_F_X9_next.tr km5_rf) (fun _ _ => ?_)
                  exact KM5_some km5_rf
                · skip
                  refine KM5_bt (m5_F_X9_refuseToken.tr km5_rf) (fun _ _ => ?_)
                  exact KM5_some km5_rf
theorem m5_F_X0_operand {N : Nat} {ro : Nat → Nat → Int32 → Int32 → CSt → Option (Sum Nat Int32 × CSt)} {u : CSt} (h_ro : ∀ q z a b u, KM5 (ro q z a b u) u) : KM5 (F_X0_operand N ro u) u := by
  unfold F_X0_operand
  exact (m5_B_X0_operand_0 h_ro).tr km5_rf
theorem m5_B_X0_bracket_0 {N : Nat} {ro : Nat → Nat → Int32 → Int32 → CSt → Option (Sum Nat Int32 × CSt)} {u : CSt} (h_ro : ∀ q z a b u, KM5 (ro q z a b u) u) : KM5 (B_X0_bracket_0 N ro u) u := by
  unfold B_X0_bracket_0
  refine KM5_bt (m5_F_X0_opens.tr km5_rf) (fun _ _ => ?_)
  refine KM5_bc (m5_F_X9_isKindWord.tr km5_rf) (fun _ _ => ?_)
  refine KM5_if ?_ ?_
  · skip
    refine KM5_bt ((h_ro _ _ _ _ _).tr km5_rf) (fun _ _ => ?_)
    refine KM5_bt (m5_F_X0_closes.tr km5_rf) (fun _ _ => ?_)
    exact KM5_some km5_rf
  · skip
    refine KM5_bc (m5_F_X9_next.tr km5_rf) (fun _ _ => ?_)
    refine KM5_bt (m5_F_X9_take.tr km5_rf) (fun _ _ => ?_)
    refine KM5_bt ((h_ro _ _ _ _ _).tr km5_rf) (fun _ _ => ?_)
    refine KM5_pc ?_
    exact KM5_some (f6_xI km5_rf)
theorem m5_F_X0_bracket {N : Nat} {ro : Nat → Nat → Int32 → Int32 → CSt → Option (Sum Nat Int32 × CSt)} {u : CSt} (h_ro : ∀ q z a b u, KM5 (ro q z a b u) u) : KM5 (F_X0_bracket N ro u) u := by
  unfold F_X0_bracket
  exact (m5_B_X0_bracket_0 h_ro).tr km5_rf
theorem m5_B_X0_namedOperand_73 {N : Nat} {ro : Nat → Nat → Int32 → Int32 → CSt → Option (Sum Nat Int32 × CSt)} {u : CSt} (h_ro : ∀ q z a b u, KM5 (ro q z a b u) u) : KM5 (B_X0_namedOperand_73 N ro u) u := by
  unfold B_X0_namedOperand_73
  refine KM5_bt ((h_ro _ _ _ _ _).tr km5_rf) (fun _ _ => ?_)
  refine KM5_bt (m5_F_X0_bit.tr km5_rf) (fun _ _ => ?_)
  exact KM5_some km5_rf
theorem m5_B_X0_namedOperand_0 {N : Nat} {ro : Nat → Nat → Int32 → Int32 → CSt → Option (Sum Nat Int32 × CSt)} {u : CSt} (h_ro : ∀ q z a b u, KM5 (ro q z a b u) u) : KM5 (B_X0_namedOperand_0 N ro u) u := by
  unfold B_X0_namedOperand_0
  refine KM5_bc (m5_F_X9_next.tr km5_rf) (fun _ _ => ?_)
  refine KM5_bc (m5_F_X9_is.tr km5_rf) (fun _ _ => ?_)
  refine KM5_if ?_ ?_
  · skip
    refine KM5_bc (m5_F_X9_is.tr km5_rf) (fun _ _ => ?_)
    refine KM5_if ?_ ?_
    · skip
      exact (m5_B_X0_namedOperand_73 h_ro).tr km5_rf
    · skip
      refine KM5_bc (m5_F_X9_typeAhead.tr km5_rf) (fun _ _ => ?_)
      refine KM5_if ?_ ?_
      · skip
        refine KM5_bc (m5_F_X9_next.tr km5_rf) (fun _ _ => ?_)
        refine KM5_bc (m5_F_X9_next.tr km5_rf) (fun _ _ => ?_)
        refine KM5_bt ((h_ro _ _ _ _ _).tr km5_rf) (fun _ _ => ?_)
        exact KM5_some km5_rf
      · skip
        exact (m5_B_X0_namedOperand_73 h_ro).tr km5_rf
  · skip
    refine KM5_bt ((h_ro _ _ _ _ _).tr km5_rf) (fun _ _ => ?_)
    exact KM5_some km5_rf
theorem m5_F_X0_namedOperand {N : Nat} {ro : Nat → Nat → Int32 → Int32 → CSt → Option (Sum Nat Int32 × CSt)} {u : CSt} (h_ro : ∀ q z a b u, KM5 (ro q z a b u) u) : KM5 (F_X0_namedOperand N ro u) u := by
  unfold F_X0_namedOperand
  exact (m5_B_X0_namedOperand_0 h_ro).tr km5_rf
theorem m5_B_X0_arguments_60 {N : Nat} {ro : Nat → Nat → Int32 → Int32 → CSt → Option (Sum Nat Int32 × CSt)} {u : CSt} (h_ro : ∀ q z a b u, KM5 (ro q z a b u) u) : KM5 (B_X0_arguments_60 N ro u) u := by
  unfold B_X0_arguments_60
  refine KM5_bt (m5_F_X0_closes.tr km5_rf) (fun _ _ => ?_)
  exact KM5_some km5_rf
theorem m5_B_X0_arguments_24 {N : Nat} {ro : Nat → Nat → Int32 → Int32 → CSt → Option (Sum Nat Int32 × CSt)} {R_24 : Int32 × CSt → Option ((Sum Nat Int32) × CSt)} {l1 : Int32} {u : CSt} (h_ro : ∀ q z a b u, KM5 (ro q z a b u) u) (h_R_24 : ∀ a, KM5 (R_24 a) a.2) : KM5 (B_X0_arguments_24 N ro R_24 l1 u) u := by
  unfold B_X0_arguments_24
  refine KM5_if ?_ ?_
  · skip
    exact (m5_B_X0_arguments_60 h_ro).tr km5_rf
  · skip
    refine KM5_bc (m5_F_X9_is.tr km5_rf) (fun _ _ => ?_)
    refine KM5_if ?_ ?_
    · skip
      exact (m5_B_X0_arguments_60 h_ro).tr km5_rf
    · skip
      refine KM5_bc (m5_F_X9_next.tr km5_rf) (fun _ _ => ?_)
      refine KM5_bt ((h_ro _ _ _ _ _).tr km5_rf) (fun _ _ => ?_)
      exact (h_R_24 _).tr km5_rf
theorem m5_LP_X0_arguments_24 {N : Nat} {ro : Nat → Nat → Int32 → Int32 → CSt → Option (Sum Nat Int32 × CSt)} (h_ro : ∀ q z a b u, KM5 (ro q z a b u) u) (n : Nat) : ∀ a : Int32 × CSt, KM5 (LP_X0_arguments_24 N ro n a) a.2 := by
  induction n with
  | zero => exact fun a r z e => by have e : (none : Option _) = some (r, z) := e; cases e
  | succ n ih =>
    intro a
    show KM5 (B_X0_arguments_24 N ro (LP_X0_arguments_24 N ro n) a.1 a.2) a.2
    exact m5_B_X0_arguments_24 h_ro ih
theorem m5_B_X0_arguments_22 {N : Nat} {ro : Nat → Nat → Int32 → Int32 → CSt → Option (Sum Nat Int32 × CSt)} {u : CSt} (h_ro : ∀ q z a b u, KM5 (ro q z a b u) u) : KM5 (B_X0_arguments_22 N ro u) u := by
  unfold B_X0_arguments_22
  exact (m5_LP_X0_arguments_24 h_ro _ _).tr km5_rf
theorem m5_B_X0_arguments_0 {N : Nat} {ro : Nat → Nat → Int32 → Int32 → CSt → Option (Sum Nat Int32 × CSt)} {u : CSt} (h_ro : ∀ q z a b u, KM5 (ro q z a b u) u) : KM5 (B_X0_arguments_0 N ro u) u := by
  unfold B_X0_arguments_0
  refine KM5_bt (m5_F_X0_opens.tr km5_rf) (fun _ _ => ?_)
  refine KM5_bc (m5_F_X9_is.tr km5_rf) (fun _ _ => ?_)
  refine KM5_if ?_ ?_
  · skip
    refine KM5_bt ((h_ro _ _ _ _ _).tr km5_rf) (fun _ _ => ?_)
    exact (m5_B_X0_arguments_22 h_ro).tr km5_rf
  · skip
    exact (m5_B_X0_arguments_22 h_ro).tr km5_rf
theorem m5_F_X0_arguments {N : Nat} {ro : Nat → Nat → Int32 → Int32 → CSt → Option (Sum Nat Int32 × CSt)} {u : CSt} (h_ro : ∀ q z a b u, KM5 (ro q z a b u) u) : KM5 (F_X0_arguments N ro u) u := by
  unfold F_X0_arguments
  exact (m5_B_X0_arguments_0 h_ro).tr km5_rf
theorem m5_B_X0_index_0 {N : Nat} {ro : Nat → Nat → Int32 → Int32 → CSt → Option (Sum Nat Int32 × CSt)} {u : CSt} (h_ro : ∀ q z a b u, KM5 (ro q z a b u) u) : KM5 (B_X0_index_0 N ro u) u := by
  unfold B_X0_index_0
  refine KM5_bc (m5_F_X9_is.tr km5_rf) (fun _ _ => ?_)
  refine KM5_if ?_ ?_
  · skip
    exact KM5_some km5_rf
  · skip
    refine KM5_bt (m5_F_X0_opens.tr km5_rf) (fun _ _ => ?_)
    refine KM5_bt ((h_ro _ _ _ _ _).tr km5_rf) (fun _ _ => ?_)
    refine KM5_bt (m5_F_X0_closes.tr km5_rf) (fun _ _ => ?_)
    exact KM5_some km5_rf
theorem m5_F_X0_index {N : Nat} {ro : Nat → Nat → Int32 → Int32 → CSt → Option (Sum Nat Int32 × CSt)} {u : CSt} (h_ro : ∀ q z a b u, KM5 (ro q z a b u) u) : KM5 (F_X0_index N ro u) u := by
  unfold F_X0_index
  exact (m5_B_X0_index_0 h_ro).tr km5_rf
theorem m5_FGE_ {N : Nat} : ∀ (d q z : Nat) (a b : Int32) (u : CSt), KM5 (FGE_ N d q z a b u) u := by
  intro d
  induction d with
  | zero => exact fun q z a b u => KM5_none
  | succ d ih =>
    intro q z a b u
    show KM5 (if q = 0 then F_X0_expression N (FGE_ N d) u else if q = 1 then F_X0_operand N (FGE_ N d) u else if q = 2 then F_X0_bracket N (FGE_ N d) u else if q = 3 then F_X0_namedOperand N (FGE_ N d) u else if q = 4 then F_X0_arguments N (FGE_ N d) u else if q = 5 then F_X0_index N (FGE_ N d) u else none) u
    refine KM5_if (m5_F_X0_expression ih) ?_
    refine KM5_if (m5_F_X0_operand ih) ?_
    refine KM5_if (m5_F_X0_bracket ih) ?_
    refine KM5_if (m5_F_X0_namedOperand ih) ?_
    refine KM5_if (m5_F_X0_arguments ih) ?_
    refine KM5_if (m5_F_X0_index ih) ?_
    exact KM5_none
theorem m5_G_X0_expression {N : Nat} {u : CSt} : KM5 (G_X0_expression N u) u := m5_FGE_ _ _ _ _ _ _
theorem m5_G_X0_arguments {N : Nat} {u : CSt} : KM5 (G_X0_arguments N u) u := m5_FGE_ _ _ _ _ _ _
theorem m5_G_X0_index {N : Nat} {u : CSt} : KM5 (G_X0_index N u) u := m5_FGE_ _ _ _ _ _ _
theorem m5_B_X0_named_108 {N : Nat} {u : CSt}  : KM5 (B_X0_named_108 N u) u := by
  unfold B_X0_named_108
  refine KM5_bt (m5_F_X9_take.tr km5_rf) (fun _ _ => ?_)
  exact KM5_some km5_rf
theorem m5_B_X0_named_63 {N : Nat} {u : CSt}  : KM5 (B_X0_named_63 N u) u := by
  unfold B_X0_named_63
  refine KM5_bc (m5_F_X9_next.tr km5_rf) (fun _ _ => ?_)
  refine KM5_bt (m5_G_X0_expression.tr km5_rf) (fun _ _ => ?_)
  exact m5_B_X0_named_108.tr km5_rf
theorem m5_B_X0_named_91 {N : Nat} {u : CSt}  : KM5 (B_X0_named_91 N u) u := by
  unfold B_X0_named_91
  refine KM5_bc (m5_F_X9_next.tr km5_rf) (fun _ _ => ?_)
  exact m5_B_X0_named_108.tr km5_rf
theorem m5_B_X0_named_0 {N : Nat} {u : CSt}  : KM5 (B_X0_named_0 N u) u := by
  unfold B_X0_named_0
  refine KM5_bc (m5_F_X9_next.tr km5_rf) (fun _ _ => ?_)
  refine KM5_bc (m5_F_X9_is.tr km5_rf) (fun _ _ => ?_)
  refine KM5_if ?_ ?_
  · skip
    refine KM5_bt (m5_G_X0_index.tr km5_rf) (fun _ _ => ?_)
    refine KM5_bt (m5_F_X0_bit.tr km5_rf) (fun _ _ => ?_)
    refine KM5_bc (m5_F_X9_type.tr km5_rf) (fun _ _ => ?_)
    refine KM5_if ?_ ?_
    · skip
      exact m5_B_X0_named_63.tr km5_rf
    · skip
      refine KM5_pb (fun _ => ?_)
      refine KM5_if ?_ ?_
      · skip
        refine KM5_if ?_ ?_
        · skip
          exact m5_B_X0_named_91.tr km5_rf
        · skip
          refine KM5_if ?_ ?_
          · skip
            exact m5_B_X0_named_91.tr km5_rf
          · skip
            refine KM5_bt (m5_F_X9_refuseToken.tr km5_rf) (fun _ _ => ?_)
            exact m5_B_X0_named_108.tr km5_rf
      · skip
        exact m5_B_X0_named_63.tr km5_rf
  · skip
    refine KM5_bt (m5_G_X0_arguments.tr km5_rf) (fun _ _ => ?_)
    refine KM5_bt (m5_F_X9_take.tr km5_rf) (fun _ _ => ?_)
    exact KM5_some km5_rf
theorem m5_F_X0_named {N : Nat} {u : CSt}  : KM5 (F_X0_named N u) u := by
  unfold F_X0_named
  exact m5_B_X0_named_0.tr km5_rf
theorem m5_B_X0_returned_23 {N : Nat} {u : CSt}  : KM5 (B_X0_returned_23 N u) u := by
  unfold B_X0_returned_23
  refine KM5_bt (m5_F_X9_take.tr km5_rf) (fun _ _ => ?_)
  exact KM5_some km5_rf
theorem m5_B_X0_returned_0 {N : Nat} {u : CSt}  : KM5 (B_X0_returned_0 N u) u := by
  unfold B_X0_returned_0
  refine KM5_bc (m5_F_X9_next.tr km5_rf) (fun _ _ => ?_)
  refine KM5_bc (m5_F_X9_is.tr km5_rf) (fun _ _ => ?_)
  refine KM5_if ?_ ?_
  · skip
    refine KM5_bt (m5_G_X0_expression.tr km5_rf) (fun _ _ => ?_)
    exact m5_B_X0_returned_23.tr km5_rf
  · skip
    exact m5_B_X0_returned_23.tr km5_rf
theorem m5_F_X0_returned {N : Nat} {u : CSt}  : KM5 (F_X0_returned N u) u := by
  unfold F_X0_returned
  exact m5_B_X0_returned_0.tr km5_rf
theorem m5_B_X0_body_0 {N : Nat} {ro : Nat → Nat → Int32 → Int32 → CSt → Option (Sum Nat Int32 × CSt)} {u : CSt} (h_ro : ∀ q z a b u, KM5 (ro q z a b u) u) : KM5 (B_X0_body_0 N ro u) u := by
  unfold B_X0_body_0
  refine KM5_bt (m5_F_X0_opens.tr km5_rf) (fun _ _ => ?_)
  refine KM5_bt ((h_ro _ _ _ _ _).tr km5_rf) (fun _ _ => ?_)
  exact KM5_some km5_rf
theorem m5_F_X0_body {N : Nat} {ro : Nat → Nat → Int32 → Int32 → CSt → Option (Sum Nat Int32 × CSt)} {u : CSt} (h_ro : ∀ q z a b u, KM5 (ro q z a b u) u) : KM5 (F_X0_body N ro u) u := by
  unfold F_X0_body
  exact (m5_B_X0_body_0 h_ro).tr km5_rf
theorem m5_B_X0_statements_31 {N : Nat} {ro : Nat → Nat → Int32 → Int32 → CSt → Option (Sum Nat Int32 × CSt)} {u : CSt} (h_ro : ∀ q z a b u, KM5 (ro q z a b u) u) : KM5 (B_X0_statements_31 N ro u) u := by
  unfold B_X0_statements_31
  refine KM5_bt (m5_F_X0_closes.tr km5_rf) (fun _ _ => ?_)
  exact KM5_some km5_rf
theorem m5_B_X0_statements_2 {N : Nat} {ro : Nat → Nat → Int32 → Int32 → CSt → Option (Sum Nat Int32 × CSt)} {R_2 : Int32 × CSt → Option ((Sum Nat Int32) × CSt)} {l1 : Int32} {u : CSt} (h_ro : ∀ q z a b u, KM5 (ro q z a b u) u) (h_R_2 : ∀ a, KM5 (R_2 a) a.2) : KM5 (B_X0_statements_2 N ro R_2 l1 u) u := by
  unfold B_X0_statements_2
  refine KM5_if ?_ ?_
  · skip
    exact (m5_B_X0_statements_31 h_ro).tr km5_rf
  · skip
    refine KM5_bc (m5_F_X9_is.tr km5_rf) (fun _ _ => ?_)
    refine KM5_if ?_ ?_
    · skip
      refine KM5_bt ((h_ro _ _ _ _ _).tr km5_rf) (fun _ _ => ?_)
      exact (h_R_2 _).tr km5_rf
    · skip
      exact (m5_B_X0_statements_31 h_ro).tr km5_rf
theorem m5_LP_X0_statements_2 {N : Nat} {ro : Nat → Nat → Int32 → Int32 → CSt → Option (Sum Nat Int32 × CSt)} (h_ro : ∀ q z a b u, KM5 (ro q z a b u) u) (n : Nat) : ∀ a : Int32 × CSt, KM5 (LP_X0_statements_2 N ro n a) a.2 := by
  induction n with
  | zero => exact fun a r z e => by have e : (none : Option _) = some (r, z) := e; cases e
  | succ n ih =>
    intro a
    show KM5 (B_X0_statements_2 N ro (LP_X0_statements_2 N ro n) a.1 a.2) a.2
    exact m5_B_X0_statements_2 h_ro ih
theorem m5_B_X0_statements_0 {N : Nat} {ro : Nat → Nat → Int32 → Int32 → CSt → Option (Sum Nat Int32 × CSt)} {u : CSt} (h_ro : ∀ q z a b u, KM5 (ro q z a b u) u) : KM5 (B_X0_statements_0 N ro u) u := by
  unfold B_X0_statements_0
  exact (m5_LP_X0_statements_2 h_ro _ _).tr km5_rf
theorem m5_F_X0_statements {N : Nat} {ro : Nat → Nat → Int32 → Int32 → CSt → Option (Sum Nat Int32 × CSt)} {u : CSt} (h_ro : ∀ q z a b u, KM5 (ro q z a b u) u) : KM5 (F_X0_statements N ro u) u := by
  unfold F_X0_statements
  exact (m5_B_X0_statements_0 h_ro).tr km5_rf
theorem m5_B_X0_statement_0 {N : Nat} {ro : Nat → Nat → Int32 → Int32 → CSt → Option (Sum Nat Int32 × CSt)} {u : CSt} (h_ro : ∀ q z a b u, KM5 (ro q z a b u) u) : KM5 (B_X0_statement_0 N ro u) u := by
  unfold B_X0_statement_0
  refine KM5_bc (m5_F_X9_type.tr km5_rf) (fun _ _ => ?_)
  refine KM5_if ?_ ?_
  · skip
    refine KM5_bt ((h_ro _ _ _ _ _).tr km5_rf) (fun _ _ => ?_)
    exact KM5_some km5_rf
  · skip
    refine KM5_if ?_ ?_
    · skip
      refine KM5_bc (m5_F_X9_next.tr km5_rf) (fun _ _ => ?_)
      refine KM5_bt (m5_G_X0_expression.tr km5_rf) (fun _ _ => ?_)
      refine KM5_bt ((h_ro _ _ _ _ _).tr km5_rf) (fun _ _ => ?_)
      exact KM5_some km5_rf
    · skip
      refine KM5_if ?_ ?_
      · skip
        refine KM5_bt ((h_ro _ _ _ _ _).tr km5_rf) (fun _ _ => ?_)
        exact KM5_some km5_rf
      · skip
        refine KM5_if ?_ ?_
        · skip
          refine KM5_bt ((h_ro _ _ _ _ _).tr km5_rf) (fun _ _ => ?_)
          exact KM5_some km5_rf
        · skip
          refine KM5_if ?_ ?_
          · skip
            refine KM5_bc (m5_F_X9_next.tr km5_rf) (fun _ _ => ?_)
            refine KM5_bt (m5_F_X9_take.tr km5_rf) (fun _ _ => ?_)
            exact KM5_some km5_rf
          · skip
            refine KM5_if ?_ ?_
            · skip
              refine KM5_bc (m5_F_X9_next.tr km5_rf) (fun _ _ => ?_)
              refine KM5_bt (m5_F_X9_take.tr km5_rf) (fun _ _ => ?_)
              exact KM5_some km5_rf
            · skip
              refine KM5_if ?_ ?_
              · skip
                refine KM5_bt (m5_F_X0_returned.tr km5_rf) (fun _ _ => ?_)
                exact KM5_some km5_rf
              · skip
                refine KM5_if ?_ ?_
                · skip
                  refine KM5_bc (m5_F_X9_next.tr km5_rf) (fun _ _ => ?_)
                  refine KM5_bt (m5_G_X0_expression.tr km5_rf) (fun _ _ => ?_)
                  refine KM5_bt (m5_F_X9_take.tr km5_rf) (fun _ _ => ?_)
                  exact KM5_some km5_rf
                · skip
                  refine KM5_if ?_ ?_
                  · skip
                    refine KM5_bt (m5_F_X0_named.tr km5_rf) (fun _ _ => ?_)
                    exact KM5_some km5_rf
                  · skip
                    refine KM5_bt (m5_F_X9_refuseToken.tr km5_rf) (fun _ _ => ?_)
                    exact KM5_some km5_rf
theorem m5_F_X0_statement {N : Nat} {ro : Nat → Nat → Int32 → Int32 → CSt → Option (Sum Nat Int32 × CSt)} {u : CSt} (h_ro : ∀ q z a b u, KM5 (ro q z a b u) u) : KM5 (F_X0_statement N ro u) u := by
  unfold F_X0_statement
  exact (m5_B_X0_statement_0 h_ro).tr km5_rf
theorem m5_B_X0_choice_57 {N : Nat} {ro : Nat → Nat → Int32 → Int32 → CSt → Option (Sum Nat Int32 × CSt)} {u : CSt} (h_ro : ∀ q z a b u, KM5 (ro q z a b u) u) : KM5 (B_X0_choice_57 N ro u) u := by
  unfold B_X0_choice_57
  refine KM5_bc (m5_F_X9_is.tr km5_rf) (fun _ _ => ?_)
  refine KM5_if ?_ ?_
  · skip
    exact KM5_some km5_rf
  · skip
    refine KM5_bc (m5_F_X9_next.tr km5_rf) (fun _ _ => ?_)
    refine KM5_bt ((h_ro _ _ _ _ _).tr km5_rf) (fun _ _ => ?_)
    exact KM5_some km5_rf
theorem m5_B_X0_choice_17 {N : Nat} {ro : Nat → Nat → Int32 → Int32 → CSt → Option (Sum Nat Int32 × CSt)} {R_17 : Int32 × CSt → Option ((Sum Nat Int32) × CSt)} {l1 : Int32} {u : CSt} (h_ro : ∀ q z a b u, KM5 (ro q z a b u) u) (h_R_17 : ∀ a, KM5 (R_17 a) a.2) : KM5 (B_X0_choice_17 N ro R_17 l1 u) u := by
  unfold B_X0_choice_17
  refine KM5_if ?_ ?_
  · skip
    exact (m5_B_X0_choice_57 h_ro).tr km5_rf
  · skip
    refine KM5_bc (m5_F_X9_is.tr km5_rf) (fun _ _ => ?_)
    refine KM5_if ?_ ?_
    · skip
      exact (m5_B_X0_choice_57 h_ro).tr km5_rf
    · skip
      refine KM5_bc (m5_F_X9_next.tr km5_rf) (fun _ _ => ?_)
      refine KM5_bt (m5_G_X0_expression.tr km5_rf) (fun _ _ => ?_)
      refine KM5_bt ((h_ro _ _ _ _ _).tr km5_rf) (fun _ _ => ?_)
      exact (h_R_17 _).tr km5_rf
theorem m5_LP_X0_choice_17 {N : Nat} {ro : Nat → Nat → Int32 → Int32 → CSt → Option (Sum Nat Int32 × CSt)} (h_ro : ∀ q z a b u, KM5 (ro q z a b u) u) (n : Nat) : ∀ a : Int32 × CSt, KM5 (LP_X0_choice_17 N ro n a) a.2 := by
  induction n with
  | zero => exact fun a r z e => by have e : (none : Option _) = some (r, z) := e; cases e
  | succ n ih =>
    intro a
    show KM5 (B_X0_choice_17 N ro (LP_X0_choice_17 N ro n) a.1 a.2) a.2
    exact m5_B_X0_choice_17 h_ro ih
theorem m5_B_X0_choice_0 {N : Nat} {ro : Nat → Nat → Int32 → Int32 → CSt → Option (Sum Nat Int32 × CSt)} {u : CSt} (h_ro : ∀ q z a b u, KM5 (ro q z a b u) u) : KM5 (B_X0_choice_0 N ro u) u := by
  unfold B_X0_choice_0
  refine KM5_bc (m5_F_X9_next.tr km5_rf) (fun _ _ => ?_)
  refine KM5_bt (m5_G_X0_expression.tr km5_rf) (fun _ _ => ?_)
  refine KM5_bt ((h_ro _ _ _ _ _).tr km5_rf) (fun _ _ => ?_)
  exact (m5_LP_X0_choice_17 h_ro _ _).tr km5_rf
theorem m5_F_X0_choice {N : Nat} {ro : Nat → Nat → Int32 → Int32 → CSt → Option (Sum Nat Int32 × CSt)} {u : CSt} (h_ro : ∀ q z a b u, KM5 (ro q z a b u) u) : KM5 (F_X0_choice N ro u) u := by
  unfold F_X0_choice
  exact (m5_B_X0_choice_0 h_ro).tr km5_rf
theorem m5_B_X0_counted_0 {N : Nat} {ro : Nat → Nat → Int32 → Int32 → CSt → Option (Sum Nat Int32 × CSt)} {u : CSt} (h_ro : ∀ q z a b u, KM5 (ro q z a b u) u) : KM5 (B_X0_counted_0 N ro u) u := by
  unfold B_X0_counted_0
  refine KM5_bc (m5_F_X9_next.tr km5_rf) (fun _ _ => ?_)
  refine KM5_bt (m5_F_X9_take.tr km5_rf) (fun _ _ => ?_)
  refine KM5_bt (m5_F_X9_take.tr km5_rf) (fun _ _ => ?_)
  refine KM5_bt (m5_G_X0_expression.tr km5_rf) (fun _ _ => ?_)
  refine KM5_bt (m5_F_X9_take.tr km5_rf) (fun _ _ => ?_)
  refine KM5_bt (m5_G_X0_expression.tr km5_rf) (fun _ _ => ?_)
  refine KM5_bt ((h_ro _ _ _ _ _).tr km5_rf) (fun _ _ => ?_)
  exact KM5_some km5_rf
theorem m5_F_X0_counted {N : Nat} {ro : Nat → Nat → Int32 → Int32 → CSt → Option (Sum Nat Int32 × CSt)} {u : CSt} (h_ro : ∀ q z a b u, KM5 (ro q z a b u) u) : KM5 (F_X0_counted N ro u) u := by
  unfold F_X0_counted
  exact (m5_B_X0_counted_0 h_ro).tr km5_rf
theorem m5_B_X0_cases_87 {N : Nat} {ro : Nat → Nat → Int32 → Int32 → CSt → Option (Sum Nat Int32 × CSt)} {R_19 : Int32 × CSt → Option ((Sum Nat Int32) × CSt)} {l1 : Int32} {u : CSt} (h_ro : ∀ q z a b u, KM5 (ro q z a b u) u) (h_R_19 : ∀ a, KM5 (R_19 a) a.2) : KM5 (B_X0_cases_87 N ro R_19 l1 u) u := by
  unfold B_X0_cases_87
  refine KM5_bt ((h_ro _ _ _ _ _).tr km5_rf) (fun _ _ => ?_)
  exact (h_R_19 _).tr km5_rf
theorem m5_B_X0_cases_51 {N : Nat} {ro : Nat → Nat → Int32 → Int32 → CSt → Option (Sum Nat Int32 × CSt)} {R_19 : Int32 × CSt → Option ((Sum Nat Int32) × CSt)} {R_51 : Int32 × Int32 × CSt → Option ((Sum Nat Int32) × CSt)} {l1 : Int32} {l2 : Int32} {u : CSt} (h_ro : ∀ q z a b u, KM5 (ro q z a b u) u) (h_R_19 : ∀ a, KM5 (R_19 a) a.2) (h_R_51 : ∀ a, KM5 (R_51 a) a.2.2) : KM5 (B_X0_cases_51 N ro R_19 R_51 l1 l2 u) u := by
  unfold B_X0_cases_51
  refine KM5_if ?_ ?_
  · skip
    exact (m5_B_X0_cases_87 h_ro h_R_19).tr km5_rf
  · skip
    refine KM5_bc (m5_F_X9_is.tr km5_rf) (fun _ _ => ?_)
    refine KM5_if ?_ ?_
    · skip
      exact (m5_B_X0_cases_87 h_ro h_R_19).tr km5_rf
    · skip
      refine KM5_bc (m5_F_X9_next.tr km5_rf) (fun _ _ => ?_)
      refine KM5_bt (m5_F_X0_label.tr km5_rf) (fun _ _ => ?_)
      exact (h_R_51 _).tr km5_rf
theorem m5_LP_X0_cases_51 {N : Nat} {ro : Nat → Nat → Int32 → Int32 → CSt → Option (Sum Nat Int32 × CSt)} {R_19 : Int32 × CSt → Option ((Sum Nat Int32) × CSt)} (h_ro : ∀ q z a b u, KM5 (ro q z a b u) u) (h_R_19 : ∀ a, KM5 (R_19 a) a.2) (n : Nat) : ∀ a : Int32 × Int32 × CSt, KM5 (LP_X0_cases_51 N ro R_19 n a) a.2.2 := by
  induction n with
  | zero => exact fun a r z e => by have e : (none : Option _) = some (r, z) := e; cases e
  | succ n ih =>
    intro a
    show KM5 (B_X0_cases_51 N ro R_19 (LP_X0_cases_51 N ro R_19 n) a.1 a.2.1 a.2.2) a.2.2
    exact m5_B_X0_cases_51 h_ro h_R_19 ih
theorem m5_B_X0_cases_120 {N : Nat} {ro : Nat → Nat → Int32 → Int32 → CSt → Option (Sum Nat Int32 × CSt)} {u : CSt} (h_ro : ∀ q z a b u, KM5 (ro q z a b u) u) : KM5 (B_X0_cases_120 N ro u) u := by
  unfold B_X0_cases_120
  refine KM5_bt (m5_F_X0_closes.tr km5_rf) (fun _ _ => ?_)
  exact KM5_some km5_rf
theorem m5_B_X0_cases_97 {N : Nat} {ro : Nat → Nat → Int32 → Int32 → CSt → Option (Sum Nat Int32 × CSt)} {u : CSt} (h_ro : ∀ q z a b u, KM5 (ro q z a b u) u) : KM5 (B_X0_cases_97 N ro u) u := by
  unfold B_X0_cases_97
  refine KM5_bc (m5_F_X9_is.tr km5_rf) (fun _ _ => ?_)
  refine KM5_if ?_ ?_
  · skip
    exact (m5_B_X0_cases_120 h_ro).tr km5_rf
  · skip
    refine KM5_bc (m5_F_X9_next.tr km5_rf) (fun _ _ => ?_)
    refine KM5_bt ((h_ro _ _ _ _ _).tr km5_rf) (fun _ _ => ?_)
    exact (m5_B_X0_cases_120 h_ro).tr km5_rf
theorem m5_B_X0_cases_19 {N : Nat} {ro : Nat → Nat → Int32 → Int32 → CSt → Option (Sum Nat Int32 × CSt)} {R_19 : Int32 × CSt → Option ((Sum Nat Int32) × CSt)} {l1 : Int32} {u : CSt} (h_ro : ∀ q z a b u, KM5 (ro q z a b u) u) (h_R_19 : ∀ a, KM5 (R_19 a) a.2) : KM5 (B_X0_cases_19 N ro R_19 l1 u) u := by
  unfold B_X0_cases_19
  refine KM5_if ?_ ?_
  · skip
    exact (m5_B_X0_cases_97 h_ro).tr km5_rf
  · skip
    refine KM5_bc (m5_F_X9_is.tr km5_rf) (fun _ _ => ?_)
    refine KM5_if ?_ ?_
    · skip
      exact (m5_B_X0_cases_97 h_ro).tr km5_rf
    · skip
      refine KM5_bc (m5_F_X9_next.tr km5_rf) (fun _ _ => ?_)
      refine KM5_bt (m5_F_X0_label.tr km5_rf) (fun _ _ => ?_)
      exact (m5_LP_X0_cases_51 h_ro h_R_19 _ _).tr km5_rf
theorem m5_LP_X0_cases_19 {N : Nat} {ro : Nat → Nat → Int32 → Int32 → CSt → Option (Sum Nat Int32 × CSt)} (h_ro : ∀ q z a b u, KM5 (ro q z a b u) u) (n : Nat) : ∀ a : Int32 × CSt, KM5 (LP_X0_cases_19 N ro n a) a.2 := by
  induction n with
  | zero => exact fun a r z e => by have e : (none : Option _) = some (r, z) := e; cases e
  | succ n ih =>
    intro a
    show KM5 (B_X0_cases_19 N ro (LP_X0_cases_19 N ro n) a.1 a.2) a.2
    exact m5_B_X0_cases_19 h_ro ih
theorem m5_B_X0_cases_0 {N : Nat} {ro : Nat → Nat → Int32 → Int32 → CSt → Option (Sum Nat Int32 × CSt)} {u : CSt} (h_ro : ∀ q z a b u, KM5 (ro q z a b u) u) : KM5 (B_X0_cases_0 N ro u) u := by
  unfold B_X0_cases_0
  refine KM5_bc (m5_F_X9_next.tr km5_rf) (fun _ _ => ?_)
  refine KM5_bt (m5_G_X0_expression.tr km5_rf) (fun _ _ => ?_)
  refine KM5_bt (m5_F_X0_opens.tr km5_rf) (fun _ _ => ?_)
  exact (m5_LP_X0_cases_19 h_ro _ _).tr km5_rf
theorem m5_F_X0_cases {N : Nat} {ro : Nat → Nat → Int32 → Int32 → CSt → Option (Sum Nat Int32 × CSt)} {u : CSt} (h_ro : ∀ q z a b u, KM5 (ro q z a b u) u) : KM5 (F_X0_cases N ro u) u := by
  unfold F_X0_cases
  exact (m5_B_X0_cases_0 h_ro).tr km5_rf
theorem m5_FGS_ {N : Nat} : ∀ (d q z : Nat) (a b : Int32) (u : CSt), KM5 (FGS_ N d q z a b u) u := by
  intro d
  induction d with
  | zero => exact fun q z a b u => KM5_none
  | succ d ih =>
    intro q z a b u
    show KM5 (if q = 0 then F_X0_body N (FGS_ N d) u else if q = 1 then F_X0_statements N (FGS_ N d) u else if q = 2 then F_X0_statement N (FGS_ N d) u else if q = 3 then F_X0_choice N (FGS_ N d) u else if q = 4 then F_X0_counted N (FGS_ N d) u else if q = 5 then F_X0_cases N (FGS_ N d) u else none) u
    refine KM5_if (m5_F_X0_body ih) ?_
    refine KM5_if (m5_F_X0_statements ih) ?_
    refine KM5_if (m5_F_X0_statement ih) ?_
    refine KM5_if (m5_F_X0_choice ih) ?_
    refine KM5_if (m5_F_X0_counted ih) ?_
    refine KM5_if (m5_F_X0_cases ih) ?_
    exact KM5_none
theorem m5_G_X0_body {N : Nat} {u : CSt} : KM5 (G_X0_body N u) u := m5_FGS_ _ _ _ _ _ _
theorem m5_G_X0_statements {N : Nat} {u : CSt} : KM5 (G_X0_statements N u) u := m5_FGS_ _ _ _ _ _ _
theorem m5_B_X0_routine_132 {N : Nat} {u : CSt}  : KM5 (B_X0_routine_132 N u) u := by
  unfold B_X0_routine_132
  refine KM5_bt (m5_G_X0_statements.tr km5_rf) (fun _ _ => ?_)
  exact KM5_some km5_rf
theorem m5_B_X0_routine_104 {N : Nat} {R_104 : Int32 × CSt → Option ((Sum Nat Int32) × CSt)} {l1 : Int32} {u : CSt} (h_R_104 : ∀ a, KM5 (R_104 a) a.2) : KM5 (B_X0_routine_104 N R_104 l1 u) u := by
  unfold B_X0_routine_104
  refine KM5_if ?_ ?_
  · skip
    exact m5_B_X0_routine_132.tr km5_rf
  · skip
    refine KM5_bc (m5_F_X9_is.tr km5_rf) (fun _ _ => ?_)
    refine KM5_if ?_ ?_
    · skip
      exact m5_B_X0_routine_132.tr km5_rf
    · skip
      refine KM5_bt (m5_F_X0_variables.tr km5_rf) (fun _ _ => ?_)
      exact (h_R_104 _).tr km5_rf
theorem m5_LP_X0_routine_104 {N : Nat}  (n : Nat) : ∀ a : Int32 × CSt, KM5 (LP_X0_routine_104 N n a) a.2 := by
  induction n with
  | zero => exact fun a r z e => by have e : (none : Option _) = some (r, z) := e; cases e
  | succ n ih =>
    intro a
    show KM5 (B_X0_routine_104 N (LP_X0_routine_104 N n) a.1 a.2) a.2
    exact m5_B_X0_routine_104 ih
theorem m5_B_X0_routine_90 {N : Nat} {u : CSt}  : KM5 (B_X0_routine_90 N u) u := by
  unfold B_X0_routine_90
  refine KM5_bt (m5_F_X0_closes.tr km5_rf) (fun _ _ => ?_)
  refine KM5_bt (m5_F_X0_opens.tr km5_rf) (fun _ _ => ?_)
  exact (m5_LP_X0_routine_104  _ _).tr km5_rf
theorem m5_B_X0_routine_44 {N : Nat} {R_44 : Int32 × CSt → Option ((Sum Nat Int32) × CSt)} {l1 : Int32} {u : CSt} (h_R_44 : ∀ a, KM5 (R_44 a) a.2) : KM5 (B_X0_routine_44 N R_44 l1 u) u := by
  unfold B_X0_routine_44
  refine KM5_if ?_ ?_
  · skip
    exact m5_B_X0_routine_90.tr km5_rf
  · skip
    refine KM5_bc (m5_F_X9_is.tr km5_rf) (fun _ _ => ?_)
    refine KM5_if ?_ ?_
    · skip
      exact m5_B_X0_routine_90.tr km5_rf
    · skip
      refine KM5_bc (m5_F_X9_next.tr km5_rf) (fun _ _ => ?_)
      refine KM5_bt (m5_F_X0_kind.tr km5_rf) (fun _ _ => ?_)
      refine KM5_bt (m5_F_X9_take.tr km5_rf) (fun _ _ => ?_)
      exact (h_R_44 _).tr km5_rf
theorem m5_LP_X0_routine_44 {N : Nat}  (n : Nat) : ∀ a : Int32 × CSt, KM5 (LP_X0_routine_44 N n a) a.2 := by
  induction n with
  | zero => exact fun a r z e => by have e : (none : Option _) = some (r, z) := e; cases e
  | succ n ih =>
    intro a
    show KM5 (B_X0_routine_44 N (LP_X0_routine_44 N n) a.1 a.2) a.2
    exact m5_B_X0_routine_44 ih
theorem m5_B_X0_routine_42 {N : Nat} {u : CSt}  : KM5 (B_X0_routine_42 N u) u := by
  unfold B_X0_routine_42
  exact (m5_LP_X0_routine_44  _ _).tr km5_rf
theorem m5_B_X0_routine_0 {N : Nat} {u : CSt}  : KM5 (B_X0_routine_0 N u) u := by
  unfold B_X0_routine_0
  refine KM5_bt (m5_F_X9_take.tr km5_rf) (fun _ _ => ?_)
  refine KM5_bt (m5_F_X0_opens.tr km5_rf) (fun _ _ => ?_)
  refine KM5_bc (m5_F_X9_is.tr km5_rf) (fun _ _ => ?_)
  refine KM5_if ?_ ?_
  · skip
    refine KM5_bt (m5_F_X0_kind.tr km5_rf) (fun _ _ => ?_)
    refine KM5_bt (m5_F_X9_take.tr km5_rf) (fun _ _ => ?_)
    exact m5_B_X0_routine_42.tr km5_rf
  · skip
    exact m5_B_X0_routine_42.tr km5_rf
theorem m5_F_X0_routine {N : Nat} {u : CSt}  : KM5 (F_X0_routine N u) u := by
  unfold F_X0_routine
  exact m5_B_X0_routine_0.tr km5_rf
theorem m5_B_X0_cyclic_65 {N : Nat} {u : CSt}  : KM5 (B_X0_cyclic_65 N u) u := by
  unfold B_X0_cyclic_65
  refine KM5_bt (m5_G_X0_body.tr km5_rf) (fun _ _ => ?_)
  exact KM5_some km5_rf
theorem m5_B_X0_cyclic_0 {N : Nat} {u : CSt}  : KM5 (B_X0_cyclic_0 N u) u := by
  unfold B_X0_cyclic_0
  refine KM5_bc (m5_F_X9_next.tr km5_rf) (fun _ _ => ?_)
  refine KM5_bt (m5_F_X9_take.tr km5_rf) (fun _ _ => ?_)
  refine KM5_bt (m5_F_X9_take.tr km5_rf) (fun _ _ => ?_)
  refine KM5_bt (m5_F_X9_take.tr km5_rf) (fun _ _ => ?_)
  refine KM5_bc (m5_F_X9_is.tr km5_rf) (fun _ _ => ?_)
  refine KM5_if ?_ ?_
  · skip
    exact m5_B_X0_cyclic_65.tr km5_rf
  · skip
    refine KM5_bc (m5_F_X9_next.tr km5_rf) (fun _ _ => ?_)
    refine KM5_bt (m5_F_X9_take.tr km5_rf) (fun _ _ => ?_)
    exact m5_B_X0_cyclic_65.tr km5_rf
theorem m5_F_X0_cyclic {N : Nat} {u : CSt}  : KM5 (F_X0_cyclic N u) u := by
  unfold F_X0_cyclic
  exact m5_B_X0_cyclic_0.tr km5_rf
theorem m5_B_X0_check_155 {N : Nat} {R_14 : Int32 × CSt → Option ((Sum Nat Int32) × CSt)} {l1 : Int32} {u : CSt} (h_R_14 : ∀ a, KM5 (R_14 a) a.2) : KM5 (B_X0_check_155 N R_14 l1 u) u := by
  unfold B_X0_check_155
  exact (h_R_14 _).tr km5_rf
theorem m5_B_X0_check_14 {N : Nat} {R_14 : Int32 × CSt → Option ((Sum Nat Int32) × CSt)} {l1 : Int32} {u : CSt} (h_R_14 : ∀ a, KM5 (R_14 a) a.2) : KM5 (B_X0_check_14 N R_14 l1 u) u := by
  unfold B_X0_check_14
  refine KM5_if ?_ ?_
  · skip
    exact KM5_some km5_rf
  · skip
    refine KM5_bc (m5_F_X9_is.tr km5_rf) (fun _ _ => ?_)
    refine KM5_if ?_ ?_
    · skip
      refine KM5_bc (m5_F_X9_type.tr km5_rf) (fun _ _ => ?_)
      refine KM5_if ?_ ?_
      · skip
        refine KM5_bt (m5_F_X0_variables.tr km5_rf) (fun _ _ => ?_)
        exact (m5_B_X0_check_155 h_R_14).tr km5_rf
      · skip
        refine KM5_if ?_ ?_
        · skip
          refine KM5_bt (m5_F_X0_variables.tr km5_rf) (fun _ _ => ?_)
          exact (m5_B_X0_check_155 h_R_14).tr km5_rf
        · skip
          refine KM5_if ?_ ?_
          · skip
            refine KM5_bt (m5_F_X0_placed.tr km5_rf) (fun _ _ => ?_)
            exact (m5_B_X0_check_155 h_R_14).tr km5_rf
          · skip
            refine KM5_if ?_ ?_
            · skip
              refine KM5_bt (m5_F_X0_placed.tr km5_rf) (fun _ _ => ?_)
              exact (m5_B_X0_check_155 h_R_14).tr km5_rf
            · skip
              refine KM5_if ?_ ?_
              · skip
                refine KM5_bc (m5_F_X9_next.tr km5_rf) (fun _ _ => ?_)
                refine KM5_bt (m5_F_X0_routine.tr km5_rf) (fun _ _ => ?_)
                exact (m5_B_X0_check_155 h_R_14).tr km5_rf
              · skip
                refine KM5_if ?_ ?_
                · skip
                  refine KM5_bt (m5_F_X0_uses.tr km5_rf) (fun _ _ => ?_)
                  exact (m5_B_X0_check_155 h_R_14).tr km5_rf
                · skip
                  refine KM5_if ?_ ?_
                  · skip
                    refine KM5_bc (m5_F_X9_next.tr km5_rf) (fun _ _ => ?_)
                    refine KM5_bt (m5_F_X0_kind.tr km5_rf) (fun _ _ => ?_)
                    refine KM5_bt (m5_F_X0_routine.tr km5_rf) (fun _ _ => ?_)
                    exact (m5_B_X0_check_155 h_R_14).tr km5_rf
                  · skip
                    refine KM5_if ?_ ?_
                    · skip
                      refine KM5_bt (m5_F_X0_cyclic.tr km5_rf) (fun _ _ => ?_)
                      exact (m5_B_X0_check_155 h_R_14).tr km5_rf
                    · skip
                      refine KM5_bt (m5_F_X9_refuseToken.tr km5_rf) (fun _ _ => ?_)
                      exact (m5_B_X0_check_155 h_R_14).tr km5_rf
    · skip
      exact KM5_some km5_rf
theorem m5_LP_X0_check_14 {N : Nat}  (n : Nat) : ∀ a : Int32 × CSt, KM5 (LP_X0_check_14 N n a) a.2 := by
  induction n with
  | zero => exact fun a r z e => by have e : (none : Option _) = some (r, z) := e; cases e
  | succ n ih =>
    intro a
    show KM5 (B_X0_check_14 N (LP_X0_check_14 N n) a.1 a.2) a.2
    exact m5_B_X0_check_14 ih
theorem m5_B_X0_check_0 {N : Nat} {u : CSt}  : KM5 (B_X0_check_0 N u) u := by
  unfold B_X0_check_0
  refine KM5_pc ?_
  refine KM5_bc (m5_F_X9_rewind.tr (f6_xI km5_rf)) (fun _ _ => ?_)
  exact (m5_LP_X0_check_14  _ _).tr km5_rf
theorem m5_F_X0_check {N : Nat} {u : CSt}  : KM5 (F_X0_check N u) u := by
  unfold F_X0_check
  exact m5_B_X0_check_0.tr km5_rf
