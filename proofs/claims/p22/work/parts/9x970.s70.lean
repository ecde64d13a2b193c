/-! Making a program leaves the names from 160 on as they are. -/
def n8s (u w : CSt) : Prop := ∀ m k, 160 ≤ m % 169 → mI w m k = mI u m k ∧ mL w m k = mL u m k
def kn (u w : CSt) : Prop := n8s u w ∧ cR w 2 = cR u 2 ∧ (∀ p, pI w p 15 = pI u p 15) ∧ (∀ p, (pI u p 12).toInt ≤ (pI w p 12).toInt)
def KN {β : Type} (x : Option (β × CSt)) (u : CSt) : Prop := ∀ r w, x = some (r, w) → kn u w
section KNs
variable {α β γ : Type} {u v w : CSt}
theorem n8s_tr (h : n8s u v) (h2 : n8s v w) : n8s u w := fun m k hm => ⟨(h2 m k hm).1.trans (h m k hm).1, (h2 m k hm).2.trans (h m k hm).2⟩
theorem kn_rf : kn u u := ⟨fun _ _ _ => ⟨rfl, rfl⟩, rfl, fun _ => rfl, fun _ => Int.le_refl _⟩
theorem kn_tr (h : kn u v) (h2 : kn v w) : kn u w := ⟨n8s_tr h.1 h2.1, h2.2.1.trans h.2.1, fun p => (h2.2.2.1 p).trans (h.2.2.1 p), fun p => Int.le_trans (h.2.2.2 p) (h2.2.2.2 p)⟩
theorem KN.tr {x : Option (β × CSt)} (hx : KN x w) (h : kn u w) : KN x u := fun r z e => kn_tr h (hx r z e)
theorem KN.p {x : Option (β × CSt)} (hx : KN x u) : pq x (fun _ w => kn u w) := hx
theorem fn_xI {k : Nat} {a : Int32} (h : kn u w) : kn u (xI w k a) := h
theorem fn_xL {k : Nat} {a : Int64} (h : kn u w) : kn u (xL w k a) := h
theorem fn_xA {k i : Nat} {a : Int32} (h : kn u w) : kn u (xA w k i a) := h
theorem fn_xF {k : Nat} {g : Nat → Int32} (h : kn u w) : kn u (xF w k g) := h
theorem fn_xB {k i : Nat} {a : Int64} (h : kn u w) : kn u (xB w k i a) := h
theorem fn_xG {k : Nat} {g : Nat → Int64} (h : kn u w) : kn u (xG w k g) := h
theorem fn_xpI {q k : Nat} {a : Int32} (hk : k ≠ 12 ∧ k ≠ 15) (h : kn u w) : kn u (xpI w q k a) := by
  have e : ∀ j, j ≠ k → ∀ p, pI (xpI w q k a) p j = pI w p j := by
    intro j hj p
    show (if p = q then (if j = k then a else pI w p j) else pI w p j) = _
    by_cases z : p = q
    · rw [if_pos z, if_neg hj]
    · rw [if_neg z]
  refine kn_tr h ⟨fun _ _ _ => ⟨rfl, rfl⟩, rfl, e 15 (fun z => hk.2 z.symm), fun p => ?_⟩
  rw [e 12 (fun z => hk.1 z.symm)]
  exact Int.le_refl _
theorem fn_xpA {q k i : Nat} {a : Int32} (h : kn u w) : kn u (xpA w q k i a) := h
theorem fn_xpF {q k : Nat} {g : Nat → Int32} (h : kn u w) : kn u (xpF w q k g) := h
theorem fn_xpB {q k i : Nat} {a : Int64} (h : kn u w) : kn u (xpB w q k i a) := h
theorem fn_xtI {q k : Nat} {a : Int32} (h : kn u w) : kn u (xtI w q k a) := h
theorem fn_xmI {m k : Nat} {a : Int32} (hm : m % 169 < 160) (h : kn u w) : kn u (xmI w m k a) := by
  refine kn_tr h ⟨fun p j hp => ⟨?_, rfl⟩, rfl, fun _ => rfl, fun _ => Int.le_refl _⟩
  show (if p = m then (if j = k then a else mI w p j) else mI w p j) = _
  rw [if_neg (fun z => by rw [z] at hp; omega)]
theorem fn_xmL {m k : Nat} {a : Int64} (hm : m % 169 < 160) (h : kn u w) : kn u (xmL w m k a) := by
  refine kn_tr h ⟨fun p j hp => ⟨rfl, ?_⟩, rfl, fun _ => rfl, fun _ => Int.le_refl _⟩
  show (if p = m then (if j = k then a else mL w p j) else mL w p j) = _
  rw [if_neg (fun z => by rw [z] at hp; omega)]
theorem KN_some {r : β} (h : kn u w) : KN (some (r, w)) u := fun _ _ e => by cases e; exact h
theorem KN_none : KN (none : Option (β × CSt)) u := fun _ _ e => nomatch e
theorem KN_rd {f : Nat → α} {n : Nat} {i : Int32} {k : α → Option (β × CSt)} (h : ∀ a, KN (k a) u) : KN (rd f n i k) u := by
  intro r z e
  have q : wq (rd f n i k) (fun r' z' => r' = r ∧ z' = z) := ⟨r, z, e, rfl, rfl⟩
  obtain ⟨r1, z1, e1, rfl, rfl⟩ := (wq_rd.mp q).2
  exact h _ _ _ e1
theorem KN_if {c : Prop} {d : Decidable c} {a b : Option (β × CSt)} (ha : KN a u) (hb : KN b u) : KN (if c then a else b) u := by
  by_cases q : c
  · rw [if_pos q]; exact ha
  · rw [if_neg q]; exact hb
theorem KN_zr {v : Int32} {x : Option (β × CSt)} (h : KN x u) : KN (zr v x) u := fun r z e => h r z (zr_of e).2
theorem KN_nz {v : Int32} {x : Option (β × CSt)} (h : KN x u) : KN (nz v x) u := fun r z e => h r z (nz_of e).2
theorem KN_ok {P : Prop} {d : Decidable P} {x : Option (β × CSt)} (h : KN x u) : KN (ok P d x) u := fun r z e => h r z (ok_of e).2
theorem KN_pc {x : CSt} {k : CSt → Option (β × CSt)} (h : KN (k x) u) : KN (pc x k) u := h
theorem KN_wc {n : Nat} {i : Int32} {x : CSt} {k : CSt → Option (β × CSt)} (h : KN (k x) u) : KN (wc n i x k) u := by
  intro r z e
  have q : wq (wc n i x k) (fun r' z' => r' = r ∧ z' = z) := ⟨r, z, e, rfl, rfl⟩
  obtain ⟨r1, z1, e1, rfl, rfl⟩ := (wq_wc.mp q).2
  exact h _ _ e1
theorem KN_bc {x : Option (α × CSt)} {k : α → CSt → Option (β × CSt)} (hx : KN x u) (h : ∀ r w, KN (k r w) w) : KN (bc x k) u := by
  intro r z e
  have q : wq (bc x k) (fun r' z' => r' = r ∧ z' = z) := ⟨r, z, e, rfl, rfl⟩
  obtain ⟨r1, z1, e1, r2, z2, e2, rfl, rfl⟩ := wq_bc.mp q
  exact kn_tr (hx _ _ e1) (h _ _ _ _ e2)
theorem KN_pb {x : Option α} {k : α → Option (β × CSt)} (h : ∀ a, KN (k a) u) : KN (pb x k) u := by
  intro r z e
  have q : wq (pb x k) (fun r' z' => r' = r ∧ z' = z) := ⟨r, z, e, rfl, rfl⟩
  obtain ⟨a, -, r1, z1, e1, rfl, rfl⟩ := wq_pb.mp q
  exact h _ _ _ e1
theorem KN_bt {x : Option (Sum Nat α × CSt)} {k : α → CSt → Option (Sum Nat γ × CSt)} (hx : KN x u) (h : ∀ r w, KN (k r w) w) : KN (bt x k) u := by
  intro r z e
  unfold bt at e
  cases hq : x with
  | none => rw [hq] at e; cases e
  | some a =>
    obtain ⟨y, v⟩ := a
    rw [hq] at e
    cases y with
    | inl n => cases e; exact hx _ _ hq
    | inr b => exact kn_tr (hx _ _ hq) (h _ _ _ _ e)
theorem KN_ix {n : Nat} {i : Int32} {x : Option (β × CSt)} (h : KN x u) : KN (ix n i x) u := by
  intro r z e
  have q : wq (ix n i x) (fun r' z' => r' = r ∧ z' = z) := ⟨r, z, e, rfl, rfl⟩
  obtain ⟨r1, z1, e1, rfl, rfl⟩ := (wq_ix.mp q).2
  exact h _ _ e1
theorem KN_bh {x : Option (Sum Nat α × CSt)} {kc : CSt → Option (β × CSt)} {k : α → CSt → Option (β × CSt)} (hx : KN x u) (h0 : ∀ w, KN (kc w) w) (h : ∀ r w, KN (k r w) w) : KN (bh x kc k) u := by
  intro r z e
  obtain ⟨y1, w1, e1, ⟨-, e2⟩ | ⟨q, -, e2⟩⟩ := bh_of e
  · exact kn_tr (hx _ _ e1) (h0 _ _ _ e2)
  · exact kn_tr (hx _ _ e1) (h _ _ _ _ e2)
end KNs

theorem kn_B_X4_isLocal_17 {N : Nat} {u : CSt}  : KN (B_X4_isLocal_17 N u) u := by
  unfold B_X4_isLocal_17
  exact KN_some kn_rf
theorem kn_B_X4_isLocal_0 {N : Nat} {l0 : Nat} {u : CSt}  : KN (B_X4_isLocal_0 N l0 u) u := by
  unfold B_X4_isLocal_0
  refine KN_if ?_ ?_
  · skip
    exact kn_B_X4_isLocal_17.tr kn_rf
  · skip
    refine KN_if ?_ ?_
    · skip
      exact kn_B_X4_isLocal_17.tr kn_rf
    · skip
      exact KN_some kn_rf
theorem kn_F_X4_isLocal {N : Nat} {l0 : Nat} {u : CSt}  : KN (F_X4_isLocal N l0 u) u := by
  unfold F_X4_isLocal
  exact kn_B_X4_isLocal_0.tr kn_rf
theorem kn_B_X4_hasNumbers_14 {N : Nat} {u : CSt}  : KN (B_X4_hasNumbers_14 N u) u := by
  unfold B_X4_hasNumbers_14
  exact KN_some kn_rf
theorem kn_B_X4_hasNumbers_0 {N : Nat} {l0 : Nat} {u : CSt}  : KN (B_X4_hasNumbers_0 N l0 u) u := by
  unfold B_X4_hasNumbers_0
  refine KN_if ?_ ?_
  · skip
    exact kn_B_X4_hasNumbers_14.tr kn_rf
  · skip
    refine KN_bc (kn_F_X4_isLocal.tr kn_rf) (fun _ _ => ?_)
    refine KN_if ?_ ?_
    · skip
      exact KN_some kn_rf
    · skip
      exact kn_B_X4_hasNumbers_14.tr kn_rf
theorem kn_F_X4_hasNumbers {N : Nat} {l0 : Nat} {u : CSt}  : KN (F_X4_hasNumbers N l0 u) u := by
  unfold F_X4_hasNumbers
  exact kn_B_X4_hasNumbers_0.tr kn_rf
theorem kn_B_X4_isPlaced_23 {N : Nat} {u : CSt}  : KN (B_X4_isPlaced_23 N u) u := by
  unfold B_X4_isPlaced_23
  exact KN_some kn_rf
theorem kn_B_X4_isPlaced_0 {N : Nat} {l0 : Nat} {u : CSt}  : KN (B_X4_isPlaced_0 N l0 u) u := by
  unfold B_X4_isPlaced_0
  refine KN_if ?_ ?_
  · skip
    refine KN_if ?_ ?_
    · skip
      exact kn_B_X4_isPlaced_23.tr kn_rf
    · skip
      refine KN_if ?_ ?_
      · skip
        exact kn_B_X4_isPlaced_23.tr kn_rf
      · skip
        exact KN_some kn_rf
  · skip
    exact KN_some kn_rf
theorem kn_F_X4_isPlaced {N : Nat} {l0 : Nat} {u : CSt}  : KN (F_X4_isPlaced N l0 u) u := by
  unfold F_X4_isPlaced
  exact kn_B_X4_isPlaced_0.tr kn_rf
theorem kn_B_X4_isInput_0 {N : Nat} {l0 : Nat} {u : CSt}  : KN (B_X4_isInput_0 N l0 u) u := by
  unfold B_X4_isInput_0
  refine KN_if ?_ ?_
  · skip
    refine KN_if ?_ ?_
    · skip
      exact KN_some kn_rf
    · skip
      exact KN_some kn_rf
  · skip
    exact KN_some kn_rf
theorem kn_F_X4_isInput {N : Nat} {l0 : Nat} {u : CSt}  : KN (F_X4_isInput N l0 u) u := by
  unfold F_X4_isInput
  exact kn_B_X4_isInput_0.tr kn_rf
theorem kn_B_X7_become_0 {N : Nat} {l0 : Nat} {l1 : Int32} {l2 : Int32} {l3 : Int32} {u : CSt}  : KN (B_X7_become_0 N l0 l1 l2 l3 u) u := by
  unfold B_X7_become_0
  refine KN_pc ?_
  refine KN_pc ?_
  refine KN_pc ?_
  refine KN_pc ?_
  refine KN_pc ?_
  refine KN_pc ?_
  refine KN_pc ?_
  refine KN_pc ?_
  refine KN_pc ?_
  refine KN_pc ?_
  exact KN_some (fn_xtI (fn_xtI (fn_xtI (fn_xtI (fn_xtI (fn_xtI (fn_xtI (fn_xtI (fn_xtI (fn_xtI kn_rf))))))))))
theorem kn_F_X7_become {N : Nat} {l0 : Nat} {l1 : Int32} {l2 : Int32} {l3 : Int32} {u : CSt}  : KN (F_X7_become N l0 l1 l2 l3 u) u := by
  unfold F_X7_become
  exact kn_B_X7_become_0.tr kn_rf
theorem kn_B_X6_name_0 {N : Nat} {l0 : Nat} {l1 : Int32} {u : CSt}  : KN (B_X6_name_0 N l0 l1 u) u := by
  unfold B_X6_name_0
  refine KN_if ?_ ?_
  · skip
    exact KN_some kn_rf
  · skip
    refine KN_if ?_ ?_
    · skip
      exact KN_some kn_rf
    · skip
      refine KN_ix ?_
      exact KN_some kn_rf
theorem kn_F_X6_name {N : Nat} {l0 : Nat} {l1 : Int32} {u : CSt}  : KN (F_X6_name N l0 l1 u) u := by
  unfold F_X6_name
  exact kn_B_X6_name_0.tr kn_rf
theorem kn_B_X6_local_0 {N : Nat} {l0 : Nat} {l1 : Nat} {l2 : Int32} {u : CSt}  : KN (B_X6_local_0 N l0 l1 l2 u) u := by
  unfold B_X6_local_0
  refine KN_if ?_ ?_
  · skip
    exact KN_some kn_rf
  · skip
    refine KN_if ?_ ?_
    · skip
      exact KN_some kn_rf
    · skip
      refine KN_bc (kn_F_X6_name.tr kn_rf) (fun _ _ => ?_)
      refine KN_ok ?_
      exact KN_some kn_rf
theorem kn_F_X6_local {N : Nat} {l0 : Nat} {l1 : Nat} {l2 : Int32} {u : CSt}  : KN (F_X6_local N l0 l1 l2 u) u := by
  unfold F_X6_local
  exact kn_B_X6_local_0.tr kn_rf
theorem kn_B_X6_localCalled_71 {N : Nat} {R_12 : Nat × Nat × Int64 × Int32 × Int32 × Int32 × CSt → Option (Nat × CSt)} {l0 : Nat} {l1 : Nat} {l2 : Int64} {l4 : Int32} {l5 : Int32} {l6 : Int32} {u : CSt} (h_R_12 : ∀ a, KN (R_12 a) a.2.2.2.2.2.2) : KN (B_X6_localCalled_71 N R_12 l0 l1 l2 l4 l5 l6 u) u := by
  unfold B_X6_localCalled_71
  exact (h_R_12 _).tr kn_rf
theorem kn_B_X6_localCalled_12 {N : Nat} {R_12 : Nat × Nat × Int64 × Int32 × Int32 × Int32 × CSt → Option (Nat × CSt)} {l0 : Nat} {l1 : Nat} {l2 : Int64} {l4 : Int32} {l5 : Int32} {l6 : Int32} {u : CSt} (h_R_12 : ∀ a, KN (R_12 a) a.2.2.2.2.2.2) : KN (B_X6_localCalled_12 N R_12 l0 l1 l2 l4 l5 l6 u) u := by
  unfold B_X6_localCalled_12
  refine KN_if ?_ ?_
  · skip
    exact KN_some kn_rf
  · skip
    refine KN_if ?_ ?_
    · skip
      exact KN_some kn_rf
    · skip
      refine KN_ix ?_
      refine KN_if ?_ ?_
      · skip
        refine KN_ix ?_
        refine KN_if ?_ ?_
        · skip
          refine KN_ix ?_
          exact KN_some kn_rf
        · skip
          exact (kn_B_X6_localCalled_71 h_R_12).tr kn_rf
      · skip
        exact (kn_B_X6_localCalled_71 h_R_12).tr kn_rf
theorem kn_LP_X6_localCalled_12 {N : Nat}  (n : Nat) : ∀ a : Nat × Nat × Int64 × Int32 × Int32 × Int32 × CSt, KN (LP_X6_localCalled_12 N n a) a.2.2.2.2.2.2 := by
  induction n with
  | zero => exact fun a r z e => by have e : (none : Option _) = some (r, z) := e; cases e
  | succ n ih =>
    intro a
    show KN (B_X6_localCalled_12 N (LP_X6_localCalled_12 N n) a.1 a.2.1 a.2.2.1 a.2.2.2.1 a.2.2.2.2.1 a.2.2.2.2.2.1 a.2.2.2.2.2.2) a.2.2.2.2.2.2
    exact kn_B_X6_localCalled_12 ih
theorem kn_B_X6_localCalled_0 {N : Nat} {l0 : Nat} {l1 : Nat} {l2 : Int64} {l4 : Int32} {u : CSt}  : KN (B_X6_localCalled_0 N l0 l1 l2 l4 u) u := by
  unfold B_X6_localCalled_0
  exact (kn_LP_X6_localCalled_12  _ _).tr kn_rf
theorem kn_F_X6_localCalled {N : Nat} {l0 : Nat} {l1 : Nat} {l2 : Int64} {l4 : Int32} {u : CSt}  : KN (F_X6_localCalled N l0 l1 l2 l4 u) u := by
  unfold F_X6_localCalled
  exact kn_B_X6_localCalled_0.tr kn_rf
theorem kn_B_X6_ofText_52 {N : Nat} {R_3 : Nat × Int64 × Int32 × Int32 × CSt → Option (Nat × CSt)} {l0 : Nat} {l1 : Int64} {l3 : Int32} {l4 : Int32} {u : CSt} (h_R_3 : ∀ a, KN (R_3 a) a.2.2.2.2) : KN (B_X6_ofText_52 N R_3 l0 l1 l3 l4 u) u := by
  unfold B_X6_ofText_52
  exact (h_R_3 _).tr kn_rf
theorem kn_B_X6_ofText_61 {N : Nat} {R_61 : Nat × Int64 × Int32 × Int32 × CSt → Option (Nat × CSt)} {l0 : Nat} {l1 : Int64} {l3 : Int32} {l4 : Int32} {u : CSt} (h_R_61 : ∀ a, KN (R_61 a) a.2.2.2.2) : KN (B_X6_ofText_61 N R_61 l0 l1 l3 l4 u) u := by
  unfold B_X6_ofText_61
  refine KN_if ?_ ?_
  · skip
    exact KN_some kn_rf
  · skip
    refine KN_if ?_ ?_
    · skip
      refine KN_ix ?_
      refine KN_if ?_ ?_
      · skip
        refine KN_ix ?_
        exact KN_some kn_rf
      · skip
        exact (h_R_61 _).tr kn_rf
    · skip
      exact KN_some kn_rf
theorem kn_LP_X6_ofText_61 {N : Nat}  (n : Nat) : ∀ a : Nat × Int64 × Int32 × Int32 × CSt, KN (LP_X6_ofText_61 N n a) a.2.2.2.2 := by
  induction n with
  | zero => exact fun a r z e => by have e : (none : Option _) = some (r, z) := e; cases e
  | succ n ih =>
    intro a
    show KN (B_X6_ofText_61 N (LP_X6_ofText_61 N n) a.1 a.2.1 a.2.2.1 a.2.2.2.1 a.2.2.2.2) a.2.2.2.2
    exact kn_B_X6_ofText_61 ih
theorem kn_B_X6_ofText_3 {N : Nat} {R_3 : Nat × Int64 × Int32 × Int32 × CSt → Option (Nat × CSt)} {l0 : Nat} {l1 : Int64} {l3 : Int32} {l4 : Int32} {u : CSt} (h_R_3 : ∀ a, KN (R_3 a) a.2.2.2.2) : KN (B_X6_ofText_3 N R_3 l0 l1 l3 l4 u) u := by
  unfold B_X6_ofText_3
  refine KN_if ?_ ?_
  · skip
    exact (kn_LP_X6_ofText_61  _ _).tr kn_rf
  · skip
    refine KN_ix ?_
    refine KN_if ?_ ?_
    · skip
      refine KN_if ?_ ?_
      · skip
        refine KN_if ?_ ?_
        · skip
          exact (kn_B_X6_ofText_52 h_R_3).tr kn_rf
        · skip
          exact KN_some kn_rf
      · skip
        exact (kn_B_X6_ofText_52 h_R_3).tr kn_rf
    · skip
      exact (kn_B_X6_ofText_52 h_R_3).tr kn_rf
theorem kn_LP_X6_ofText_3 {N : Nat}  (n : Nat) : ∀ a : Nat × Int64 × Int32 × Int32 × CSt, KN (LP_X6_ofText_3 N n a) a.2.2.2.2 := by
  induction n with
  | zero => exact fun a r z e => by have e : (none : Option _) = some (r, z) := e; cases e
  | succ n ih =>
    intro a
    show KN (B_X6_ofText_3 N (LP_X6_ofText_3 N n) a.1 a.2.1 a.2.2.1 a.2.2.2.1 a.2.2.2.2) a.2.2.2.2
    exact kn_B_X6_ofText_3 ih
theorem kn_B_X6_ofText_0 {N : Nat} {l0 : Nat} {l1 : Int64} {l3 : Int32} {u : CSt}  : KN (B_X6_ofText_0 N l0 l1 l3 u) u := by
  unfold B_X6_ofText_0
  exact (kn_LP_X6_ofText_3  _ _).tr kn_rf
theorem kn_F_X6_ofText {N : Nat} {l0 : Nat} {l1 : Int64} {l3 : Int32} {u : CSt}  : KN (F_X6_ofText N l0 l1 l3 u) u := by
  unfold F_X6_ofText
  exact kn_B_X6_ofText_0.tr kn_rf
theorem kn_B_X6_step_0 {N : Nat} {l0 : Nat} {l1 : Int32} {l2 : Int32} {l3 : Int32} {l4 : Int32} {u : CSt}  : KN (B_X6_step_0 N l0 l1 l2 l3 l4 u) u := by
  unfold B_X6_step_0
  refine KN_if ?_ ?_
  · skip
    refine KN_wc ?_
    refine KN_wc ?_
    refine KN_wc ?_
    refine KN_wc ?_
    refine KN_pc ?_
    exact KN_some (fn_xpI (by decide) (fn_xpA (fn_xpA (fn_xpA (fn_xpA kn_rf)))))
  · skip
    exact KN_some kn_rf
theorem kn_F_X6_step {N : Nat} {l0 : Nat} {l1 : Int32} {l2 : Int32} {l3 : Int32} {l4 : Int32} {u : CSt}  : KN (F_X6_step N l0 l1 l2 l3 l4 u) u := by
  unfold F_X6_step
  exact kn_B_X6_step_0.tr kn_rf
theorem kn_B_X6_cost_0 {N : Nat} {l0 : Nat} {l1 : Int32} {u : CSt}  : KN (B_X6_cost_0 N l0 l1 u) u := by
  unfold B_X6_cost_0
  refine KN_bc (kn_F_X6_step.tr kn_rf) (fun _ _ => ?_)
  exact KN_some kn_rf
theorem kn_F_X6_cost {N : Nat} {l0 : Nat} {l1 : Int32} {u : CSt}  : KN (F_X6_cost N l0 l1 u) u := by
  unfold F_X6_cost
  exact kn_B_X6_cost_0.tr kn_rf
theorem kn_B_X6_constant_0 {N : Nat} {l0 : Nat} {l1 : Int64} {l3 : Int32} {l4 : Int32} {u : CSt}  : KN (B_X6_constant_0 N l0 l1 l3 l4 u) u := by
  unfold B_X6_constant_0
  refine KN_bc (kn_F_X6_step.tr kn_rf) (fun _ _ => ?_)
  exact KN_some kn_rf
theorem kn_F_X6_constant {N : Nat} {l0 : Nat} {l1 : Int64} {l3 : Int32} {l4 : Int32} {u : CSt}  : KN (F_X6_constant N l0 l1 l3 l4 u) u := by
  unfold F_X6_constant
  exact kn_B_X6_constant_0.tr kn_rf
theorem kn_B_X6_land_4 {N : Nat} {R_4 : Nat × Int32 × Int32 × CSt → Option (Int32 × CSt)} {l0 : Nat} {l2 : Int32} {l3 : Int32} {u : CSt} (h_R_4 : ∀ a, KN (R_4 a) a.2.2.2) : KN (B_X6_land_4 N R_4 l0 l2 l3 u) u := by
  unfold B_X6_land_4
  refine KN_if ?_ ?_
  · skip
    exact KN_some kn_rf
  · skip
    refine KN_if ?_ ?_
    · skip
      exact KN_some kn_rf
    · skip
      refine KN_if ?_ ?_
      · skip
        exact KN_some kn_rf
      · skip
        refine KN_rd (fun _ => ?_)
        refine KN_wc ?_
        exact (h_R_4 _).tr (fn_xpA kn_rf)
theorem kn_LP_X6_land_4 {N : Nat}  (n : Nat) : ∀ a : Nat × Int32 × Int32 × CSt, KN (LP_X6_land_4 N n a) a.2.2.2 := by
  induction n with
  | zero => exact fun a r z e => by have e : (none : Option _) = some (r, z) := e; cases e
  | succ n ih =>
    intro a
    show KN (B_X6_land_4 N (LP_X6_land_4 N n) a.1 a.2.1 a.2.2.1 a.2.2.2) a.2.2.2
    exact kn_B_X6_land_4 ih
theorem kn_B_X6_land_0 {N : Nat} {l0 : Nat} {l1 : Int32} {u : CSt}  : KN (B_X6_land_0 N l0 l1 u) u := by
  unfold B_X6_land_0
  exact (kn_LP_X6_land_4  _ _).tr kn_rf
theorem kn_F_X6_land {N : Nat} {l0 : Nat} {l1 : Int32} {u : CSt}  : KN (F_X6_land N l0 l1 u) u := by
  unfold F_X6_land
  exact kn_B_X6_land_0.tr kn_rf
theorem kn_B_X6_label_0 {N : Nat} {l0 : Nat} {l1 : Int64} {l3 : Int64} {u : CSt}  : KN (B_X6_label_0 N l0 l1 l3 u) u := by
  unfold B_X6_label_0
  refine KN_if ?_ ?_
  · skip
    exact KN_some kn_rf
  · skip
    refine KN_wc ?_
    refine KN_wc ?_
    refine KN_pc ?_
    exact KN_some (fn_xpI (by decide) (fn_xpB (fn_xpB kn_rf)))
theorem kn_F_X6_label {N : Nat} {l0 : Nat} {l1 : Int64} {l3 : Int64} {u : CSt}  : KN (F_X6_label N l0 l1 l3 u) u := by
  unfold F_X6_label
  exact kn_B_X6_label_0.tr kn_rf
theorem kn_B_X9_rewind_0 {N : Nat} {u : CSt}  : KN (B_X9_rewind_0 N u) u := by
  unfold B_X9_rewind_0
  refine KN_pc ?_
  exact KN_some (fn_xI kn_rf)
theorem kn_F_X9_rewind {N : Nat} {u : CSt}  : KN (F_X9_rewind N u) u := by
  unfold F_X9_rewind
  exact kn_B_X9_rewind_0.tr kn_rf
theorem kn_B_X9_type_0 {N : Nat} {u : CSt}  : KN (B_X9_type_0 N u) u := by
  unfold B_X9_type_0
  refine KN_rd (fun _ => ?_)
  exact KN_some kn_rf
theorem kn_F_X9_type {N : Nat} {u : CSt}  : KN (F_X9_type N u) u := by
  unfold F_X9_type
  exact kn_B_X9_type_0.tr kn_rf
theorem kn_B_X9_typeAhead_0 {N : Nat} {l1 : Int32} {u : CSt}  : KN (B_X9_typeAhead_0 N l1 u) u := by
  unfold B_X9_typeAhead_0
  refine KN_if ?_ ?_
  · skip
    exact KN_some kn_rf
  · skip
    refine KN_rd (fun _ => ?_)
    exact KN_some kn_rf
theorem kn_F_X9_typeAhead {N : Nat} {l1 : Int32} {u : CSt}  : KN (F_X9_typeAhead N l1 u) u := by
  unfold F_X9_typeAhead
  exact kn_B_X9_typeAhead_0.tr kn_rf
theorem kn_B_X9_is_0 {N : Nat} {l1 : Int32} {u : CSt}  : KN (B_X9_is_0 N l1 u) u := by
  unfold B_X9_is_0
  refine KN_rd (fun _ => ?_)
  refine KN_if ?_ ?_
  · skip
    exact KN_some kn_rf
  · skip
    exact KN_some kn_rf
theorem kn_F_X9_is {N : Nat} {l1 : Int32} {u : CSt}  : KN (F_X9_is N l1 u) u := by
  unfold F_X9_is
  exact kn_B_X9_is_0.tr kn_rf
theorem kn_B_X9_isKindWord_0 {N : Nat} {u : CSt}  : KN (B_X9_isKindWord_0 N u) u := by
  unfold B_X9_isKindWord_0
  refine KN_rd (fun _ => ?_)
  refine KN_if ?_ ?_
  · skip
    exact KN_some kn_rf
  · skip
    refine KN_rd (fun _ => ?_)
    refine KN_if ?_ ?_
    · skip
      exact KN_some kn_rf
    · skip
      exact KN_some kn_rf
theorem kn_F_X9_isKindWord {N : Nat} {u : CSt}  : KN (F_X9_isKindWord N u) u := by
  unfold F_X9_isKindWord
  exact kn_B_X9_isKindWord_0.tr kn_rf
theorem kn_B_X9_here_0 {N : Nat} {u : CSt}  : KN (B_X9_here_0 N u) u := by
  unfold B_X9_here_0
  refine KN_rd (fun _ => ?_)
  exact KN_some kn_rf
theorem kn_F_X9_here {N : Nat} {u : CSt}  : KN (F_X9_here N u) u := by
  unfold F_X9_here
  exact kn_B_X9_here_0.tr kn_rf
theorem kn_B_X9_head_0 {N : Nat} {u : CSt}  : KN (B_X9_head_0 N u) u := by
  unfold B_X9_head_0
  refine KN_rd (fun _ => ?_)
  exact KN_some kn_rf
theorem kn_F_X9_head {N : Nat} {u : CSt}  : KN (F_X9_head N u) u := by
  unfold F_X9_head
  exact kn_B_X9_head_0.tr kn_rf
theorem kn_B_X9_tail_0 {N : Nat} {u : CSt}  : KN (B_X9_tail_0 N u) u := by
  unfold B_X9_tail_0
  refine KN_rd (fun _ => ?_)
  exact KN_some kn_rf
theorem kn_F_X9_tail {N : Nat} {u : CSt}  : KN (F_X9_tail N u) u := by
  unfold F_X9_tail
  exact kn_B_X9_tail_0.tr kn_rf
theorem kn_B_X9_isWide_0 {N : Nat} {u : CSt}  : KN (B_X9_isWide_0 N u) u := by
  unfold B_X9_isWide_0
  refine KN_rd (fun _ => ?_)
  refine KN_if ?_ ?_
  · skip
    exact KN_some kn_rf
  · skip
    exact KN_some kn_rf
theorem kn_F_X9_isWide {N : Nat} {u : CSt}  : KN (F_X9_isWide N u) u := by
  unfold F_X9_isWide
  exact kn_B_X9_isWide_0.tr kn_rf
theorem kn_B_X9_next_0 {N : Nat} {u : CSt}  : KN (B_X9_next_0 N u) u := by
  unfold B_X9_next_0
  refine KN_if ?_ ?_
  · skip
    exact KN_some kn_rf
  · skip
    refine KN_pc ?_
    exact KN_some (fn_xI kn_rf)
theorem kn_F_X9_next {N : Nat} {u : CSt}  : KN (F_X9_next N u) u := by
  unfold F_X9_next
  exact kn_B_X9_next_0.tr kn_rf
theorem kn_B_X9_refuse_0 {N : Nat} {l1 : Int32} {l2 : Int32} {u : CSt}  : KN (B_X9_refuse_0 N l1 l2 u) u := by
  unfold B_X9_refuse_0
  refine KN_pc ?_
  refine KN_pc ?_
  exact KN_some (fn_xI (fn_xI kn_rf))
theorem kn_F_X9_refuse {N : Nat} {l1 : Int32} {l2 : Int32} {u : CSt}  : KN (F_X9_refuse N l1 l2 u) u := by
  unfold F_X9_refuse
  exact kn_B_X9_refuse_0.tr kn_rf
theorem kn_B_X9_takeNumber_28 {N : Nat} {u : CSt}  : KN (B_X9_takeNumber_28 N u) u := by
  unfold B_X9_takeNumber_28
  refine KN_rd (fun _ => ?_)
  refine KN_bc (kn_F_X9_next.tr kn_rf) (fun _ _ => ?_)
  exact KN_some kn_rf
theorem kn_B_X9_takeNumber_0 {N : Nat} {u : CSt}  : KN (B_X9_takeNumber_0 N u) u := by
  unfold B_X9_takeNumber_0
  refine KN_rd (fun _ => ?_)
  refine KN_if ?_ ?_
  · skip
    exact kn_B_X9_takeNumber_28.tr kn_rf
  · skip
    refine KN_rd (fun _ => ?_)
    refine KN_bt (kn_F_X9_refuse.tr kn_rf) (fun _ _ => ?_)
    exact kn_B_X9_takeNumber_28.tr kn_rf
theorem kn_F_X9_takeNumber {N : Nat} {u : CSt}  : KN (F_X9_takeNumber N u) u := by
  unfold F_X9_takeNumber
  exact kn_B_X9_takeNumber_0.tr kn_rf
theorem kn_B_X9_takeBounded_53 {N : Nat} {l5 : Int64} {u : CSt}  : KN (B_X9_takeBounded_53 N l5 u) u := by
  unfold B_X9_takeBounded_53
  refine KN_bc (kn_F_X9_next.tr kn_rf) (fun _ _ => ?_)
  exact KN_some kn_rf
theorem kn_B_X9_takeBounded_39 {N : Nat} {l5 : Int64} {u : CSt}  : KN (B_X9_takeBounded_39 N l5 u) u := by
  unfold B_X9_takeBounded_39
  refine KN_rd (fun _ => ?_)
  refine KN_bt (kn_F_X9_refuse.tr kn_rf) (fun _ _ => ?_)
  exact kn_B_X9_takeBounded_53.tr kn_rf
theorem kn_B_X9_takeBounded_0 {N : Nat} {l1 : Int64} {l3 : Int64} {u : CSt}  : KN (B_X9_takeBounded_0 N l1 l3 u) u := by
  unfold B_X9_takeBounded_0
  refine KN_rd (fun _ => ?_)
  refine KN_rd (fun _ => ?_)
  refine KN_if ?_ ?_
  · skip
    refine KN_if ?_ ?_
    · skip
      exact kn_B_X9_takeBounded_39.tr kn_rf
    · skip
      refine KN_if ?_ ?_
      · skip
        exact kn_B_X9_takeBounded_53.tr kn_rf
      · skip
        exact kn_B_X9_takeBounded_39.tr kn_rf
  · skip
    exact kn_B_X9_takeBounded_39.tr kn_rf
theorem kn_F_X9_takeBounded {N : Nat} {l1 : Int64} {l3 : Int64} {u : CSt}  : KN (F_X9_takeBounded N l1 l3 u) u := by
  unfold F_X9_takeBounded
  exact kn_B_X9_takeBounded_0.tr kn_rf
theorem kn_B_X9_takeKind_0 {N : Nat} {u : CSt}  : KN (B_X9_takeKind_0 N u) u := by
  unfold B_X9_takeKind_0
  refine KN_rd (fun _ => ?_)
  refine KN_bc (kn_F_X9_next.tr kn_rf) (fun _ _ => ?_)
  exact KN_some kn_rf
theorem kn_F_X9_takeKind {N : Nat} {u : CSt}  : KN (F_X9_takeKind N u) u := by
  unfold F_X9_takeKind
  exact kn_B_X9_takeKind_0.tr kn_rf
theorem kn_B_X6_hasRoomFor_58 {N : Nat} {u : CSt}  : KN (B_X6_hasRoomFor_58 N u) u := by
  unfold B_X6_hasRoomFor_58
  exact KN_some kn_rf
theorem kn_B_X6_hasRoomFor_0 {N : Nat} {l0 : Nat} {l1 : Int32} {u : CSt}  : KN (B_X6_hasRoomFor_0 N l0 l1 u) u := by
  unfold B_X6_hasRoomFor_0
  refine KN_if ?_ ?_
  · skip
    refine KN_if ?_ ?_
    · skip
      refine KN_bc (kn_F_X6_name.tr kn_rf) (fun _ _ => ?_)
      refine KN_ok ?_
      refine KN_if ?_ ?_
      · skip
        exact KN_some kn_rf
      · skip
        exact KN_some kn_rf
    · skip
      refine KN_if ?_ ?_
      · skip
        exact kn_B_X6_hasRoomFor_58.tr kn_rf
      · skip
        refine KN_rd (fun _ => ?_)
        refine KN_rd (fun _ => ?_)
        refine KN_if ?_ ?_
        · skip
          exact KN_some kn_rf
        · skip
          exact kn_B_X6_hasRoomFor_58.tr kn_rf
  · skip
    exact KN_some kn_rf
theorem kn_F_X6_hasRoomFor {N : Nat} {l0 : Nat} {l1 : Int32} {u : CSt}  : KN (F_X6_hasRoomFor N l0 l1 u) u := by
  unfold F_X6_hasRoomFor
  exact kn_B_X6_hasRoomFor_0.tr kn_rf
theorem kn_B_X8_known_0 {N : Nat} {u : CSt}  : KN (B_X8_known_0 N u) u := by
  unfold B_X8_known_0
  refine KN_bc (kn_F_X9_head.tr kn_rf) (fun _ _ => ?_)
  refine KN_bc (kn_F_X9_tail.tr kn_rf) (fun _ _ => ?_)
  refine KN_ok ?_
  refine KN_bc (kn_F_X6_name.tr kn_rf) (fun _ _ => ?_)
  refine KN_ok ?_
  refine KN_bc (kn_F_X6_localCalled.tr kn_rf) (fun _ _ => ?_)
  refine KN_ok ?_
  refine KN_if ?_ ?_
  · skip
    refine KN_ok ?_
    refine KN_bc (kn_F_X6_ofText.tr kn_rf) (fun _ _ => ?_)
    refine KN_ok ?_
    exact KN_some kn_rf
  · skip
    exact KN_some kn_rf
theorem kn_F_X8_known {N : Nat} {u : CSt}  : KN (F_X8_known N u) u := by
  unfold F_X8_known
  exact kn_B_X8_known_0.tr kn_rf
theorem kn_B_X8_placeName_63 {N : Nat} {l2 : Nat} {u : CSt}  : KN (B_X8_placeName_63 N l2 u) u := by
  unfold B_X8_placeName_63
  refine KN_bc (kn_F_X9_here.tr kn_rf) (fun _ _ => ?_)
  refine KN_bt (kn_F_X9_refuse.tr kn_rf) (fun _ _ => ?_)
  exact KN_some kn_rf
theorem kn_B_X8_placeName_49 {N : Nat} {l1 : Int32} {l2 : Nat} {s0 : Int32} {s1 : Int32} {u : CSt}  : KN (B_X8_placeName_49 N l1 l2 s0 s1 u) u := by
  unfold B_X8_placeName_49
  refine KN_if ?_ ?_
  · skip
    refine KN_if ?_ ?_
    · skip
      exact KN_some kn_rf
    · skip
      refine KN_bc (kn_F_X4_isInput.tr kn_rf) (fun _ _ => ?_)
      refine KN_if ?_ ?_
      · skip
        exact KN_some kn_rf
      · skip
        exact kn_B_X8_placeName_63.tr kn_rf
  · skip
    exact kn_B_X8_placeName_63.tr kn_rf
theorem kn_B_X8_placeName_27 {N : Nat} {l1 : Int32} {l2 : Nat} {u : CSt}  : KN (B_X8_placeName_27 N l1 l2 u) u := by
  unfold B_X8_placeName_27
  refine KN_bc (kn_F_X9_typeAhead.tr kn_rf) (fun _ _ => ?_)
  refine KN_if ?_ ?_
  · skip
    exact kn_B_X8_placeName_49.tr kn_rf
  · skip
    exact kn_B_X8_placeName_49.tr kn_rf
theorem kn_B_X8_placeName_0 {N : Nat} {l1 : Int32} {u : CSt}  : KN (B_X8_placeName_0 N l1 u) u := by
  unfold B_X8_placeName_0
  refine KN_bc (kn_F_X8_known.tr kn_rf) (fun _ _ => ?_)
  refine KN_ok ?_
  refine KN_bc (kn_F_X4_hasNumbers.tr kn_rf) (fun _ _ => ?_)
  refine KN_if ?_ ?_
  · skip
    refine KN_bc (kn_F_X9_here.tr kn_rf) (fun _ _ => ?_)
    refine KN_bt (kn_F_X9_refuse.tr kn_rf) (fun _ _ => ?_)
    exact kn_B_X8_placeName_27.tr kn_rf
  · skip
    exact kn_B_X8_placeName_27.tr kn_rf
theorem kn_F_X8_placeName {N : Nat} {l1 : Int32} {u : CSt}  : KN (F_X8_placeName N l1 u) u := by
  unfold F_X8_placeName
  exact kn_B_X8_placeName_0.tr kn_rf
theorem kn_B_X8_isTooWide_26 {N : Nat} {u : CSt}  : KN (B_X8_isTooWide_26 N u) u := by
  unfold B_X8_isTooWide_26
  exact KN_some kn_rf
theorem kn_B_X8_isTooWide_0 {N : Nat} {l1 : Int32} {l2 : Int32} {u : CSt}  : KN (B_X8_isTooWide_0 N l1 l2 u) u := by
  unfold B_X8_isTooWide_0
  refine KN_if ?_ ?_
  · skip
    refine KN_if ?_ ?_
    · skip
      exact kn_B_X8_isTooWide_26.tr kn_rf
    · skip
      refine KN_if ?_ ?_
      · skip
        exact kn_B_X8_isTooWide_26.tr kn_rf
      · skip
        exact KN_some kn_rf
  · skip
    exact KN_some kn_rf
theorem kn_F_X8_isTooWide {N : Nat} {l1 : Int32} {l2 : Int32} {u : CSt}  : KN (F_X8_isTooWide N l1 l2 u) u := by
  unfold F_X8_isTooWide
  exact kn_B_X8_isTooWide_0.tr kn_rf
theorem kn_B_X8_combine_25 {N : Nat} {l4 : Int32} {l5 : Int32} {s0 : Nat} {s1 : Int32} {s2 : Int32} {s3 : Int32} {u : CSt}  : KN (B_X8_combine_25 N l4 l5 s0 s1 s2 s3 u) u := by
  unfold B_X8_combine_25
  refine KN_bc (kn_F_X6_step.tr kn_rf) (fun _ _ => ?_)
  refine KN_if ?_ ?_
  · skip
    exact KN_some kn_rf
  · skip
    exact KN_some kn_rf
theorem kn_B_X8_combine_0 {N : Nat} {l1 : Int32} {l2 : Int32} {l3 : Int32} {l4 : Int32} {u : CSt}  : KN (B_X8_combine_0 N l1 l2 l3 l4 u) u := by
  unfold B_X8_combine_0
  refine KN_ok ?_
  refine KN_if ?_ ?_
  · skip
    exact kn_B_X8_combine_25.tr kn_rf
  · skip
    exact kn_B_X8_combine_25.tr kn_rf
theorem kn_F_X8_combine {N : Nat} {l1 : Int32} {l2 : Int32} {l3 : Int32} {l4 : Int32} {u : CSt}  : KN (F_X8_combine N l1 l2 l3 l4 u) u := by
  unfold F_X8_combine
  exact kn_B_X8_combine_0.tr kn_rf
theorem kn_B_X8_defer_121 {N : Nat} {u : CSt}  : KN (B_X8_defer_121 N u) u := by
  unfold B_X8_defer_121
  refine KN_bc (kn_F_X9_next.tr kn_rf) (fun _ _ => ?_)
  exact KN_some kn_rf
theorem kn_B_X8_defer_41 {N : Nat} {l1 : Int32} {l2 : Int32} {l3 : Int32} {s0 : Int32} {u : CSt}  : KN (B_X8_defer_41 N l1 l2 l3 s0 u) u := by
  unfold B_X8_defer_41
  refine KN_ok ?_
  refine KN_bc (kn_F_X6_step.tr kn_rf) (fun _ _ => ?_)
  refine KN_if ?_ ?_
  · skip
    exact kn_B_X8_defer_121.tr kn_rf
  · skip
    refine KN_wc ?_
    refine KN_wc ?_
    refine KN_wc ?_
    refine KN_wc ?_
    refine KN_pc ?_
    exact kn_B_X8_defer_121.tr (fn_xI (fn_xA (fn_xA (fn_xA (fn_xA kn_rf)))))
theorem kn_B_X8_defer_0 {N : Nat} {l1 : Int32} {u : CSt}  : KN (B_X8_defer_0 N l1 u) u := by
  unfold B_X8_defer_0
  refine KN_bc (kn_F_X9_type.tr kn_rf) (fun _ _ => ?_)
  refine KN_bc (kn_F_X9_here.tr kn_rf) (fun _ _ => ?_)
  refine KN_if ?_ ?_
  · skip
    exact kn_B_X8_defer_41.tr kn_rf
  · skip
    refine KN_if ?_ ?_
    · skip
      exact kn_B_X8_defer_41.tr kn_rf
    · skip
      exact kn_B_X8_defer_41.tr kn_rf
theorem kn_F_X8_defer {N : Nat} {l1 : Int32} {u : CSt}  : KN (F_X8_defer N l1 u) u := by
  unfold F_X8_defer
  exact kn_B_X8_defer_0.tr kn_rf
theorem kn_B_X8_settle_171 {N : Nat} {R_3 : Int32 × Int32 × Int32 × CSt → Option (Int32 × CSt)} {l1 : Int32} {l2 : Int32} {l4 : Int32} {u : CSt} (h_R_3 : ∀ a, KN (R_3 a) a.2.2.2) : KN (B_X8_settle_171 N R_3 l1 l2 l4 u) u := by
  unfold B_X8_settle_171
  exact (h_R_3 _).tr kn_rf
theorem kn_B_X8_settle_84 {N : Nat} {R_3 : Int32 × Int32 × Int32 × CSt → Option (Int32 × CSt)} {l1 : Int32} {l2 : Int32} {l6 : Int32} {u : CSt} (h_R_3 : ∀ a, KN (R_3 a) a.2.2.2) : KN (B_X8_settle_84 N R_3 l1 l2 l6 u) u := by
  unfold B_X8_settle_84
  refine KN_ok ?_
  refine KN_bc (kn_F_X6_step.tr kn_rf) (fun _ _ => ?_)
  refine KN_ok ?_
  refine KN_rd (fun _ => ?_)
  refine KN_bc (kn_F_X6_land.tr kn_rf) (fun _ _ => ?_)
  exact (kn_B_X8_settle_171 h_R_3).tr kn_rf
theorem kn_B_X8_settle_3 {N : Nat} {R_3 : Int32 × Int32 × Int32 × CSt → Option (Int32 × CSt)} {l1 : Int32} {l2 : Int32} {l4 : Int32} {u : CSt} (h_R_3 : ∀ a, KN (R_3 a) a.2.2.2) : KN (B_X8_settle_3 N R_3 l1 l2 l4 u) u := by
  unfold B_X8_settle_3
  refine KN_if ?_ ?_
  · skip
    exact KN_some kn_rf
  · skip
    refine KN_rd (fun _ => ?_)
    refine KN_pb (fun _ => ?_)
    refine KN_if ?_ ?_
    · skip
      exact KN_some kn_rf
    · skip
      refine KN_pc ?_
      refine KN_rd (fun _ => ?_)
      refine KN_rd (fun _ => ?_)
      refine KN_pb (fun _ => ?_)
      refine KN_if ?_ ?_
      · skip
        exact (kn_B_X8_settle_84 h_R_3).tr (fn_xI kn_rf)
      · skip
        refine KN_if ?_ ?_
        · skip
          exact (kn_B_X8_settle_84 h_R_3).tr (fn_xI kn_rf)
        · skip
          refine KN_if ?_ ?_
          · skip
            refine KN_pb (fun _ => ?_)
            refine KN_rd (fun _ => ?_)
            refine KN_bc (kn_F_X8_combine.tr (fn_xI kn_rf)) (fun _ _ => ?_)
            exact (kn_B_X8_settle_171 h_R_3).tr kn_rf
          · skip
            refine KN_ok ?_
            refine KN_bc (kn_F_X6_step.tr (fn_xI kn_rf)) (fun _ _ => ?_)
            exact (kn_B_X8_settle_171 h_R_3).tr kn_rf
theorem kn_LP_X8_settle_3 {N : Nat}  (n : Nat) : ∀ a : Int32 × Int32 × Int32 × CSt, KN (LP_X8_settle_3 N n a) a.2.2.2 := by
  induction n with
  | zero => exact fun a r z e => by have e : (none : Option _) = some (r, z) := e; cases e
  | succ n ih =>
    intro a
    show KN (B_X8_settle_3 N (LP_X8_settle_3 N n) a.1 a.2.1 a.2.2.1 a.2.2.2) a.2.2.2
    exact kn_B_X8_settle_3 ih
theorem kn_B_X8_settle_0 {N : Nat} {l1 : Int32} {l2 : Int32} {l3 : Int32} {u : CSt}  : KN (B_X8_settle_0 N l1 l2 l3 u) u := by
  unfold B_X8_settle_0
  exact (kn_LP_X8_settle_3  _ _).tr kn_rf
theorem kn_F_X8_settle {N : Nat} {l1 : Int32} {l2 : Int32} {l3 : Int32} {u : CSt}  : KN (F_X8_settle N l1 l2 l3 u) u := by
  unfold F_X8_settle
  exact kn_B_X8_settle_0.tr kn_rf
theorem kn_B_X8_number_15 {N : Nat} {l1 : Int32} {s0 : Int32} {u : CSt}  : KN (B_X8_number_15 N l1 s0 u) u := by
  unfold B_X8_number_15
  refine KN_bt (kn_F_X9_takeNumber.tr kn_rf) (fun _ _ => ?_)
  refine KN_pc ?_
  refine KN_pc ?_
  refine KN_ok ?_
  refine KN_bc (kn_F_X6_constant.tr (fn_xI (fn_xL kn_rf))) (fun _ _ => ?_)
  exact KN_some kn_rf
theorem kn_B_X8_number_0 {N : Nat} {l1 : Int32} {u : CSt}  : KN (B_X8_number_0 N l1 u) u := by
  unfold B_X8_number_0
  refine KN_bc (kn_F_X9_isWide.tr kn_rf) (fun _ _ => ?_)
  refine KN_if ?_ ?_
  · skip
    exact kn_B_X8_number_15.tr kn_rf
  · skip
    exact kn_B_X8_number_15.tr kn_rf
theorem kn_F_X8_number {N : Nat} {l1 : Int32} {u : CSt}  : KN (F_X8_number N l1 u) u := by
  unfold F_X8_number
  exact kn_B_X8_number_0.tr kn_rf
theorem kn_B_X8_bit_0 {N : Nat} {l1 : Int32} {u : CSt}  : KN (B_X8_bit_0 N l1 u) u := by
  unfold B_X8_bit_0
  refine KN_bc (kn_F_X9_next.tr kn_rf) (fun _ _ => ?_)
  refine KN_rd (fun _ => ?_)
  refine KN_bt (kn_F_X9_takeBounded.tr kn_rf) (fun _ _ => ?_)
  exact KN_some kn_rf
theorem kn_F_X8_bit {N : Nat} {l1 : Int32} {u : CSt}  : KN (F_X8_bit N l1 u) u := by
  unfold F_X8_bit
  exact kn_B_X8_bit_0.tr kn_rf
theorem kn_B_X8_get_36 {N : Nat} {l1 : Nat} {l2 : Int32} {l3 : Int32} {l4 : Int32} {u : CSt}  : KN (B_X8_get_36 N l1 l2 l3 l4 u) u := by
  unfold B_X8_get_36
  refine KN_ok ?_
  refine KN_bc (kn_F_X6_step.tr kn_rf) (fun _ _ => ?_)
  exact KN_some kn_rf
theorem kn_B_X8_get_34 {N : Nat} {l1 : Nat} {l2 : Int32} {l3 : Int32} {s0 : Int32} {u : CSt}  : KN (B_X8_get_34 N l1 l2 l3 s0 u) u := by
  unfold B_X8_get_34
  exact kn_B_X8_get_36.tr kn_rf
theorem kn_B_X8_get_12 {N : Nat} {l1 : Nat} {l2 : Int32} {l3 : Int32} {s0 : Int32} {u : CSt}  : KN (B_X8_get_12 N l1 l2 l3 s0 u) u := by
  unfold B_X8_get_12
  refine KN_bc (kn_F_X4_isPlaced.tr kn_rf) (fun _ _ => ?_)
  refine KN_if ?_ ?_
  · skip
    exact kn_B_X8_get_36.tr kn_rf
  · skip
    refine KN_bc (kn_F_X4_isInput.tr kn_rf) (fun _ _ => ?_)
    refine KN_if ?_ ?_
    · skip
      exact kn_B_X8_get_34.tr kn_rf
    · skip
      exact kn_B_X8_get_34.tr kn_rf
theorem kn_B_X8_get_0 {N : Nat} {l1 : Nat} {l2 : Int32} {l3 : Int32} {u : CSt}  : KN (B_X8_get_0 N l1 l2 l3 u) u := by
  unfold B_X8_get_0
  refine KN_bc (kn_F_X4_isLocal.tr kn_rf) (fun _ _ => ?_)
  refine KN_if ?_ ?_
  · skip
    exact kn_B_X8_get_12.tr kn_rf
  · skip
    exact kn_B_X8_get_12.tr kn_rf
theorem kn_F_X8_get {N : Nat} {l1 : Nat} {l2 : Int32} {l3 : Int32} {u : CSt}  : KN (F_X8_get N l1 l2 l3 u) u := by
  unfold F_X8_get
  exact kn_B_X8_get_0.tr kn_rf
theorem kn_B_X8_set_26 {N : Nat} {l1 : Nat} {l2 : Int32} {s0 : Int32} {u : CSt}  : KN (B_X8_set_26 N l1 l2 s0 u) u := by
  unfold B_X8_set_26
  refine KN_ok ?_
  refine KN_bc (kn_F_X6_step.tr kn_rf) (fun _ _ => ?_)
  exact KN_some kn_rf
theorem kn_B_X8_set_0 {N : Nat} {l1 : Nat} {l2 : Int32} {u : CSt}  : KN (B_X8_set_0 N l1 l2 u) u := by
  unfold B_X8_set_0
  refine KN_bc (kn_F_X4_isLocal.tr kn_rf) (fun _ _ => ?_)
  refine KN_if ?_ ?_
  · skip
    refine KN_bc (kn_F_X4_isPlaced.tr kn_rf) (fun _ _ => ?_)
    refine KN_if ?_ ?_
    · skip
      exact kn_B_X8_set_26.tr kn_rf
    · skip
      exact kn_B_X8_set_26.tr kn_rf
  · skip
    exact kn_B_X8_set_26.tr kn_rf
theorem kn_F_X8_set {N : Nat} {l1 : Nat} {l2 : Int32} {u : CSt}  : KN (F_X8_set N l1 l2 u) u := by
  unfold F_X8_set
  exact kn_B_X8_set_0.tr kn_rf
theorem kn_B_X8_expression_0 {N : Nat} {ro : Nat → Nat → Int32 → Int32 → CSt → Option (Sum Nat Int32 × CSt)} {u : CSt} (h_ro : ∀ q z a b u, KN (ro q z a b u) u) : KN (B_X8_expression_0 N ro u) u := by
  unfold B_X8_expression_0
  refine KN_bt ((h_ro _ _ _ _ _).tr kn_rf) (fun _ _ => ?_)
  refine KN_bc (kn_F_X9_is.tr kn_rf) (fun _ _ => ?_)
  refine KN_if ?_ ?_
  · skip
    exact KN_some kn_rf
  · skip
    refine KN_bc (kn_F_X9_here.tr kn_rf) (fun _ _ => ?_)
    refine KN_ok ?_
    refine KN_bc (kn_F_X6_step.tr kn_rf) (fun _ _ => ?_)
    refine KN_bc (kn_F_X9_next.tr kn_rf) (fun _ _ => ?_)
    refine KN_bt ((h_ro _ _ _ _ _).tr kn_rf) (fun _ _ => ?_)
    refine KN_ok ?_
    refine KN_bc (kn_F_X6_step.tr kn_rf) (fun _ _ => ?_)
    refine KN_ok ?_
    refine KN_bc (kn_F_X6_land.tr kn_rf) (fun _ _ => ?_)
    refine KN_bc (kn_F_X9_next.tr kn_rf) (fun _ _ => ?_)
    refine KN_bt ((h_ro _ _ _ _ _).tr kn_rf) (fun _ _ => ?_)
    refine KN_ok ?_
    refine KN_bc (kn_F_X6_land.tr kn_rf) (fun _ _ => ?_)
    refine KN_pc ?_
    exact KN_some (fn_xI kn_rf)
theorem kn_F_X8_expression {N : Nat} {ro : Nat → Nat → Int32 → Int32 → CSt → Option (Sum Nat Int32 × CSt)} {u : CSt} (h_ro : ∀ q z a b u, KN (ro q z a b u) u) : KN (F_X8_expression N ro u) u := by
  unfold F_X8_expression
  exact (kn_B_X8_expression_0 h_ro).tr kn_rf
theorem kn_B_X8_operators_76 {N : Nat} {ro : Nat → Nat → Int32 → Int32 → CSt → Option (Sum Nat Int32 × CSt)} {l1 : Int32} {l2 : Int32} {u : CSt} (h_ro : ∀ q z a b u, KN (ro q z a b u) u) : KN (B_X8_operators_76 N ro l1 l2 u) u := by
  unfold B_X8_operators_76
  refine KN_bc (kn_F_X8_settle.tr kn_rf) (fun _ _ => ?_)
  exact KN_some kn_rf
theorem kn_B_X8_operators_24 {N : Nat} {ro : Nat → Nat → Int32 → Int32 → CSt → Option (Sum Nat Int32 × CSt)} {R_24 : Int32 × Int32 × Int32 × Int32 × CSt → Option ((Sum Nat Int32) × CSt)} {l1 : Int32} {l2 : Int32} {l3 : Int32} {l4 : Int32} {u : CSt} (h_ro : ∀ q z a b u, KN (ro q z a b u) u) (h_R_24 : ∀ a, KN (R_24 a) a.2.2.2.2) : KN (B_X8_operators_24 N ro R_24 l1 l2 l3 l4 u) u := by
  unfold B_X8_operators_24
  refine KN_if ?_ ?_
  · skip
    exact (kn_B_X8_operators_76 h_ro).tr kn_rf
  · skip
    refine KN_if ?_ ?_
    · skip
      exact (kn_B_X8_operators_76 h_ro).tr kn_rf
    · skip
      refine KN_bc (kn_F_X8_settle.tr kn_rf) (fun _ _ => ?_)
      refine KN_bc (kn_F_X8_defer.tr kn_rf) (fun _ _ => ?_)
      refine KN_bt ((h_ro _ _ _ _ _).tr kn_rf) (fun _ _ => ?_)
      refine KN_pc ?_
      refine KN_bc (kn_F_X9_type.tr (fn_xI kn_rf)) (fun _ _ => ?_)
      refine KN_pb (fun _ => ?_)
      exact (h_R_24 _).tr kn_rf
theorem kn_LP_X8_operators_24 {N : Nat} {ro : Nat → Nat → Int32 → Int32 → CSt → Option (Sum Nat Int32 × CSt)} (h_ro : ∀ q z a b u, KN (ro q z a b u) u) (n : Nat) : ∀ a : Int32 × Int32 × Int32 × Int32 × CSt, KN (LP_X8_operators_24 N ro n a) a.2.2.2.2 := by
  induction n with
  | zero => exact fun a r z e => by have e : (none : Option _) = some (r, z) := e; cases e
  | succ n ih =>
    intro a
    show KN (B_X8_operators_24 N ro (LP_X8_operators_24 N ro n) a.1 a.2.1 a.2.2.1 a.2.2.2.1 a.2.2.2.2) a.2.2.2.2
    exact kn_B_X8_operators_24 h_ro ih
theorem kn_B_X8_operators_0 {N : Nat} {ro : Nat → Nat → Int32 → Int32 → CSt → Option (Sum Nat Int32 × CSt)} {u : CSt} (h_ro : ∀ q z a b u, KN (ro q z a b u) u) : KN (B_X8_operators_0 N ro u) u := by
  unfold B_X8_operators_0
  refine KN_bt ((h_ro _ _ _ _ _).tr kn_rf) (fun _ _ => ?_)
  refine KN_bc (kn_F_X9_type.tr kn_rf) (fun _ _ => ?_)
  refine KN_pb (fun _ => ?_)
  exact (kn_LP_X8_operators_24 h_ro _ _).tr kn_rf
theorem kn_F_X8_operators {N : Nat} {ro : Nat → Nat → Int32 → Int32 → CSt → Option (Sum Nat Int32 × CSt)} {u : CSt} (h_ro : ∀ q z a b u, KN (ro q z a b u) u) : KN (F_X8_operators N ro u) u := by
  unfold F_X8_operators
  exact (kn_B_X8_operators_0 h_ro).tr kn_rf
theorem kn_B_X8_operand_0 {N : Nat} {ro : Nat → Nat → Int32 → Int32 → CSt → Option (Sum Nat Int32 × CSt)} {u : CSt} (h_ro : ∀ q z a b u, KN (ro q z a b u) u) : KN (B_X8_operand_0 N ro u) u := by
  unfold B_X8_operand_0
  refine KN_bc (kn_F_X9_here.tr kn_rf) (fun _ _ => ?_)
  refine KN_bc (kn_F_X9_type.tr kn_rf) (fun _ _ => ?_)
  refine KN_if ?_ ?_
  · skip
    refine KN_ok ?_
    refine KN_bc (kn_F_X6_step.tr kn_rf) (fun _ _ => ?_)
    refine KN_bc (kn_F_X9_next.tr kn_rf) (fun _ _ => ?_)
    refine KN_pc ?_
    exact KN_some (fn_xI kn_rf)
  · skip
    refine KN_if ?_ ?_
    · skip
      refine KN_bt ((h_ro _ _ _ _ _).tr kn_rf) (fun _ _ => ?_)
      exact KN_some kn_rf
    · skip
      refine KN_if ?_ ?_
      · skip
        refine KN_bt ((h_ro _ _ _ _ _).tr kn_rf) (fun _ _ => ?_)
        exact KN_some kn_rf
      · skip
        refine KN_if ?_ ?_
        · skip
          refine KN_bt ((h_ro _ _ _ _ _).tr kn_rf) (fun _ _ => ?_)
          exact KN_some kn_rf
        · skip
          refine KN_if ?_ ?_
          · skip
            refine KN_bt ((h_ro _ _ _ _ _).tr kn_rf) (fun _ _ => ?_)
            exact KN_some kn_rf
          · skip
            refine KN_if ?_ ?_
            · skip
              refine KN_bt (kn_F_X8_number.tr kn_rf) (fun _ _ => ?_)
              exact KN_some kn_rf
            · skip
              refine KN_if ?_ ?_
              · skip
                refine KN_bt (kn_F_X8_number.tr kn_rf) (fun _ _ => ?_)
                exact KN_some kn_rf
              · skip
                refine KN_bt ((h_ro _ _ _ _ _).tr kn_rf) (fun _ _ => ?_)
                exact KN_some kn_rf
theorem kn_F_X8_operand {N : Nat} {ro : Nat → Nat → Int32 → Int32 → CSt → Option (Sum Nat Int32 × CSt)} {u : CSt} (h_ro : ∀ q z a b u, KN (ro q z a b u) u) : KN (F_X8_operand N ro u) u := by
  unfold F_X8_operand
  exact (kn_B_X8_operand_0 h_ro).tr kn_rf
theorem kn_B_X8_signed_146 {N : Nat} {ro : Nat → Nat → Int32 → Int32 → CSt → Option (Sum Nat Int32 × CSt)} {l2 : Int32} {l4 : Int32} {s1 : Int32} {u : CSt} (h_ro : ∀ q z a b u, KN (ro q z a b u) u) : KN (B_X8_signed_146 N ro l2 l4 s1 u) u := by
  unfold B_X8_signed_146
  refine KN_pc ?_
  refine KN_if ?_ ?_
  · skip
    exact KN_some (fn_xL kn_rf)
  · skip
    exact KN_some (fn_xL kn_rf)
theorem kn_B_X8_signed_131 {N : Nat} {ro : Nat → Nat → Int32 → Int32 → CSt → Option (Sum Nat Int32 × CSt)} {l2 : Int32} {l4 : Int32} {s1 : Int32} {u : CSt} (h_ro : ∀ q z a b u, KN (ro q z a b u) u) : KN (B_X8_signed_131 N ro l2 l4 s1 u) u := by
  unfold B_X8_signed_131
  refine KN_zr ?_
  refine KN_pc ?_
  refine KN_if ?_ ?_
  · skip
    exact (kn_B_X8_signed_146 h_ro).tr (fn_xI kn_rf)
  · skip
    exact (kn_B_X8_signed_146 h_ro).tr (fn_xI kn_rf)
theorem kn_B_X8_signed_130 {N : Nat} {ro : Nat → Nat → Int32 → Int32 → CSt → Option (Sum Nat Int32 × CSt)} {l2 : Int32} {l4 : Int32} {u : CSt} (h_ro : ∀ q z a b u, KN (ro q z a b u) u) : KN (B_X8_signed_130 N ro l2 l4 u) u := by
  unfold B_X8_signed_130
  exact (kn_B_X8_signed_131 h_ro).tr kn_rf
theorem kn_B_X8_signed_110 {N : Nat} {ro : Nat → Nat → Int32 → Int32 → CSt → Option (Sum Nat Int32 × CSt)} {l1 : Int32} {l2 : Int32} {l3 : Int32} {l4 : Int32} {s0 : Nat} {s1 : Int32} {s2 : Int32} {s3 : Int32} {u : CSt} (h_ro : ∀ q z a b u, KN (ro q z a b u) u) : KN (B_X8_signed_110 N ro l1 l2 l3 l4 s0 s1 s2 s3 u) u := by
  unfold B_X8_signed_110
  refine KN_bc (kn_F_X6_step.tr kn_rf) (fun _ _ => ?_)
  refine KN_if ?_ ?_
  · skip
    refine KN_if ?_ ?_
    · skip
      exact (kn_B_X8_signed_130 h_ro).tr kn_rf
    · skip
      exact (kn_B_X8_signed_131 h_ro).tr kn_rf
  · skip
    exact (kn_B_X8_signed_130 h_ro).tr kn_rf
theorem kn_B_X8_signed_89 {N : Nat} {ro : Nat → Nat → Int32 → Int32 → CSt → Option (Sum Nat Int32 × CSt)} {l1 : Int32} {l2 : Int32} {l3 : Int32} {l4 : Int32} {s0 : Int32} {u : CSt} (h_ro : ∀ q z a b u, KN (ro q z a b u) u) : KN (B_X8_signed_89 N ro l1 l2 l3 l4 s0 u) u := by
  unfold B_X8_signed_89
  refine KN_ok ?_
  refine KN_if ?_ ?_
  · skip
    exact (kn_B_X8_signed_110 h_ro).tr kn_rf
  · skip
    exact (kn_B_X8_signed_110 h_ro).tr kn_rf
theorem kn_B_X8_signed_54 {N : Nat} {ro : Nat → Nat → Int32 → Int32 → CSt → Option (Sum Nat Int32 × CSt)} {l1 : Int32} {l2 : Int32} {s0 : Int32} {u : CSt} (h_ro : ∀ q z a b u, KN (ro q z a b u) u) : KN (B_X8_signed_54 N ro l1 l2 s0 u) u := by
  unfold B_X8_signed_54
  refine KN_bt ((h_ro _ _ _ _ _).tr kn_rf) (fun _ _ => ?_)
  refine KN_if ?_ ?_
  · skip
    exact (kn_B_X8_signed_89 h_ro).tr kn_rf
  · skip
    refine KN_if ?_ ?_
    · skip
      exact (kn_B_X8_signed_89 h_ro).tr kn_rf
    · skip
      exact (kn_B_X8_signed_89 h_ro).tr kn_rf
theorem kn_B_X8_signed_49 {N : Nat} {ro : Nat → Nat → Int32 → Int32 → CSt → Option (Sum Nat Int32 × CSt)} {l1 : Int32} {l2 : Int32} {u : CSt} (h_ro : ∀ q z a b u, KN (ro q z a b u) u) : KN (B_X8_signed_49 N ro l1 l2 u) u := by
  unfold B_X8_signed_49
  exact (kn_B_X8_signed_54 h_ro).tr kn_rf
theorem kn_B_X8_signed_0 {N : Nat} {ro : Nat → Nat → Int32 → Int32 → CSt → Option (Sum Nat Int32 × CSt)} {l1 : Int32} {u : CSt} (h_ro : ∀ q z a b u, KN (ro q z a b u) u) : KN (B_X8_signed_0 N ro l1 u) u := by
  unfold B_X8_signed_0
  refine KN_bc (kn_F_X9_type.tr kn_rf) (fun _ _ => ?_)
  refine KN_ok ?_
  refine KN_bc (kn_F_X6_cost.tr kn_rf) (fun _ _ => ?_)
  refine KN_bc (kn_F_X9_next.tr kn_rf) (fun _ _ => ?_)
  refine KN_bc (kn_F_X9_is.tr kn_rf) (fun _ _ => ?_)
  refine KN_if ?_ ?_
  · skip
    refine KN_bc (kn_F_X9_is.tr kn_rf) (fun _ _ => ?_)
    refine KN_if ?_ ?_
    · skip
      exact (kn_B_X8_signed_54 h_ro).tr kn_rf
    · skip
      exact (kn_B_X8_signed_49 h_ro).tr kn_rf
  · skip
    exact (kn_B_X8_signed_49 h_ro).tr kn_rf
theorem kn_F_X8_signed {N : Nat} {ro : Nat → Nat → Int32 → Int32 → CSt → Option (Sum Nat Int32 × CSt)} {l1 : Int32} {u : CSt} (h_ro : ∀ q z a b u, KN (ro q z a b u) u) : KN (F_X8_signed N ro l1 u) u := by
  unfold F_X8_signed
  exact (kn_B_X8_signed_0 h_ro).tr kn_rf
theorem kn_B_X8_bracket_0 {N : Nat} {ro : Nat → Nat → Int32 → Int32 → CSt → Option (Sum Nat Int32 × CSt)} {l1 : Int32} {u : CSt} (h_ro : ∀ q z a b u, KN (ro q z a b u) u) : KN (B_X8_bracket_0 N ro l1 u) u := by
  unfold B_X8_bracket_0
  refine KN_bc (kn_F_X9_next.tr kn_rf) (fun _ _ => ?_)
  refine KN_bc (kn_F_X9_isKindWord.tr kn_rf) (fun _ _ => ?_)
  refine KN_if ?_ ?_
  · skip
    refine KN_bt ((h_ro _ _ _ _ _).tr kn_rf) (fun _ _ => ?_)
    refine KN_bc (kn_F_X9_next.tr kn_rf) (fun _ _ => ?_)
    exact KN_some kn_rf
  · skip
    refine KN_bc (kn_F_X9_takeKind.tr kn_rf) (fun _ _ => ?_)
    refine KN_bc (kn_F_X9_next.tr kn_rf) (fun _ _ => ?_)
    refine KN_ok ?_
    refine KN_bc (kn_F_X6_cost.tr kn_rf) (fun _ _ => ?_)
    refine KN_bt ((h_ro _ _ _ _ _).tr kn_rf) (fun _ _ => ?_)
    refine KN_ok ?_
    refine KN_bc (kn_F_X6_step.tr kn_rf) (fun _ _ => ?_)
    refine KN_pc ?_
    exact KN_some (fn_xI kn_rf)
theorem kn_F_X8_bracket {N : Nat} {ro : Nat → Nat → Int32 → Int32 → CSt → Option (Sum Nat Int32 × CSt)} {l1 : Int32} {u : CSt} (h_ro : ∀ q z a b u, KN (ro q z a b u) u) : KN (F_X8_bracket N ro l1 u) u := by
  unfold F_X8_bracket
  exact (kn_B_X8_bracket_0 h_ro).tr kn_rf
theorem kn_B_X8_named_58 {N : Nat} {ro : Nat → Nat → Int32 → Int32 → CSt → Option (Sum Nat Int32 × CSt)} {l1 : Int32} {u : CSt} (h_ro : ∀ q z a b u, KN (ro q z a b u) u) : KN (B_X8_named_58 N ro l1 u) u := by
  unfold B_X8_named_58
  refine KN_bt ((h_ro _ _ _ _ _).tr kn_rf) (fun _ _ => ?_)
  refine KN_pc ?_
  exact KN_some (fn_xI kn_rf)
theorem kn_B_X8_named_0 {N : Nat} {ro : Nat → Nat → Int32 → Int32 → CSt → Option (Sum Nat Int32 × CSt)} {l1 : Int32} {u : CSt} (h_ro : ∀ q z a b u, KN (ro q z a b u) u) : KN (B_X8_named_0 N ro l1 u) u := by
  unfold B_X8_named_0
  refine KN_bc (kn_F_X9_typeAhead.tr kn_rf) (fun _ _ => ?_)
  refine KN_if ?_ ?_
  · skip
    refine KN_bt ((h_ro _ _ _ _ _).tr kn_rf) (fun _ _ => ?_)
    refine KN_pc ?_
    exact KN_some (fn_xI kn_rf)
  · skip
    refine KN_bc (kn_F_X9_typeAhead.tr kn_rf) (fun _ _ => ?_)
    refine KN_if ?_ ?_
    · skip
      refine KN_bc (kn_F_X9_typeAhead.tr kn_rf) (fun _ _ => ?_)
      refine KN_if ?_ ?_
      · skip
        refine KN_bt ((h_ro _ _ _ _ _).tr kn_rf) (fun _ _ => ?_)
        refine KN_pc ?_
        exact KN_some (fn_xI kn_rf)
      · skip
        exact (kn_B_X8_named_58 h_ro).tr kn_rf
    · skip
      exact (kn_B_X8_named_58 h_ro).tr kn_rf
theorem kn_F_X8_named {N : Nat} {ro : Nat → Nat → Int32 → Int32 → CSt → Option (Sum Nat Int32 × CSt)} {l1 : Int32} {u : CSt} (h_ro : ∀ q z a b u, KN (ro q z a b u) u) : KN (F_X8_named N ro l1 u) u := by
  unfold F_X8_named
  exact (kn_B_X8_named_0 h_ro).tr kn_rf
theorem kn_B_X8_ofPlace_58 {N : Nat} {ro : Nat → Nat → Int32 → Int32 → CSt → Option (Sum Nat Int32 × CSt)} {l1 : Int32} {l2 : Nat} {u : CSt} (h_ro : ∀ q z a b u, KN (ro q z a b u) u) : KN (B_X8_ofPlace_58 N ro l1 l2 u) u := by
  unfold B_X8_ofPlace_58
  refine KN_bc (kn_F_X9_is.tr kn_rf) (fun _ _ => ?_)
  refine KN_if ?_ ?_
  · skip
    exact KN_some kn_rf
  · skip
    refine KN_ok ?_
    refine KN_bt (kn_F_X8_bit.tr kn_rf) (fun _ _ => ?_)
    refine KN_bc (kn_F_X6_step.tr kn_rf) (fun _ _ => ?_)
    exact KN_some kn_rf
theorem kn_B_X8_ofPlace_0 {N : Nat} {ro : Nat → Nat → Int32 → Int32 → CSt → Option (Sum Nat Int32 × CSt)} {l1 : Int32} {u : CSt} (h_ro : ∀ q z a b u, KN (ro q z a b u) u) : KN (B_X8_ofPlace_0 N ro l1 u) u := by
  unfold B_X8_ofPlace_0
  refine KN_bt (kn_F_X8_placeName.tr kn_rf) (fun _ _ => ?_)
  refine KN_ok ?_
  refine KN_bc (kn_F_X9_next.tr kn_rf) (fun _ _ => ?_)
  refine KN_if ?_ ?_
  · skip
    refine KN_bc (kn_F_X8_get.tr kn_rf) (fun _ _ => ?_)
    exact (kn_B_X8_ofPlace_58 h_ro).tr kn_rf
  · skip
    refine KN_ok ?_
    refine KN_bc (kn_F_X6_cost.tr kn_rf) (fun _ _ => ?_)
    refine KN_bt ((h_ro _ _ _ _ _).tr kn_rf) (fun _ _ => ?_)
    refine KN_ok ?_
    refine KN_bc (kn_F_X6_step.tr kn_rf) (fun _ _ => ?_)
    exact (kn_B_X8_ofPlace_58 h_ro).tr kn_rf
theorem kn_F_X8_ofPlace {N : Nat} {ro : Nat → Nat → Int32 → Int32 → CSt → Option (Sum Nat Int32 × CSt)} {l1 : Int32} {u : CSt} (h_ro : ∀ q z a b u, KN (ro q z a b u) u) : KN (F_X8_ofPlace N ro l1 u) u := by
  unfold F_X8_ofPlace
  exact (kn_B_X8_ofPlace_0 h_ro).tr kn_rf
theorem kn_B_X8_ofInstance_132 {N : Nat} {ro : Nat → Nat → Int32 → Int32 → CSt → Option (Sum Nat Int32 × CSt)} {l2 : Nat} {l3 : Int32} {l4 : Nat} {u : CSt} (h_ro : ∀ q z a b u, KN (ro q z a b u) u) : KN (B_X8_ofInstance_132 N ro l2 l3 l4 u) u := by
  unfold B_X8_ofInstance_132
  refine KN_bc (kn_F_X9_next.tr kn_rf) (fun _ _ => ?_)
  refine KN_if ?_ ?_
  · skip
    refine KN_ok ?_
    refine KN_bc (kn_F_X6_step.tr kn_rf) (fun _ _ => ?_)
    exact KN_some kn_rf
  · skip
    refine KN_ok ?_
    refine KN_bc (kn_F_X6_cost.tr kn_rf) (fun _ _ => ?_)
    refine KN_bt ((h_ro _ _ _ _ _).tr kn_rf) (fun _ _ => ?_)
    refine KN_ok ?_
    refine KN_bc (kn_F_X6_step.tr kn_rf) (fun _ _ => ?_)
    refine KN_ok ?_
    refine KN_bc (kn_F_X6_step.tr kn_rf) (fun _ _ => ?_)
    exact KN_some kn_rf
theorem kn_B_X8_ofInstance_120 {N : Nat} {ro : Nat → Nat → Int32 → Int32 → CSt → Option (Sum Nat Int32 × CSt)} {l2 : Nat} {l3 : Int32} {l4 : Nat} {s0 : Int32} {s1 : Int32} {u : CSt} (h_ro : ∀ q z a b u, KN (ro q z a b u) u) : KN (B_X8_ofInstance_120 N ro l2 l3 l4 s0 s1 u) u := by
  unfold B_X8_ofInstance_120
  refine KN_if ?_ ?_
  · skip
    exact (kn_B_X8_ofInstance_132 h_ro).tr kn_rf
  · skip
    refine KN_bt (kn_F_X9_refuse.tr kn_rf) (fun _ _ => ?_)
    exact (kn_B_X8_ofInstance_132 h_ro).tr kn_rf
theorem kn_B_X8_ofInstance_97 {N : Nat} {ro : Nat → Nat → Int32 → Int32 → CSt → Option (Sum Nat Int32 × CSt)} {l2 : Nat} {l3 : Int32} {l4 : Nat} {u : CSt} (h_ro : ∀ q z a b u, KN (ro q z a b u) u) : KN (B_X8_ofInstance_97 N ro l2 l3 l4 u) u := by
  unfold B_X8_ofInstance_97
  refine KN_bc (kn_F_X9_typeAhead.tr kn_rf) (fun _ _ => ?_)
  refine KN_if ?_ ?_
  · skip
    exact (kn_B_X8_ofInstance_120 h_ro).tr kn_rf
  · skip
    exact (kn_B_X8_ofInstance_120 h_ro).tr kn_rf
theorem kn_B_X8_ofInstance_22 {N : Nat} {ro : Nat → Nat → Int32 → Int32 → CSt → Option (Sum Nat Int32 × CSt)} {l2 : Nat} {u : CSt} (h_ro : ∀ q z a b u, KN (ro q z a b u) u) : KN (B_X8_ofInstance_22 N ro l2 u) u := by
  unfold B_X8_ofInstance_22
  refine KN_bc (kn_F_X9_next.tr kn_rf) (fun _ _ => ?_)
  refine KN_bc (kn_F_X9_next.tr kn_rf) (fun _ _ => ?_)
  refine KN_bc (kn_F_X9_here.tr kn_rf) (fun _ _ => ?_)
  refine KN_ok ?_
  refine KN_bc (kn_F_X6_name.tr kn_rf) (fun _ _ => ?_)
  refine KN_ok ?_
  refine KN_bc (kn_F_X9_head.tr kn_rf) (fun _ _ => ?_)
  refine KN_bc (kn_F_X9_tail.tr kn_rf) (fun _ _ => ?_)
  refine KN_bc (kn_F_X6_localCalled.tr kn_rf) (fun _ _ => ?_)
  refine KN_ok ?_
  refine KN_if ?_ ?_
  · skip
    refine KN_bt (kn_F_X9_refuse.tr kn_rf) (fun _ _ => ?_)
    exact (kn_B_X8_ofInstance_97 h_ro).tr kn_rf
  · skip
    exact (kn_B_X8_ofInstance_97 h_ro).tr kn_rf
theorem kn_B_X8_ofInstance_0 {N : Nat} {ro : Nat → Nat → Int32 → Int32 → CSt → Option (Sum Nat Int32 × CSt)} {l1 : Int32} {u : CSt} (h_ro : ∀ q z a b u, KN (ro q z a b u) u) : KN (B_X8_ofInstance_0 N ro l1 u) u := by
  unfold B_X8_ofInstance_0
  refine KN_bc (kn_F_X8_known.tr kn_rf) (fun _ _ => ?_)
  refine KN_ok ?_
  refine KN_if ?_ ?_
  · skip
    exact (kn_B_X8_ofInstance_22 h_ro).tr kn_rf
  · skip
    refine KN_bt (kn_F_X9_refuse.tr kn_rf) (fun _ _ => ?_)
    exact (kn_B_X8_ofInstance_22 h_ro).tr kn_rf
theorem kn_F_X8_ofInstance {N : Nat} {ro : Nat → Nat → Int32 → Int32 → CSt → Option (Sum Nat Int32 × CSt)} {l1 : Int32} {u : CSt} (h_ro : ∀ q z a b u, KN (ro q z a b u) u) : KN (F_X8_ofInstance N ro l1 u) u := by
  unfold F_X8_ofInstance
  exact (kn_B_X8_ofInstance_0 h_ro).tr kn_rf
theorem kn_B_X8_called_31 {N : Nat} {ro : Nat → Nat → Int32 → Int32 → CSt → Option (Sum Nat Int32 × CSt)} {l1 : Int32} {l2 : Nat} {u : CSt} (h_ro : ∀ q z a b u, KN (ro q z a b u) u) : KN (B_X8_called_31 N ro l1 l2 u) u := by
  unfold B_X8_called_31
  refine KN_ok ?_
  refine KN_bc (kn_F_X6_cost.tr kn_rf) (fun _ _ => ?_)
  refine KN_if ?_ ?_
  · skip
    refine KN_bt ((h_ro _ _ _ _ _).tr kn_rf) (fun _ _ => ?_)
    exact KN_some kn_rf
  · skip
    refine KN_bt ((h_ro _ _ _ _ _).tr kn_rf) (fun _ _ => ?_)
    refine KN_ok ?_
    refine KN_bc (kn_F_X6_step.tr kn_rf) (fun _ _ => ?_)
    exact KN_some kn_rf
theorem kn_B_X8_called_0 {N : Nat} {ro : Nat → Nat → Int32 → Int32 → CSt → Option (Sum Nat Int32 × CSt)} {l1 : Int32} {u : CSt} (h_ro : ∀ q z a b u, KN (ro q z a b u) u) : KN (B_X8_called_0 N ro l1 u) u := by
  unfold B_X8_called_0
  refine KN_bc (kn_F_X8_known.tr kn_rf) (fun _ _ => ?_)
  refine KN_ok ?_
  refine KN_if ?_ ?_
  · skip
    exact (kn_B_X8_called_31 h_ro).tr kn_rf
  · skip
    refine KN_if ?_ ?_
    · skip
      exact (kn_B_X8_called_31 h_ro).tr kn_rf
    · skip
      refine KN_bt (kn_F_X9_refuse.tr kn_rf) (fun _ _ => ?_)
      exact (kn_B_X8_called_31 h_ro).tr kn_rf
theorem kn_F_X8_called {N : Nat} {ro : Nat → Nat → Int32 → Int32 → CSt → Option (Sum Nat Int32 × CSt)} {l1 : Int32} {u : CSt} (h_ro : ∀ q z a b u, KN (ro q z a b u) u) : KN (F_X8_called N ro l1 u) u := by
  unfold F_X8_called
  exact (kn_B_X8_called_0 h_ro).tr kn_rf
theorem kn_B_X8_builtIn_71 {N : Nat} {ro : Nat → Nat → Int32 → Int32 → CSt → Option (Sum Nat Int32 × CSt)} {R_22 : Nat × Int32 × Int32 × Int32 × Int32 × CSt → Option ((Sum Nat Int32) × CSt)} {l1 : Nat} {l2 : Int32} {l4 : Int32} {l5 : Int32} {l6 : Int32} {s0 : Int32} {u : CSt} (h_ro : ∀ q z a b u, KN (ro q z a b u) u) (h_R_22 : ∀ a, KN (R_22 a) a.2.2.2.2.2) : KN (B_X8_builtIn_71 N ro R_22 l1 l2 l4 l5 l6 s0 u) u := by
  unfold B_X8_builtIn_71
  exact (h_R_22 _).tr kn_rf
theorem kn_B_X8_builtIn_54 {N : Nat} {ro : Nat → Nat → Int32 → Int32 → CSt → Option (Sum Nat Int32 × CSt)} {R_22 : Nat × Int32 × Int32 × Int32 × Int32 × CSt → Option ((Sum Nat Int32) × CSt)} {l1 : Nat} {l2 : Int32} {l3 : Int32} {l4 : Int32} {l5 : Int32} {u : CSt} (h_ro : ∀ q z a b u, KN (ro q z a b u) u) (h_R_22 : ∀ a, KN (R_22 a) a.2.2.2.2.2) : KN (B_X8_builtIn_54 N ro R_22 l1 l2 l3 l4 l5 u) u := by
  unfold B_X8_builtIn_54
  refine KN_bt ((h_ro _ _ _ _ _).tr kn_rf) (fun _ _ => ?_)
  refine KN_if ?_ ?_
  · skip
    exact (kn_B_X8_builtIn_71 h_ro h_R_22).tr kn_rf
  · skip
    exact (kn_B_X8_builtIn_71 h_ro h_R_22).tr kn_rf
theorem kn_B_X8_builtIn_215 {N : Nat} {ro : Nat → Nat → Int32 → Int32 → CSt → Option (Sum Nat Int32 × CSt)} {u : CSt} (h_ro : ∀ q z a b u, KN (ro q z a b u) u) : KN (B_X8_builtIn_215 N ro u) u := by
  unfold B_X8_builtIn_215
  exact KN_some kn_rf
theorem kn_B_X8_builtIn_192 {N : Nat} {ro : Nat → Nat → Int32 → Int32 → CSt → Option (Sum Nat Int32 × CSt)} {l1 : Nat} {l2 : Int32} {l7 : Int32} {s0 : Nat} {s1 : Int32} {s2 : Int32} {s3 : Int32} {u : CSt} (h_ro : ∀ q z a b u, KN (ro q z a b u) u) : KN (B_X8_builtIn_192 N ro l1 l2 l7 s0 s1 s2 s3 u) u := by
  unfold B_X8_builtIn_192
  refine KN_bc (kn_F_X6_step.tr kn_rf) (fun _ _ => ?_)
  refine KN_if ?_ ?_
  · skip
    exact (kn_B_X8_builtIn_215 h_ro).tr kn_rf
  · skip
    refine KN_if ?_ ?_
    · skip
      exact (kn_B_X8_builtIn_215 h_ro).tr kn_rf
    · skip
      exact KN_some kn_rf
theorem kn_B_X8_builtIn_169 {N : Nat} {ro : Nat → Nat → Int32 → Int32 → CSt → Option (Sum Nat Int32 × CSt)} {l1 : Nat} {l2 : Int32} {l7 : Int32} {s0 : Int32} {u : CSt} (h_ro : ∀ q z a b u, KN (ro q z a b u) u) : KN (B_X8_builtIn_169 N ro l1 l2 l7 s0 u) u := by
  unfold B_X8_builtIn_169
  refine KN_ok ?_
  refine KN_if ?_ ?_
  · skip
    exact (kn_B_X8_builtIn_192 h_ro).tr kn_rf
  · skip
    exact (kn_B_X8_builtIn_192 h_ro).tr kn_rf
theorem kn_B_X8_builtIn_152 {N : Nat} {ro : Nat → Nat → Int32 → Int32 → CSt → Option (Sum Nat Int32 × CSt)} {l1 : Nat} {l2 : Int32} {s0 : Int32} {u : CSt} (h_ro : ∀ q z a b u, KN (ro q z a b u) u) : KN (B_X8_builtIn_152 N ro l1 l2 s0 u) u := by
  unfold B_X8_builtIn_152
  refine KN_if ?_ ?_
  · skip
    exact (kn_B_X8_builtIn_169 h_ro).tr kn_rf
  · skip
    exact (kn_B_X8_builtIn_169 h_ro).tr kn_rf
theorem kn_B_X8_builtIn_135 {N : Nat} {ro : Nat → Nat → Int32 → Int32 → CSt → Option (Sum Nat Int32 × CSt)} {l1 : Nat} {l2 : Int32} {l3 : Int32} {l4 : Int32} {s0 : Int32} {u : CSt} (h_ro : ∀ q z a b u, KN (ro q z a b u) u) : KN (B_X8_builtIn_135 N ro l1 l2 l3 l4 s0 u) u := by
  unfold B_X8_builtIn_135
  refine KN_if ?_ ?_
  · skip
    exact (kn_B_X8_builtIn_152 h_ro).tr kn_rf
  · skip
    exact (kn_B_X8_builtIn_152 h_ro).tr kn_rf
theorem kn_B_X8_builtIn_130 {N : Nat} {ro : Nat → Nat → Int32 → Int32 → CSt → Option (Sum Nat Int32 × CSt)} {l1 : Nat} {l2 : Int32} {l3 : Int32} {l4 : Int32} {u : CSt} (h_ro : ∀ q z a b u, KN (ro q z a b u) u) : KN (B_X8_builtIn_130 N ro l1 l2 l3 l4 u) u := by
  unfold B_X8_builtIn_130
  exact (kn_B_X8_builtIn_135 h_ro).tr kn_rf
theorem kn_B_X8_builtIn_112 {N : Nat} {ro : Nat → Nat → Int32 → Int32 → CSt → Option (Sum Nat Int32 × CSt)} {l1 : Nat} {l2 : Int32} {l3 : Int32} {l4 : Int32} {u : CSt} (h_ro : ∀ q z a b u, KN (ro q z a b u) u) : KN (B_X8_builtIn_112 N ro l1 l2 l3 l4 u) u := by
  unfold B_X8_builtIn_112
  refine KN_if ?_ ?_
  · skip
    exact (kn_B_X8_builtIn_130 h_ro).tr kn_rf
  · skip
    refine KN_if ?_ ?_
    · skip
      exact (kn_B_X8_builtIn_130 h_ro).tr kn_rf
    · skip
      exact (kn_B_X8_builtIn_135 h_ro).tr kn_rf
theorem kn_B_X8_builtIn_87 {N : Nat} {ro : Nat → Nat → Int32 → Int32 → CSt → Option (Sum Nat Int32 × CSt)} {l1 : Nat} {l2 : Int32} {l3 : Int32} {l4 : Int32} {l5 : Int32} {u : CSt} (h_ro : ∀ q z a b u, KN (ro q z a b u) u) : KN (B_X8_builtIn_87 N ro l1 l2 l3 l4 l5 u) u := by
  unfold B_X8_builtIn_87
  refine KN_bc (kn_F_X9_next.tr kn_rf) (fun _ _ => ?_)
  refine KN_if ?_ ?_
  · skip
    exact (kn_B_X8_builtIn_112 h_ro).tr kn_rf
  · skip
    refine KN_bt (kn_F_X9_refuse.tr kn_rf) (fun _ _ => ?_)
    exact (kn_B_X8_builtIn_112 h_ro).tr kn_rf
theorem kn_B_X8_builtIn_22 {N : Nat} {ro : Nat → Nat → Int32 → Int32 → CSt → Option (Sum Nat Int32 × CSt)} {R_22 : Nat × Int32 × Int32 × Int32 × Int32 × CSt → Option ((Sum Nat Int32) × CSt)} {l1 : Nat} {l2 : Int32} {l3 : Int32} {l4 : Int32} {l5 : Int32} {u : CSt} (h_ro : ∀ q z a b u, KN (ro q z a b u) u) (h_R_22 : ∀ a, KN (R_22 a) a.2.2.2.2.2) : KN (B_X8_builtIn_22 N ro R_22 l1 l2 l3 l4 l5 u) u := by
  unfold B_X8_builtIn_22
  refine KN_if ?_ ?_
  · skip
    exact (kn_B_X8_builtIn_87 h_ro).tr kn_rf
  · skip
    refine KN_bc (kn_F_X9_is.tr kn_rf) (fun _ _ => ?_)
    refine KN_if ?_ ?_
    · skip
      refine KN_if ?_ ?_
      · skip
        exact (kn_B_X8_builtIn_54 h_ro h_R_22).tr kn_rf
      · skip
        refine KN_bc (kn_F_X9_next.tr kn_rf) (fun _ _ => ?_)
        exact (kn_B_X8_builtIn_54 h_ro h_R_22).tr kn_rf
    · skip
      exact (kn_B_X8_builtIn_87 h_ro).tr kn_rf
theorem kn_LP_X8_builtIn_22 {N : Nat} {ro : Nat → Nat → Int32 → Int32 → CSt → Option (Sum Nat Int32 × CSt)} (h_ro : ∀ q z a b u, KN (ro q z a b u) u) (n : Nat) : ∀ a : Nat × Int32 × Int32 × Int32 × Int32 × CSt, KN (LP_X8_builtIn_22 N ro n a) a.2.2.2.2.2 := by
  induction n with
  | zero => exact fun a r z e => by have e : (none : Option _) = some (r, z) := e; cases e
  | succ n ih =>
    intro a
    show KN (B_X8_builtIn_22 N ro (LP_X8_builtIn_22 N ro n) a.1 a.2.1 a.2.2.1 a.2.2.2.1 a.2.2.2.2.1 a.2.2.2.2.2) a.2.2.2.2.2
    exact kn_B_X8_builtIn_22 h_ro ih
theorem kn_B_X8_builtIn_0 {N : Nat} {ro : Nat → Nat → Int32 → Int32 → CSt → Option (Sum Nat Int32 × CSt)} {l1 : Nat} {l2 : Int32} {u : CSt} (h_ro : ∀ q z a b u, KN (ro q z a b u) u) : KN (B_X8_builtIn_0 N ro l1 l2 u) u := by
  unfold B_X8_builtIn_0
  refine KN_bc (kn_F_X9_next.tr kn_rf) (fun _ _ => ?_)
  refine KN_bc (kn_F_X9_next.tr kn_rf) (fun _ _ => ?_)
  exact (kn_LP_X8_builtIn_22 h_ro _ _).tr kn_rf
theorem kn_F_X8_builtIn {N : Nat} {ro : Nat → Nat → Int32 → Int32 → CSt → Option (Sum Nat Int32 × CSt)} {l1 : Nat} {l2 : Int32} {u : CSt} (h_ro : ∀ q z a b u, KN (ro q z a b u) u) : KN (F_X8_builtIn N ro l1 l2 u) u := by
  unfold F_X8_builtIn
  exact (kn_B_X8_builtIn_0 h_ro).tr kn_rf
theorem kn_B_X8_arguments_147 {N : Nat} {ro : Nat → Nat → Int32 → Int32 → CSt → Option (Sum Nat Int32 × CSt)} {R_17 : Nat × Int32 × Int32 × Int32 × CSt → Option ((Sum Nat Int32) × CSt)} {l1 : Nat} {l2 : Int32} {l3 : Int32} {l4 : Int32} {u : CSt} (h_ro : ∀ q z a b u, KN (ro q z a b u) u) (h_R_17 : ∀ a, KN (R_17 a) a.2.2.2.2) : KN (B_X8_arguments_147 N ro R_17 l1 l2 l3 l4 u) u := by
  unfold B_X8_arguments_147
  exact (h_R_17 _).tr kn_rf
theorem kn_B_X8_arguments_109 {N : Nat} {ro : Nat → Nat → Int32 → Int32 → CSt → Option (Sum Nat Int32 × CSt)} {R_17 : Nat × Int32 × Int32 × Int32 × CSt → Option ((Sum Nat Int32) × CSt)} {l1 : Nat} {l2 : Int32} {l3 : Int32} {l4 : Int32} {l5 : Int32} {l7 : Nat} {u : CSt} (h_ro : ∀ q z a b u, KN (ro q z a b u) u) (h_R_17 : ∀ a, KN (R_17 a) a.2.2.2.2) : KN (B_X8_arguments_109 N ro R_17 l1 l2 l3 l4 l5 l7 u) u := by
  unfold B_X8_arguments_109
  refine KN_if ?_ ?_
  · skip
    refine KN_if ?_ ?_
    · skip
      exact (kn_B_X8_arguments_147 h_ro h_R_17).tr kn_rf
    · skip
      refine KN_ok ?_
      refine KN_bc (kn_F_X6_step.tr kn_rf) (fun _ _ => ?_)
      exact (kn_B_X8_arguments_147 h_ro h_R_17).tr kn_rf
  · skip
    exact (kn_B_X8_arguments_147 h_ro h_R_17).tr kn_rf
theorem kn_B_X8_arguments_49 {N : Nat} {ro : Nat → Nat → Int32 → Int32 → CSt → Option (Sum Nat Int32 × CSt)} {R_17 : Nat × Int32 × Int32 × Int32 × CSt → Option ((Sum Nat Int32) × CSt)} {l1 : Nat} {l2 : Int32} {l3 : Int32} {l4 : Int32} {u : CSt} (h_ro : ∀ q z a b u, KN (ro q z a b u) u) (h_R_17 : ∀ a, KN (R_17 a) a.2.2.2.2) : KN (B_X8_arguments_49 N ro R_17 l1 l2 l3 l4 u) u := by
  unfold B_X8_arguments_49
  refine KN_bc (kn_F_X9_here.tr kn_rf) (fun _ _ => ?_)
  refine KN_bt ((h_ro _ _ _ _ _).tr kn_rf) (fun _ _ => ?_)
  refine KN_ok ?_
  refine KN_bc (kn_F_X6_local.tr kn_rf) (fun _ _ => ?_)
  refine KN_ok ?_
  refine KN_if ?_ ?_
  · skip
    refine KN_bc (kn_F_X8_isTooWide.tr kn_rf) (fun _ _ => ?_)
    refine KN_if ?_ ?_
    · skip
      exact (kn_B_X8_arguments_109 h_ro h_R_17).tr kn_rf
    · skip
      refine KN_bt (kn_F_X9_refuse.tr kn_rf) (fun _ _ => ?_)
      exact (kn_B_X8_arguments_109 h_ro h_R_17).tr kn_rf
  · skip
    exact (kn_B_X8_arguments_109 h_ro h_R_17).tr kn_rf
theorem kn_B_X8_arguments_153 {N : Nat} {ro : Nat → Nat → Int32 → Int32 → CSt → Option (Sum Nat Int32 × CSt)} {l1 : Nat} {l3 : Int32} {l4 : Int32} {u : CSt} (h_ro : ∀ q z a b u, KN (ro q z a b u) u) : KN (B_X8_arguments_153 N ro l1 l3 l4 u) u := by
  unfold B_X8_arguments_153
  refine KN_bc (kn_F_X9_next.tr kn_rf) (fun _ _ => ?_)
  refine KN_if ?_ ?_
  · skip
    exact KN_some kn_rf
  · skip
    refine KN_bt (kn_F_X9_refuse.tr kn_rf) (fun _ _ => ?_)
    exact KN_some kn_rf
theorem kn_B_X8_arguments_17 {N : Nat} {ro : Nat → Nat → Int32 → Int32 → CSt → Option (Sum Nat Int32 × CSt)} {R_17 : Nat × Int32 × Int32 × Int32 × CSt → Option ((Sum Nat Int32) × CSt)} {l1 : Nat} {l2 : Int32} {l3 : Int32} {l4 : Int32} {u : CSt} (h_ro : ∀ q z a b u, KN (ro q z a b u) u) (h_R_17 : ∀ a, KN (R_17 a) a.2.2.2.2) : KN (B_X8_arguments_17 N ro R_17 l1 l2 l3 l4 u) u := by
  unfold B_X8_arguments_17
  refine KN_if ?_ ?_
  · skip
    exact (kn_B_X8_arguments_153 h_ro).tr kn_rf
  · skip
    refine KN_bc (kn_F_X9_is.tr kn_rf) (fun _ _ => ?_)
    refine KN_if ?_ ?_
    · skip
      refine KN_if ?_ ?_
      · skip
        exact (kn_B_X8_arguments_49 h_ro h_R_17).tr kn_rf
      · skip
        refine KN_bc (kn_F_X9_next.tr kn_rf) (fun _ _ => ?_)
        exact (kn_B_X8_arguments_49 h_ro h_R_17).tr kn_rf
    · skip
      exact (kn_B_X8_arguments_153 h_ro).tr kn_rf
theorem kn_LP_X8_arguments_17 {N : Nat} {ro : Nat → Nat → Int32 → Int32 → CSt → Option (Sum Nat Int32 × CSt)} (h_ro : ∀ q z a b u, KN (ro q z a b u) u) (n : Nat) : ∀ a : Nat × Int32 × Int32 × Int32 × CSt, KN (LP_X8_arguments_17 N ro n a) a.2.2.2.2 := by
  induction n with
  | zero => exact fun a r z e => by have e : (none : Option _) = some (r, z) := e; cases e
  | succ n ih =>
    intro a
    show KN (B_X8_arguments_17 N ro (LP_X8_arguments_17 N ro n) a.1 a.2.1 a.2.2.1 a.2.2.2.1 a.2.2.2.2) a.2.2.2.2
    exact kn_B_X8_arguments_17 h_ro ih
theorem kn_B_X8_arguments_0 {N : Nat} {ro : Nat → Nat → Int32 → Int32 → CSt → Option (Sum Nat Int32 × CSt)} {l1 : Nat} {l2 : Int32} {l3 : Int32} {u : CSt} (h_ro : ∀ q z a b u, KN (ro q z a b u) u) : KN (B_X8_arguments_0 N ro l1 l2 l3 u) u := by
  unfold B_X8_arguments_0
  refine KN_bc (kn_F_X9_next.tr kn_rf) (fun _ _ => ?_)
  refine KN_bc (kn_F_X9_next.tr kn_rf) (fun _ _ => ?_)
  exact (kn_LP_X8_arguments_17 h_ro _ _).tr kn_rf
theorem kn_F_X8_arguments {N : Nat} {ro : Nat → Nat → Int32 → Int32 → CSt → Option (Sum Nat Int32 × CSt)} {l1 : Nat} {l2 : Int32} {l3 : Int32} {u : CSt} (h_ro : ∀ q z a b u, KN (ro q z a b u) u) : KN (F_X8_arguments N ro l1 l2 l3 u) u := by
  unfold F_X8_arguments
  exact (kn_B_X8_arguments_0 h_ro).tr kn_rf
theorem kn_B_X8_index_22 {N : Nat} {ro : Nat → Nat → Int32 → Int32 → CSt → Option (Sum Nat Int32 × CSt)} {l1 : Nat} {l2 : Int32} {s0 : Nat} {s1 : Int32} {u : CSt} (h_ro : ∀ q z a b u, KN (ro q z a b u) u) : KN (B_X8_index_22 N ro l1 l2 s0 s1 u) u := by
  unfold B_X8_index_22
  refine KN_bc (kn_F_X6_step.tr kn_rf) (fun _ _ => ?_)
  exact KN_some kn_rf
theorem kn_B_X8_index_0 {N : Nat} {ro : Nat → Nat → Int32 → Int32 → CSt → Option (Sum Nat Int32 × CSt)} {l1 : Nat} {l2 : Int32} {u : CSt} (h_ro : ∀ q z a b u, KN (ro q z a b u) u) : KN (B_X8_index_0 N ro l1 l2 u) u := by
  unfold B_X8_index_0
  refine KN_bt ((h_ro _ _ _ _ _).tr kn_rf) (fun _ _ => ?_)
  refine KN_ok ?_
  refine KN_bc (kn_F_X4_isLocal.tr kn_rf) (fun _ _ => ?_)
  refine KN_if ?_ ?_
  · skip
    exact (kn_B_X8_index_22 h_ro).tr kn_rf
  · skip
    exact (kn_B_X8_index_22 h_ro).tr kn_rf
theorem kn_F_X8_index {N : Nat} {ro : Nat → Nat → Int32 → Int32 → CSt → Option (Sum Nat Int32 × CSt)} {l1 : Nat} {l2 : Int32} {u : CSt} (h_ro : ∀ q z a b u, KN (ro q z a b u) u) : KN (F_X8_index N ro l1 l2 u) u := by
  unfold F_X8_index
  exact (kn_B_X8_index_0 h_ro).tr kn_rf
theorem kn_B_X8_indexNumber_32 {N : Nat} {ro : Nat → Nat → Int32 → Int32 → CSt → Option (Sum Nat Int32 × CSt)} {u : CSt} (h_ro : ∀ q z a b u, KN (ro q z a b u) u) : KN (B_X8_indexNumber_32 N ro u) u := by
  unfold B_X8_indexNumber_32
  refine KN_bc (kn_F_X9_next.tr kn_rf) (fun _ _ => ?_)
  exact KN_some kn_rf
theorem kn_B_X8_indexNumber_0 {N : Nat} {ro : Nat → Nat → Int32 → Int32 → CSt → Option (Sum Nat Int32 × CSt)} {u : CSt} (h_ro : ∀ q z a b u, KN (ro q z a b u) u) : KN (B_X8_indexNumber_0 N ro u) u := by
  unfold B_X8_indexNumber_0
  refine KN_bc (kn_F_X9_next.tr kn_rf) (fun _ _ => ?_)
  refine KN_bc (kn_F_X9_here.tr kn_rf) (fun _ _ => ?_)
  refine KN_bt ((h_ro _ _ _ _ _).tr kn_rf) (fun _ _ => ?_)
  refine KN_if ?_ ?_
  · skip
    refine KN_bt (kn_F_X9_refuse.tr kn_rf) (fun _ _ => ?_)
    exact (kn_B_X8_indexNumber_32 h_ro).tr kn_rf
  · skip
    exact (kn_B_X8_indexNumber_32 h_ro).tr kn_rf
theorem kn_F_X8_indexNumber {N : Nat} {ro : Nat → Nat → Int32 → Int32 → CSt → Option (Sum Nat Int32 × CSt)} {u : CSt} (h_ro : ∀ q z a b u, KN (ro q z a b u) u) : KN (F_X8_indexNumber N ro u) u := by
  unfold F_X8_indexNumber
  exact (kn_B_X8_indexNumber_0 h_ro).tr kn_rf
theorem kn_FTE_ {N : Nat} : ∀ (d q z : Nat) (a b : Int32) (u : CSt), KN (FTE_ N d q z a b u) u := by
  intro d
  induction d with
  | zero => exact fun q z a b u => KN_none
  | succ d ih =>
    intro q z a b u
    show KN (if q = 0 then F_X8_expression N (FTE_ N d) u else if q = 1 then F_X8_operators N (FTE_ N d) u else if q = 2 then F_X8_operand N (FTE_ N d) u else if q = 3 then F_X8_signed N (FTE_ N d) a u else if q = 4 then F_X8_bracket N (FTE_ N d) a u else if q = 5 then F_X8_named N (FTE_ N d) a u else if q = 6 then F_X8_ofPlace N (FTE_ N d) a u else if q = 7 then F_X8_ofInstance N (FTE_ N d) a u else if q = 8 then F_X8_called N (FTE_ N d) a u else if q = 9 then F_X8_builtIn N (FTE_ N d) z a u else if q = 10 then F_X8_arguments N (FTE_ N d) z a b u else if q = 11 then F_X8_index N (FTE_ N d) z a u else if q = 12 then F_X8_indexNumber N (FTE_ N d) u else none) u
    refine KN_if (kn_F_X8_expression ih) ?_
    refine KN_if (kn_F_X8_operators ih) ?_
    refine KN_if (kn_F_X8_operand ih) ?_
    refine KN_if (kn_F_X8_signed ih) ?_
    refine KN_if (kn_F_X8_bracket ih) ?_
    refine KN_if (kn_F_X8_named ih) ?_
    refine KN_if (kn_F_X8_ofPlace ih) ?_
    refine KN_if (kn_F_X8_ofInstance ih) ?_
    refine KN_if (kn_F_X8_called ih) ?_
    refine KN_if (kn_F_X8_builtIn ih) ?_
    refine KN_if (kn_F_X8_arguments ih) ?_
    refine KN_if (kn_F_X8_index ih) ?_
    refine KN_if (kn_F_X8_indexNumber ih) ?_
    exact KN_none
theorem kn_G_X8_expression {N : Nat} {u : CSt} : KN (G_X8_expression N u) u := kn_FTE_ _ _ _ _ _ _
theorem kn_G_X8_arguments {N : Nat} {l1 : Nat} {l2 : Int32} {l3 : Int32} {u : CSt} : KN (G_X8_arguments N l1 l2 l3 u) u := kn_FTE_ _ _ _ _ _ _
theorem kn_G_X8_index {N : Nat} {l1 : Nat} {l2 : Int32} {u : CSt} : KN (G_X8_index N l1 l2 u) u := kn_FTE_ _ _ _ _ _ _
theorem kn_B_X3_allot_0 {N : Nat} {l1 : Int32} {l2 : Int32} {l3 : Int32} {u : CSt}  : KN (B_X3_allot_0 N l1 l2 l3 u) u := by
  unfold B_X3_allot_0
  refine KN_rd (fun _ => ?_)
  refine KN_wc ?_
  refine KN_pc ?_
  refine KN_rd (fun _ => ?_)
  refine KN_if ?_ ?_
  · skip
    exact KN_some (fn_xI (fn_xA kn_rf))
  · skip
    refine KN_bt (kn_F_X9_refuse.tr (fn_xI (fn_xA kn_rf))) (fun _ _ => ?_)
    exact KN_some kn_rf
theorem kn_F_X3_allot {N : Nat} {l1 : Int32} {l2 : Int32} {l3 : Int32} {u : CSt}  : KN (F_X3_allot N l1 l2 l3 u) u := by
  unfold F_X3_allot
  exact kn_B_X3_allot_0.tr kn_rf
theorem kn_B_X3_constant_60 {N : Nat} {l1 : Int32} {l3 : Int32} {l5 : Int64} {u : CSt}  : KN (B_X3_constant_60 N l1 l3 l5 u) u := by
  unfold B_X3_constant_60
  refine KN_if ?_ ?_
  · skip
    refine KN_bt (kn_F_X9_refuse.tr kn_rf) (fun _ _ => ?_)
    exact KN_some kn_rf
  · skip
    exact KN_some kn_rf
theorem kn_B_X3_constant_21 {N : Nat} {l1 : Int32} {l2 : Int32} {u : CSt}  : KN (B_X3_constant_21 N l1 l2 u) u := by
  unfold B_X3_constant_21
  refine KN_bc (kn_F_X9_here.tr kn_rf) (fun _ _ => ?_)
  refine KN_bc (kn_F_X9_isWide.tr kn_rf) (fun _ _ => ?_)
  refine KN_bt (kn_F_X9_takeNumber.tr kn_rf) (fun _ _ => ?_)
  refine KN_if ?_ ?_
  · skip
    exact kn_B_X3_constant_60.tr kn_rf
  · skip
    exact kn_B_X3_constant_60.tr kn_rf
theorem kn_B_X3_constant_0 {N : Nat} {l1 : Int32} {u : CSt}  : KN (B_X3_constant_0 N l1 u) u := by
  unfold B_X3_constant_0
  refine KN_bc (kn_F_X9_is.tr kn_rf) (fun _ _ => ?_)
  refine KN_if ?_ ?_
  · skip
    exact kn_B_X3_constant_21.tr kn_rf
  · skip
    refine KN_bc (kn_F_X9_next.tr kn_rf) (fun _ _ => ?_)
    exact kn_B_X3_constant_21.tr kn_rf
theorem kn_F_X3_constant {N : Nat} {l1 : Int32} {u : CSt}  : KN (F_X3_constant N l1 u) u := by
  unfold F_X3_constant
  exact kn_B_X3_constant_0.tr kn_rf
theorem kn_B_X3_put_0 {N : Nat} {l1 : Nat} {l2 : Int32} {u : CSt}  : KN (B_X3_put_0 N l1 l2 u) u := by
  unfold B_X3_put_0
  refine KN_if ?_ ?_
  · skip
    refine KN_bc (kn_F_X8_set.tr kn_rf) (fun _ _ => ?_)
    exact KN_some kn_rf
  · skip
    refine KN_ok ?_
    refine KN_bc (kn_F_X6_step.tr kn_rf) (fun _ _ => ?_)
    exact KN_some kn_rf
theorem kn_F_X3_put {N : Nat} {l1 : Nat} {l2 : Int32} {u : CSt}  : KN (F_X3_put N l1 l2 u) u := by
  unfold F_X3_put
  exact kn_B_X3_put_0.tr kn_rf
theorem kn_B_X3_setPlain_0 {N : Nat} {l1 : Nat} {u : CSt}  : KN (B_X3_setPlain_0 N l1 u) u := by
  unfold B_X3_setPlain_0
  refine KN_bc (kn_F_X9_here.tr kn_rf) (fun _ _ => ?_)
  refine KN_bc (kn_F_X9_next.tr kn_rf) (fun _ _ => ?_)
  refine KN_bt (kn_G_X8_expression.tr kn_rf) (fun _ _ => ?_)
  refine KN_bc (kn_F_X8_isTooWide.tr kn_rf) (fun _ _ => ?_)
  refine KN_if ?_ ?_
  · skip
    exact KN_some kn_rf
  · skip
    refine KN_bt (kn_F_X9_refuse.tr kn_rf) (fun _ _ => ?_)
    exact KN_some kn_rf
theorem kn_F_X3_setPlain {N : Nat} {l1 : Nat} {u : CSt}  : KN (F_X3_setPlain N l1 u) u := by
  unfold F_X3_setPlain
  exact kn_B_X3_setPlain_0.tr kn_rf
theorem kn_B_X3_setBit_75 {N : Nat} {l1 : Nat} {l2 : Int32} {l3 : Int32} {u : CSt}  : KN (B_X3_setBit_75 N l1 l2 l3 u) u := by
  unfold B_X3_setBit_75
  refine KN_ok ?_
  refine KN_bc (kn_F_X6_step.tr kn_rf) (fun _ _ => ?_)
  refine KN_bc (kn_F_X3_put.tr kn_rf) (fun _ _ => ?_)
  exact KN_some kn_rf
theorem kn_B_X3_setBit_27 {N : Nat} {l1 : Nat} {l2 : Int32} {l3 : Int32} {u : CSt}  : KN (B_X3_setBit_27 N l1 l2 l3 u) u := by
  unfold B_X3_setBit_27
  refine KN_bc (kn_F_X9_next.tr kn_rf) (fun _ _ => ?_)
  refine KN_bt (kn_G_X8_expression.tr kn_rf) (fun _ _ => ?_)
  refine KN_if ?_ ?_
  · skip
    refine KN_bc (kn_F_X8_get.tr kn_rf) (fun _ _ => ?_)
    exact kn_B_X3_setBit_75.tr kn_rf
  · skip
    refine KN_ok ?_
    refine KN_bc (kn_F_X6_step.tr kn_rf) (fun _ _ => ?_)
    exact kn_B_X3_setBit_75.tr kn_rf
theorem kn_B_X3_setBit_0 {N : Nat} {l1 : Nat} {l2 : Int32} {l3 : Int32} {u : CSt}  : KN (B_X3_setBit_0 N l1 l2 l3 u) u := by
  unfold B_X3_setBit_0
  refine KN_bc (kn_F_X9_is.tr kn_rf) (fun _ _ => ?_)
  refine KN_if ?_ ?_
  · skip
    refine KN_bc (kn_F_X9_here.tr kn_rf) (fun _ _ => ?_)
    refine KN_bt (kn_F_X9_refuse.tr kn_rf) (fun _ _ => ?_)
    exact kn_B_X3_setBit_27.tr kn_rf
  · skip
    exact kn_B_X3_setBit_27.tr kn_rf
theorem kn_F_X3_setBit {N : Nat} {l1 : Nat} {l2 : Int32} {l3 : Int32} {u : CSt}  : KN (F_X3_setBit N l1 l2 l3 u) u := by
  unfold F_X3_setBit
  exact kn_B_X3_setBit_0.tr kn_rf
theorem kn_B_X3_change_98 {N : Nat} {l1 : Nat} {l4 : Int32} {s1 : Int32} {u : CSt}  : KN (B_X3_change_98 N l1 l4 s1 u) u := by
  unfold B_X3_change_98
  refine KN_bc (kn_F_X8_combine.tr kn_rf) (fun _ _ => ?_)
  exact KN_some kn_rf
theorem kn_B_X3_change_71 {N : Nat} {l1 : Nat} {l3 : Int32} {l4 : Int32} {u : CSt}  : KN (B_X3_change_71 N l1 l3 l4 u) u := by
  unfold B_X3_change_71
  refine KN_ok ?_
  refine KN_bc (kn_F_X6_constant.tr kn_rf) (fun _ _ => ?_)
  refine KN_if ?_ ?_
  · skip
    exact kn_B_X3_change_98.tr kn_rf
  · skip
    exact kn_B_X3_change_98.tr kn_rf
theorem kn_B_X3_change_50 {N : Nat} {l1 : Nat} {l3 : Int32} {l4 : Int32} {u : CSt}  : KN (B_X3_change_50 N l1 l3 l4 u) u := by
  unfold B_X3_change_50
  refine KN_bc (kn_F_X9_next.tr kn_rf) (fun _ _ => ?_)
  refine KN_if ?_ ?_
  · skip
    exact kn_B_X3_change_71.tr kn_rf
  · skip
    refine KN_if ?_ ?_
    · skip
      exact kn_B_X3_change_71.tr kn_rf
    · skip
      refine KN_bt (kn_G_X8_expression.tr kn_rf) (fun _ _ => ?_)
      refine KN_pb (fun _ => ?_)
      refine KN_bc (kn_F_X8_combine.tr kn_rf) (fun _ _ => ?_)
      exact KN_some kn_rf
theorem kn_B_X3_change_0 {N : Nat} {l1 : Nat} {l2 : Int32} {u : CSt}  : KN (B_X3_change_0 N l1 l2 u) u := by
  unfold B_X3_change_0
  refine KN_bc (kn_F_X9_type.tr kn_rf) (fun _ _ => ?_)
  refine KN_bc (kn_F_X9_here.tr kn_rf) (fun _ _ => ?_)
  refine KN_if ?_ ?_
  · skip
    refine KN_bc (kn_F_X8_get.tr kn_rf) (fun _ _ => ?_)
    exact kn_B_X3_change_50.tr kn_rf
  · skip
    refine KN_ok ?_
    refine KN_bc (kn_F_X6_step.tr kn_rf) (fun _ _ => ?_)
    exact kn_B_X3_change_50.tr kn_rf
theorem kn_F_X3_change {N : Nat} {l1 : Nat} {l2 : Int32} {u : CSt}  : KN (F_X3_change N l1 l2 u) u := by
  unfold F_X3_change
  exact kn_B_X3_change_0.tr kn_rf
theorem kn_B_X3_assignment_104 {N : Nat} {u : CSt}  : KN (B_X3_assignment_104 N u) u := by
  unfold B_X3_assignment_104
  refine KN_bc (kn_F_X9_next.tr kn_rf) (fun _ _ => ?_)
  exact KN_some kn_rf
theorem kn_B_X3_assignment_32 {N : Nat} {l1 : Int32} {l2 : Nat} {u : CSt}  : KN (B_X3_assignment_32 N l1 l2 u) u := by
  unfold B_X3_assignment_32
  refine KN_bc (kn_F_X9_is.tr kn_rf) (fun _ _ => ?_)
  refine KN_if ?_ ?_
  · skip
    refine KN_bc (kn_F_X9_is.tr kn_rf) (fun _ _ => ?_)
    refine KN_if ?_ ?_
    · skip
      refine KN_bt (kn_F_X3_change.tr kn_rf) (fun _ _ => ?_)
      refine KN_bc (kn_F_X3_put.tr kn_rf) (fun _ _ => ?_)
      exact kn_B_X3_assignment_104.tr kn_rf
    · skip
      refine KN_bt (kn_F_X3_setPlain.tr kn_rf) (fun _ _ => ?_)
      refine KN_bc (kn_F_X3_put.tr kn_rf) (fun _ _ => ?_)
      exact kn_B_X3_assignment_104.tr kn_rf
  · skip
    refine KN_bt (kn_F_X8_bit.tr kn_rf) (fun _ _ => ?_)
    refine KN_bt (kn_F_X3_setBit.tr kn_rf) (fun _ _ => ?_)
    exact kn_B_X3_assignment_104.tr kn_rf
theorem kn_B_X3_assignment_0 {N : Nat} {l1 : Int32} {u : CSt}  : KN (B_X3_assignment_0 N l1 u) u := by
  unfold B_X3_assignment_0
  refine KN_bt (kn_F_X8_placeName.tr kn_rf) (fun _ _ => ?_)
  refine KN_ok ?_
  refine KN_bc (kn_F_X9_next.tr kn_rf) (fun _ _ => ?_)
  refine KN_if ?_ ?_
  · skip
    exact kn_B_X3_assignment_32.tr kn_rf
  · skip
    refine KN_bt (kn_G_X8_index.tr kn_rf) (fun _ _ => ?_)
    exact kn_B_X3_assignment_32.tr kn_rf
theorem kn_F_X3_assignment {N : Nat} {l1 : Int32} {u : CSt}  : KN (F_X3_assignment N l1 u) u := by
  unfold F_X3_assignment
  exact kn_B_X3_assignment_0.tr kn_rf
theorem kn_B_X3_instanceCall_25 {N : Nat} {l1 : Int32} {l2 : Nat} {u : CSt}  : KN (B_X3_instanceCall_25 N l1 l2 u) u := by
  unfold B_X3_instanceCall_25
  refine KN_ok ?_
  refine KN_bc (kn_F_X6_cost.tr kn_rf) (fun _ _ => ?_)
  refine KN_ok ?_
  refine KN_bc (kn_F_X6_name.tr kn_rf) (fun _ _ => ?_)
  refine KN_ok ?_
  refine KN_bt (kn_G_X8_arguments.tr kn_rf) (fun _ _ => ?_)
  refine KN_ok ?_
  refine KN_bc (kn_F_X6_step.tr kn_rf) (fun _ _ => ?_)
  refine KN_bc (kn_F_X9_next.tr kn_rf) (fun _ _ => ?_)
  exact KN_some kn_rf
theorem kn_B_X3_instanceCall_0 {N : Nat} {l1 : Int32} {u : CSt}  : KN (B_X3_instanceCall_0 N l1 u) u := by
  unfold B_X3_instanceCall_0
  refine KN_bc (kn_F_X8_known.tr kn_rf) (fun _ _ => ?_)
  refine KN_ok ?_
  refine KN_if ?_ ?_
  · skip
    exact kn_B_X3_instanceCall_25.tr kn_rf
  · skip
    refine KN_bt (kn_F_X9_refuse.tr kn_rf) (fun _ _ => ?_)
    exact kn_B_X3_instanceCall_25.tr kn_rf
theorem kn_F_X3_instanceCall {N : Nat} {l1 : Int32} {u : CSt}  : KN (F_X3_instanceCall N l1 u) u := by
  unfold F_X3_instanceCall
  exact kn_B_X3_instanceCall_0.tr kn_rf
theorem kn_B_X3_leave_69 {N : Nat} {u : CSt}  : KN (B_X3_leave_69 N u) u := by
  unfold B_X3_leave_69
  refine KN_bc (kn_F_X9_next.tr kn_rf) (fun _ _ => ?_)
  refine KN_bc (kn_F_X9_next.tr kn_rf) (fun _ _ => ?_)
  exact KN_some kn_rf
theorem kn_B_X3_leave_16 {N : Nat} {l1 : Int32} {u : CSt}  : KN (B_X3_leave_16 N l1 u) u := by
  unfold B_X3_leave_16
  refine KN_bc (kn_F_X9_is.tr kn_rf) (fun _ _ => ?_)
  refine KN_if ?_ ?_
  · skip
    refine KN_ok ?_
    refine KN_bc (kn_F_X6_step.tr kn_rf) (fun _ _ => ?_)
    refine KN_pc ?_
    exact kn_B_X3_leave_69.tr (fn_xI kn_rf)
  · skip
    refine KN_ok ?_
    refine KN_bc (kn_F_X6_step.tr kn_rf) (fun _ _ => ?_)
    refine KN_pc ?_
    exact kn_B_X3_leave_69.tr (fn_xI kn_rf)
theorem kn_B_X3_leave_0 {N : Nat} {l1 : Int32} {u : CSt}  : KN (B_X3_leave_0 N l1 u) u := by
  unfold B_X3_leave_0
  refine KN_if ?_ ?_
  · skip
    refine KN_bt (kn_F_X9_refuse.tr kn_rf) (fun _ _ => ?_)
    exact kn_B_X3_leave_16.tr kn_rf
  · skip
    exact kn_B_X3_leave_16.tr kn_rf
theorem kn_F_X3_leave {N : Nat} {l1 : Int32} {u : CSt}  : KN (F_X3_leave N l1 u) u := by
  unfold F_X3_leave
  exact kn_B_X3_leave_0.tr kn_rf
theorem kn_B_X3_returned_147 {N : Nat} {u : CSt}  : KN (B_X3_returned_147 N u) u := by
  unfold B_X3_returned_147
  refine KN_bc (kn_F_X9_next.tr kn_rf) (fun _ _ => ?_)
  exact KN_some kn_rf
theorem kn_B_X3_returned_115 {N : Nat} {l1 : Int32} {l3 : Nat} {u : CSt}  : KN (B_X3_returned_115 N l1 l3 u) u := by
  unfold B_X3_returned_115
  refine KN_ok ?_
  refine KN_bc (kn_F_X6_step.tr kn_rf) (fun _ _ => ?_)
  exact kn_B_X3_returned_147.tr kn_rf
theorem kn_B_X3_returned_60 {N : Nat} {l1 : Int32} {l2 : Int32} {l3 : Nat} {u : CSt}  : KN (B_X3_returned_60 N l1 l2 l3 u) u := by
  unfold B_X3_returned_60
  refine KN_bc (kn_F_X9_next.tr kn_rf) (fun _ _ => ?_)
  refine KN_if ?_ ?_
  · skip
    refine KN_ok ?_
    refine KN_bc (kn_F_X6_step.tr kn_rf) (fun _ _ => ?_)
    exact kn_B_X3_returned_147.tr kn_rf
  · skip
    refine KN_bc (kn_F_X9_here.tr kn_rf) (fun _ _ => ?_)
    refine KN_bt (kn_G_X8_expression.tr kn_rf) (fun _ _ => ?_)
    refine KN_bc (kn_F_X8_isTooWide.tr kn_rf) (fun _ _ => ?_)
    refine KN_if ?_ ?_
    · skip
      exact kn_B_X3_returned_115.tr kn_rf
    · skip
      refine KN_bt (kn_F_X9_refuse.tr kn_rf) (fun _ _ => ?_)
      exact kn_B_X3_returned_115.tr kn_rf
theorem kn_B_X3_returned_48 {N : Nat} {l1 : Int32} {l2 : Int32} {l3 : Nat} {s0 : Int32} {s1 : Int32} {u : CSt}  : KN (B_X3_returned_48 N l1 l2 l3 s0 s1 u) u := by
  unfold B_X3_returned_48
  refine KN_if ?_ ?_
  · skip
    exact kn_B_X3_returned_60.tr kn_rf
  · skip
    refine KN_bt (kn_F_X9_refuse.tr kn_rf) (fun _ _ => ?_)
    exact kn_B_X3_returned_60.tr kn_rf
theorem kn_B_X3_returned_18 {N : Nat} {l1 : Int32} {s0 : Int32} {u : CSt}  : KN (B_X3_returned_18 N l1 s0 u) u := by
  unfold B_X3_returned_18
  refine KN_ok ?_
  refine KN_bc (kn_F_X6_name.tr kn_rf) (fun _ _ => ?_)
  refine KN_ok ?_
  refine KN_if ?_ ?_
  · skip
    exact kn_B_X3_returned_48.tr kn_rf
  · skip
    exact kn_B_X3_returned_48.tr kn_rf
theorem kn_B_X3_returned_0 {N : Nat} {l1 : Int32} {u : CSt}  : KN (B_X3_returned_0 N l1 u) u := by
  unfold B_X3_returned_0
  refine KN_bc (kn_F_X9_typeAhead.tr kn_rf) (fun _ _ => ?_)
  refine KN_if ?_ ?_
  · skip
    exact kn_B_X3_returned_18.tr kn_rf
  · skip
    exact kn_B_X3_returned_18.tr kn_rf
theorem kn_F_X3_returned {N : Nat} {l1 : Int32} {u : CSt}  : KN (F_X3_returned N l1 u) u := by
  unfold F_X3_returned
  exact kn_B_X3_returned_0.tr kn_rf
theorem kn_B_X3_labels_90 {N : Nat} {R_2 : Int32 × CSt → Option ((Sum Nat Int32) × CSt)} {l1 : Int32} {l2 : Int64} {l4 : Int64} {u : CSt} (h_R_2 : ∀ a, KN (R_2 a) a.2) : KN (B_X3_labels_90 N R_2 l1 l2 l4 u) u := by
  unfold B_X3_labels_90
  refine KN_ok ?_
  refine KN_bc (kn_F_X6_label.tr kn_rf) (fun _ _ => ?_)
  exact (h_R_2 _).tr kn_rf
theorem kn_B_X3_labels_2 {N : Nat} {R_2 : Int32 × CSt → Option ((Sum Nat Int32) × CSt)} {l1 : Int32} {u : CSt} (h_R_2 : ∀ a, KN (R_2 a) a.2) : KN (B_X3_labels_2 N R_2 l1 u) u := by
  unfold B_X3_labels_2
  refine KN_if ?_ ?_
  · skip
    exact KN_some kn_rf
  · skip
    refine KN_bc (kn_F_X9_is.tr kn_rf) (fun _ _ => ?_)
    refine KN_if ?_ ?_
    · skip
      refine KN_bc (kn_F_X9_next.tr kn_rf) (fun _ _ => ?_)
      refine KN_bt (kn_F_X3_constant.tr kn_rf) (fun _ _ => ?_)
      refine KN_bc (kn_F_X9_is.tr kn_rf) (fun _ _ => ?_)
      refine KN_if ?_ ?_
      · skip
        exact (kn_B_X3_labels_90 h_R_2).tr kn_rf
      · skip
        refine KN_bc (kn_F_X9_next.tr kn_rf) (fun _ _ => ?_)
        refine KN_bc (kn_F_X9_here.tr kn_rf) (fun _ _ => ?_)
        refine KN_bt (kn_F_X3_constant.tr kn_rf) (fun _ _ => ?_)
        refine KN_if ?_ ?_
        · skip
          exact (kn_B_X3_labels_90 h_R_2).tr kn_rf
        · skip
          refine KN_bt (kn_F_X9_refuse.tr kn_rf) (fun _ _ => ?_)
          exact (kn_B_X3_labels_90 h_R_2).tr kn_rf
    · skip
      exact KN_some kn_rf
theorem kn_LP_X3_labels_2 {N : Nat}  (n : Nat) : ∀ a : Int32 × CSt, KN (LP_X3_labels_2 N n a) a.2 := by
  induction n with
  | zero => exact fun a r z e => by have e : (none : Option _) = some (r, z) := e; cases e
  | succ n ih =>
    intro a
    show KN (B_X3_labels_2 N (LP_X3_labels_2 N n) a.1 a.2) a.2
    exact kn_B_X3_labels_2 ih
theorem kn_B_X3_labels_0 {N : Nat} {u : CSt}  : KN (B_X3_labels_0 N u) u := by
  unfold B_X3_labels_0
  exact (kn_LP_X3_labels_2  _ _).tr kn_rf
theorem kn_F_X3_labels {N : Nat} {u : CSt}  : KN (F_X3_labels N u) u := by
  unfold F_X3_labels
  exact kn_B_X3_labels_0.tr kn_rf
theorem kn_B_X3_body_0 {N : Nat} {ro : Nat → Nat → Int32 → Int32 → CSt → Option (Sum Nat Int32 × CSt)} {u : CSt} (h_ro : ∀ q z a b u, KN (ro q z a b u) u) : KN (B_X3_body_0 N ro u) u := by
  unfold B_X3_body_0
  refine KN_bc (kn_F_X9_next.tr kn_rf) (fun _ _ => ?_)
  refine KN_bt ((h_ro _ _ _ _ _).tr kn_rf) (fun _ _ => ?_)
  exact KN_some kn_rf
theorem kn_F_X3_body {N : Nat} {ro : Nat → Nat → Int32 → Int32 → CSt → Option (Sum Nat Int32 × CSt)} {u : CSt} (h_ro : ∀ q z a b u, KN (ro q z a b u) u) : KN (F_X3_body N ro u) u := by
  unfold F_X3_body
  exact (kn_B_X3_body_0 h_ro).tr kn_rf
theorem kn_B_X3_statements_31 {N : Nat} {ro : Nat → Nat → Int32 → Int32 → CSt → Option (Sum Nat Int32 × CSt)} {u : CSt} (h_ro : ∀ q z a b u, KN (ro q z a b u) u) : KN (B_X3_statements_31 N ro u) u := by
  unfold B_X3_statements_31
  refine KN_bc (kn_F_X9_here.tr kn_rf) (fun _ _ => ?_)
  refine KN_bc (kn_F_X9_next.tr kn_rf) (fun _ _ => ?_)
  exact KN_some kn_rf
theorem kn_B_X3_statements_2 {N : Nat} {ro : Nat → Nat → Int32 → Int32 → CSt → Option (Sum Nat Int32 × CSt)} {R_2 : Int32 × CSt → Option ((Sum Nat Int32) × CSt)} {l1 : Int32} {u : CSt} (h_ro : ∀ q z a b u, KN (ro q z a b u) u) (h_R_2 : ∀ a, KN (R_2 a) a.2) : KN (B_X3_statements_2 N ro R_2 l1 u) u := by
  unfold B_X3_statements_2
  refine KN_if ?_ ?_
  · skip
    exact (kn_B_X3_statements_31 h_ro).tr kn_rf
  · skip
    refine KN_bc (kn_F_X9_is.tr kn_rf) (fun _ _ => ?_)
    refine KN_if ?_ ?_
    · skip
      refine KN_bt ((h_ro _ _ _ _ _).tr kn_rf) (fun _ _ => ?_)
      exact (h_R_2 _).tr kn_rf
    · skip
      exact (kn_B_X3_statements_31 h_ro).tr kn_rf
theorem kn_LP_X3_statements_2 {N : Nat} {ro : Nat → Nat → Int32 → Int32 → CSt → Option (Sum Nat Int32 × CSt)} (h_ro : ∀ q z a b u, KN (ro q z a b u) u) (n : Nat) : ∀ a : Int32 × CSt, KN (LP_X3_statements_2 N ro n a) a.2 := by
  induction n with
  | zero => exact fun a r z e => by have e : (none : Option _) = some (r, z) := e; cases e
  | succ n ih =>
    intro a
    show KN (B_X3_statements_2 N ro (LP_X3_statements_2 N ro n) a.1 a.2) a.2
    exact kn_B_X3_statements_2 h_ro ih
theorem kn_B_X3_statements_0 {N : Nat} {ro : Nat → Nat → Int32 → Int32 → CSt → Option (Sum Nat Int32 × CSt)} {u : CSt} (h_ro : ∀ q z a b u, KN (ro q z a b u) u) : KN (B_X3_statements_0 N ro u) u := by
  unfold B_X3_statements_0
  exact (kn_LP_X3_statements_2 h_ro _ _).tr kn_rf
theorem kn_F_X3_statements {N : Nat} {ro : Nat → Nat → Int32 → Int32 → CSt → Option (Sum Nat Int32 × CSt)} {u : CSt} (h_ro : ∀ q z a b u, KN (ro q z a b u) u) : KN (F_X3_statements N ro u) u := by
  unfold F_X3_statements
  exact (kn_B_X3_statements_0 h_ro).tr kn_rf
theorem kn_B_X3_statement_0 {N : Nat} {ro : Nat → Nat → Int32 → Int32 → CSt → Option (Sum Nat Int32 × CSt)} {u : CSt} (h_ro : ∀ q z a b u, KN (ro q z a b u) u) : KN (B_X3_statement_0 N ro u) u := by
  unfold B_X3_statement_0
  refine KN_bc (kn_F_X9_here.tr kn_rf) (fun _ _ => ?_)
  refine KN_ok ?_
  refine KN_bc (kn_F_X6_cost.tr kn_rf) (fun _ _ => ?_)
  refine KN_bc (kn_F_X9_type.tr kn_rf) (fun _ _ => ?_)
  refine KN_if ?_ ?_
  · skip
    refine KN_bt ((h_ro _ _ _ _ _).tr kn_rf) (fun _ _ => ?_)
    exact KN_some kn_rf
  · skip
    refine KN_if ?_ ?_
    · skip
      refine KN_bt ((h_ro _ _ _ _ _).tr kn_rf) (fun _ _ => ?_)
      exact KN_some kn_rf
    · skip
      refine KN_if ?_ ?_
      · skip
        refine KN_bt ((h_ro _ _ _ _ _).tr kn_rf) (fun _ _ => ?_)
        exact KN_some kn_rf
      · skip
        refine KN_if ?_ ?_
        · skip
          refine KN_bt ((h_ro _ _ _ _ _).tr kn_rf) (fun _ _ => ?_)
          exact KN_some kn_rf
        · skip
          refine KN_if ?_ ?_
          · skip
            refine KN_bt (kn_F_X3_leave.tr kn_rf) (fun _ _ => ?_)
            exact KN_some kn_rf
          · skip
            refine KN_if ?_ ?_
            · skip
              refine KN_bt (kn_F_X3_leave.tr kn_rf) (fun _ _ => ?_)
              exact KN_some kn_rf
            · skip
              refine KN_if ?_ ?_
              · skip
                refine KN_bt (kn_F_X3_returned.tr kn_rf) (fun _ _ => ?_)
                exact KN_some kn_rf
              · skip
                refine KN_if ?_ ?_
                · skip
                  refine KN_bc (kn_F_X9_next.tr kn_rf) (fun _ _ => ?_)
                  refine KN_bt (kn_G_X8_expression.tr kn_rf) (fun _ _ => ?_)
                  refine KN_ok ?_
                  refine KN_bc (kn_F_X6_step.tr kn_rf) (fun _ _ => ?_)
                  refine KN_bc (kn_F_X9_next.tr kn_rf) (fun _ _ => ?_)
                  exact KN_some kn_rf
                · skip
                  refine KN_bc (kn_F_X9_typeAhead.tr kn_rf) (fun _ _ => ?_)
                  refine KN_if ?_ ?_
                  · skip
                    refine KN_bt (kn_F_X3_instanceCall.tr kn_rf) (fun _ _ => ?_)
                    exact KN_some kn_rf
                  · skip
                    refine KN_bt (kn_F_X3_assignment.tr kn_rf) (fun _ _ => ?_)
                    exact KN_some kn_rf
theorem kn_F_X3_statement {N : Nat} {ro : Nat → Nat → Int32 → Int32 → CSt → Option (Sum Nat Int32 × CSt)} {u : CSt} (h_ro : ∀ q z a b u, KN (ro q z a b u) u) : KN (F_X3_statement N ro u) u := by
  unfold F_X3_statement
  exact (kn_B_X3_statement_0 h_ro).tr kn_rf
theorem kn_B_X3_choice_113 {N : Nat} {ro : Nat → Nat → Int32 → Int32 → CSt → Option (Sum Nat Int32 × CSt)} {l2 : Int32} {u : CSt} (h_ro : ∀ q z a b u, KN (ro q z a b u) u) : KN (B_X3_choice_113 N ro l2 u) u := by
  unfold B_X3_choice_113
  refine KN_ok ?_
  refine KN_bc (kn_F_X6_land.tr kn_rf) (fun _ _ => ?_)
  exact KN_some kn_rf
theorem kn_B_X3_choice_90 {N : Nat} {ro : Nat → Nat → Int32 → Int32 → CSt → Option (Sum Nat Int32 × CSt)} {l2 : Int32} {u : CSt} (h_ro : ∀ q z a b u, KN (ro q z a b u) u) : KN (B_X3_choice_90 N ro l2 u) u := by
  unfold B_X3_choice_90
  refine KN_bc (kn_F_X9_is.tr kn_rf) (fun _ _ => ?_)
  refine KN_if ?_ ?_
  · skip
    exact (kn_B_X3_choice_113 h_ro).tr kn_rf
  · skip
    refine KN_bc (kn_F_X9_next.tr kn_rf) (fun _ _ => ?_)
    refine KN_bt ((h_ro _ _ _ _ _).tr kn_rf) (fun _ _ => ?_)
    exact (kn_B_X3_choice_113 h_ro).tr kn_rf
theorem kn_B_X3_choice_7 {N : Nat} {ro : Nat → Nat → Int32 → Int32 → CSt → Option (Sum Nat Int32 × CSt)} {R_7 : Int32 × Int32 × Int32 × Int32 × CSt → Option ((Sum Nat Int32) × CSt)} {l1 : Int32} {l2 : Int32} {l3 : Int32} {l4 : Int32} {u : CSt} (h_ro : ∀ q z a b u, KN (ro q z a b u) u) (h_R_7 : ∀ a, KN (R_7 a) a.2.2.2.2) : KN (B_X3_choice_7 N ro R_7 l1 l2 l3 l4 u) u := by
  unfold B_X3_choice_7
  refine KN_if ?_ ?_
  · skip
    exact (kn_B_X3_choice_90 h_ro).tr kn_rf
  · skip
    refine KN_if ?_ ?_
    · skip
      exact (kn_B_X3_choice_90 h_ro).tr kn_rf
    · skip
      refine KN_bc (kn_F_X9_next.tr kn_rf) (fun _ _ => ?_)
      refine KN_bt (kn_G_X8_expression.tr kn_rf) (fun _ _ => ?_)
      refine KN_ok ?_
      refine KN_bc (kn_F_X6_step.tr kn_rf) (fun _ _ => ?_)
      refine KN_bt ((h_ro _ _ _ _ _).tr kn_rf) (fun _ _ => ?_)
      refine KN_ok ?_
      refine KN_bc (kn_F_X6_step.tr kn_rf) (fun _ _ => ?_)
      refine KN_ok ?_
      refine KN_bc (kn_F_X6_land.tr kn_rf) (fun _ _ => ?_)
      refine KN_bc (kn_F_X9_is.tr kn_rf) (fun _ _ => ?_)
      exact (h_R_7 _).tr kn_rf
theorem kn_LP_X3_choice_7 {N : Nat} {ro : Nat → Nat → Int32 → Int32 → CSt → Option (Sum Nat Int32 × CSt)} (h_ro : ∀ q z a b u, KN (ro q z a b u) u) (n : Nat) : ∀ a : Int32 × Int32 × Int32 × Int32 × CSt, KN (LP_X3_choice_7 N ro n a) a.2.2.2.2 := by
  induction n with
  | zero => exact fun a r z e => by have e : (none : Option _) = some (r, z) := e; cases e
  | succ n ih =>
    intro a
    show KN (B_X3_choice_7 N ro (LP_X3_choice_7 N ro n) a.1 a.2.1 a.2.2.1 a.2.2.2.1 a.2.2.2.2) a.2.2.2.2
    exact kn_B_X3_choice_7 h_ro ih
theorem kn_B_X3_choice_0 {N : Nat} {ro : Nat → Nat → Int32 → Int32 → CSt → Option (Sum Nat Int32 × CSt)} {l1 : Int32} {u : CSt} (h_ro : ∀ q z a b u, KN (ro q z a b u) u) : KN (B_X3_choice_0 N ro l1 u) u := by
  unfold B_X3_choice_0
  exact (kn_LP_X3_choice_7 h_ro _ _).tr kn_rf
theorem kn_F_X3_choice {N : Nat} {ro : Nat → Nat → Int32 → Int32 → CSt → Option (Sum Nat Int32 × CSt)} {l1 : Int32} {u : CSt} (h_ro : ∀ q z a b u, KN (ro q z a b u) u) : KN (F_X3_choice N ro l1 u) u := by
  unfold F_X3_choice
  exact (kn_B_X3_choice_0 h_ro).tr kn_rf
theorem kn_B_X3_loop_0 {N : Nat} {ro : Nat → Nat → Int32 → Int32 → CSt → Option (Sum Nat Int32 × CSt)} {l1 : Int32} {u : CSt} (h_ro : ∀ q z a b u, KN (ro q z a b u) u) : KN (B_X3_loop_0 N ro l1 u) u := by
  unfold B_X3_loop_0
  refine KN_bc (kn_F_X9_next.tr kn_rf) (fun _ _ => ?_)
  refine KN_ok ?_
  refine KN_bt (kn_G_X8_expression.tr kn_rf) (fun _ _ => ?_)
  refine KN_ok ?_
  refine KN_bc (kn_F_X6_step.tr kn_rf) (fun _ _ => ?_)
  refine KN_pc ?_
  refine KN_bt ((h_ro _ _ _ _ _).tr (fn_xI kn_rf)) (fun _ _ => ?_)
  refine KN_ok ?_
  refine KN_bc (kn_F_X6_step.tr kn_rf) (fun _ _ => ?_)
  refine KN_ok ?_
  refine KN_bc (kn_F_X6_land.tr kn_rf) (fun _ _ => ?_)
  refine KN_pc ?_
  exact KN_some (fn_xI kn_rf)
theorem kn_F_X3_loop {N : Nat} {ro : Nat → Nat → Int32 → Int32 → CSt → Option (Sum Nat Int32 × CSt)} {l1 : Int32} {u : CSt} (h_ro : ∀ q z a b u, KN (ro q z a b u) u) : KN (F_X3_loop N ro l1 u) u := by
  unfold F_X3_loop
  exact (kn_B_X3_loop_0 h_ro).tr kn_rf
theorem kn_B_X3_round_0 {N : Nat} {ro : Nat → Nat → Int32 → Int32 → CSt → Option (Sum Nat Int32 × CSt)} {l1 : Int32} {u : CSt} (h_ro : ∀ q z a b u, KN (ro q z a b u) u) : KN (B_X3_round_0 N ro l1 u) u := by
  unfold B_X3_round_0
  refine KN_pc ?_
  refine KN_pc ?_
  refine KN_ok ?_
  refine KN_bc (kn_F_X6_cost.tr (fn_xI (fn_xI kn_rf))) (fun _ _ => ?_)
  refine KN_bt ((h_ro _ _ _ _ _).tr kn_rf) (fun _ _ => ?_)
  refine KN_pc ?_
  refine KN_ok ?_
  refine KN_bc (kn_F_X6_land.tr (fn_xI kn_rf)) (fun _ _ => ?_)
  refine KN_pc ?_
  exact KN_some (fn_xI kn_rf)
theorem kn_F_X3_round {N : Nat} {ro : Nat → Nat → Int32 → Int32 → CSt → Option (Sum Nat Int32 × CSt)} {l1 : Int32} {u : CSt} (h_ro : ∀ q z a b u, KN (ro q z a b u) u) : KN (F_X3_round N ro l1 u) u := by
  unfold F_X3_round
  exact (kn_B_X3_round_0 h_ro).tr kn_rf
theorem kn_B_X3_counted_71 {N : Nat} {ro : Nat → Nat → Int32 → Int32 → CSt → Option (Sum Nat Int32 × CSt)} {l1 : Int32} {l2 : Int32} {l3 : Nat} {u : CSt} (h_ro : ∀ q z a b u, KN (ro q z a b u) u) : KN (B_X3_counted_71 N ro l1 l2 l3 u) u := by
  unfold B_X3_counted_71
  refine KN_bc (kn_F_X9_next.tr kn_rf) (fun _ _ => ?_)
  refine KN_bt (kn_F_X3_setPlain.tr kn_rf) (fun _ _ => ?_)
  refine KN_bc (kn_F_X8_set.tr kn_rf) (fun _ _ => ?_)
  refine KN_bc (kn_F_X9_next.tr kn_rf) (fun _ _ => ?_)
  refine KN_bt (kn_G_X8_expression.tr kn_rf) (fun _ _ => ?_)
  refine KN_ok ?_
  refine KN_bc (kn_F_X8_get.tr kn_rf) (fun _ _ => ?_)
  refine KN_ok ?_
  refine KN_bc (kn_F_X6_step.tr kn_rf) (fun _ _ => ?_)
  refine KN_pc ?_
  refine KN_bt ((h_ro _ _ _ _ _).tr (fn_xI kn_rf)) (fun _ _ => ?_)
  refine KN_bc (kn_F_X8_get.tr kn_rf) (fun _ _ => ?_)
  refine KN_ok ?_
  refine KN_bc (kn_F_X6_step.tr kn_rf) (fun _ _ => ?_)
  refine KN_pc ?_
  refine KN_bc (kn_F_X8_get.tr (fn_xI kn_rf)) (fun _ _ => ?_)
  refine KN_ok ?_
  refine KN_bc (kn_F_X6_constant.tr kn_rf) (fun _ _ => ?_)
  refine KN_bc (kn_F_X8_combine.tr kn_rf) (fun _ _ => ?_)
  refine KN_bc (kn_F_X8_set.tr kn_rf) (fun _ _ => ?_)
  refine KN_ok ?_
  refine KN_bc (kn_F_X6_step.tr kn_rf) (fun _ _ => ?_)
  refine KN_ok ?_
  refine KN_bc (kn_F_X6_land.tr kn_rf) (fun _ _ => ?_)
  refine KN_pc ?_
  refine KN_ok ?_
  refine KN_bc (kn_F_X6_step.tr (fn_xI kn_rf)) (fun _ _ => ?_)
  exact KN_some kn_rf
theorem kn_B_X3_counted_62 {N : Nat} {ro : Nat → Nat → Int32 → Int32 → CSt → Option (Sum Nat Int32 × CSt)} {l1 : Int32} {l2 : Int32} {l3 : Nat} {u : CSt} (h_ro : ∀ q z a b u, KN (ro q z a b u) u) : KN (B_X3_counted_62 N ro l1 l2 l3 u) u := by
  unfold B_X3_counted_62
  refine KN_bt (kn_F_X9_refuse.tr kn_rf) (fun _ _ => ?_)
  exact (kn_B_X3_counted_71 h_ro).tr kn_rf
theorem kn_B_X3_counted_41 {N : Nat} {ro : Nat → Nat → Int32 → Int32 → CSt → Option (Sum Nat Int32 × CSt)} {l1 : Int32} {l2 : Int32} {l3 : Nat} {u : CSt} (h_ro : ∀ q z a b u, KN (ro q z a b u) u) : KN (B_X3_counted_41 N ro l1 l2 l3 u) u := by
  unfold B_X3_counted_41
  refine KN_bc (kn_F_X4_hasNumbers.tr kn_rf) (fun _ _ => ?_)
  refine KN_if ?_ ?_
  · skip
    exact (kn_B_X3_counted_62 h_ro).tr kn_rf
  · skip
    refine KN_if ?_ ?_
    · skip
      refine KN_bc (kn_F_X4_isInput.tr kn_rf) (fun _ _ => ?_)
      refine KN_if ?_ ?_
      · skip
        exact (kn_B_X3_counted_71 h_ro).tr kn_rf
      · skip
        exact (kn_B_X3_counted_62 h_ro).tr kn_rf
    · skip
      exact (kn_B_X3_counted_62 h_ro).tr kn_rf
theorem kn_B_X3_counted_0 {N : Nat} {ro : Nat → Nat → Int32 → Int32 → CSt → Option (Sum Nat Int32 × CSt)} {l1 : Int32} {u : CSt} (h_ro : ∀ q z a b u, KN (ro q z a b u) u) : KN (B_X3_counted_0 N ro l1 u) u := by
  unfold B_X3_counted_0
  refine KN_bc (kn_F_X9_next.tr kn_rf) (fun _ _ => ?_)
  refine KN_bc (kn_F_X9_here.tr kn_rf) (fun _ _ => ?_)
  refine KN_bc (kn_F_X8_known.tr kn_rf) (fun _ _ => ?_)
  refine KN_ok ?_
  refine KN_if ?_ ?_
  · skip
    refine KN_bt (kn_F_X9_refuse.tr kn_rf) (fun _ _ => ?_)
    exact (kn_B_X3_counted_41 h_ro).tr kn_rf
  · skip
    exact (kn_B_X3_counted_41 h_ro).tr kn_rf
theorem kn_F_X3_counted {N : Nat} {ro : Nat → Nat → Int32 → Int32 → CSt → Option (Sum Nat Int32 × CSt)} {l1 : Int32} {u : CSt} (h_ro : ∀ q z a b u, KN (ro q z a b u) u) : KN (F_X3_counted N ro l1 u) u := by
  unfold F_X3_counted
  exact (kn_B_X3_counted_0 h_ro).tr kn_rf
theorem kn_B_X3_cases_176 {N : Nat} {ro : Nat → Nat → Int32 → Int32 → CSt → Option (Sum Nat Int32 × CSt)} {l2 : Int32} {u : CSt} (h_ro : ∀ q z a b u, KN (ro q z a b u) u) : KN (B_X3_cases_176 N ro l2 u) u := by
  unfold B_X3_cases_176
  refine KN_bc (kn_F_X9_next.tr kn_rf) (fun _ _ => ?_)
  refine KN_ok ?_
  refine KN_bc (kn_F_X6_land.tr kn_rf) (fun _ _ => ?_)
  exact KN_some kn_rf
theorem kn_B_X3_cases_140 {N : Nat} {ro : Nat → Nat → Int32 → Int32 → CSt → Option (Sum Nat Int32 × CSt)} {l1 : Int32} {l2 : Int32} {u : CSt} (h_ro : ∀ q z a b u, KN (ro q z a b u) u) : KN (B_X3_cases_140 N ro l1 l2 u) u := by
  unfold B_X3_cases_140
  refine KN_ok ?_
  refine KN_bc (kn_F_X6_step.tr kn_rf) (fun _ _ => ?_)
  refine KN_bc (kn_F_X9_is.tr kn_rf) (fun _ _ => ?_)
  refine KN_if ?_ ?_
  · skip
    exact (kn_B_X3_cases_176 h_ro).tr kn_rf
  · skip
    refine KN_bc (kn_F_X9_next.tr kn_rf) (fun _ _ => ?_)
    refine KN_bt ((h_ro _ _ _ _ _).tr kn_rf) (fun _ _ => ?_)
    exact (kn_B_X3_cases_176 h_ro).tr kn_rf
theorem kn_B_X3_cases_26 {N : Nat} {ro : Nat → Nat → Int32 → Int32 → CSt → Option (Sum Nat Int32 × CSt)} {R_26 : Int32 × Int32 × Int32 × CSt → Option ((Sum Nat Int32) × CSt)} {l1 : Int32} {l2 : Int32} {l3 : Int32} {u : CSt} (h_ro : ∀ q z a b u, KN (ro q z a b u) u) (h_R_26 : ∀ a, KN (R_26 a) a.2.2.2) : KN (B_X3_cases_26 N ro R_26 l1 l2 l3 u) u := by
  unfold B_X3_cases_26
  refine KN_if ?_ ?_
  · skip
    exact (kn_B_X3_cases_140 h_ro).tr kn_rf
  · skip
    refine KN_bc (kn_F_X9_is.tr kn_rf) (fun _ _ => ?_)
    refine KN_if ?_ ?_
    · skip
      exact (kn_B_X3_cases_140 h_ro).tr kn_rf
    · skip
      refine KN_ok ?_
      refine KN_bt (kn_F_X3_labels.tr kn_rf) (fun _ _ => ?_)
      refine KN_ok ?_
      refine KN_bc (kn_F_X6_step.tr kn_rf) (fun _ _ => ?_)
      refine KN_ok ?_
      refine KN_bc (kn_F_X6_step.tr kn_rf) (fun _ _ => ?_)
      refine KN_ok ?_
      refine KN_bc (kn_F_X6_step.tr kn_rf) (fun _ _ => ?_)
      refine KN_bt ((h_ro _ _ _ _ _).tr kn_rf) (fun _ _ => ?_)
      refine KN_ok ?_
      refine KN_bc (kn_F_X6_step.tr kn_rf) (fun _ _ => ?_)
      refine KN_ok ?_
      refine KN_bc (kn_F_X6_land.tr kn_rf) (fun _ _ => ?_)
      exact (h_R_26 _).tr kn_rf
theorem kn_LP_X3_cases_26 {N : Nat} {ro : Nat → Nat → Int32 → Int32 → CSt → Option (Sum Nat Int32 × CSt)} (h_ro : ∀ q z a b u, KN (ro q z a b u) u) (n : Nat) : ∀ a : Int32 × Int32 × Int32 × CSt, KN (LP_X3_cases_26 N ro n a) a.2.2.2 := by
  induction n with
  | zero => exact fun a r z e => by have e : (none : Option _) = some (r, z) := e; cases e
  | succ n ih =>
    intro a
    show KN (B_X3_cases_26 N ro (LP_X3_cases_26 N ro n) a.1 a.2.1 a.2.2.1 a.2.2.2) a.2.2.2
    exact kn_B_X3_cases_26 h_ro ih
theorem kn_B_X3_cases_0 {N : Nat} {ro : Nat → Nat → Int32 → Int32 → CSt → Option (Sum Nat Int32 × CSt)} {l1 : Int32} {u : CSt} (h_ro : ∀ q z a b u, KN (ro q z a b u) u) : KN (B_X3_cases_0 N ro l1 u) u := by
  unfold B_X3_cases_0
  refine KN_bc (kn_F_X9_next.tr kn_rf) (fun _ _ => ?_)
  refine KN_bt (kn_G_X8_expression.tr kn_rf) (fun _ _ => ?_)
  refine KN_bc (kn_F_X9_next.tr kn_rf) (fun _ _ => ?_)
  exact (kn_LP_X3_cases_26 h_ro _ _).tr kn_rf
theorem kn_F_X3_cases {N : Nat} {ro : Nat → Nat → Int32 → Int32 → CSt → Option (Sum Nat Int32 × CSt)} {l1 : Int32} {u : CSt} (h_ro : ∀ q z a b u, KN (ro q z a b u) u) : KN (F_X3_cases N ro l1 u) u := by
  unfold F_X3_cases
  exact (kn_B_X3_cases_0 h_ro).tr kn_rf
theorem kn_FMS_ {N : Nat} : ∀ (d q z : Nat) (a b : Int32) (u : CSt), KN (FMS_ N d q z a b u) u := by
  intro d
  induction d with
  | zero => exact fun q z a b u => KN_none
  | succ d ih =>
    intro q z a b u
    show KN (if q = 0 then F_X3_body N (FMS_ N d) u else if q = 1 then F_X3_statements N (FMS_ N d) u else if q = 2 then F_X3_statement N (FMS_ N d) u else if q = 3 then F_X3_choice N (FMS_ N d) a u else if q = 4 then F_X3_loop N (FMS_ N d) a u else if q = 5 then F_X3_round N (FMS_ N d) a u else if q = 6 then F_X3_counted N (FMS_ N d) a u else if q = 7 then F_X3_cases N (FMS_ N d) a u else none) u
    refine KN_if (kn_F_X3_body ih) ?_
    refine KN_if (kn_F_X3_statements ih) ?_
    refine KN_if (kn_F_X3_statement ih) ?_
    refine KN_if (kn_F_X3_choice ih) ?_
    refine KN_if (kn_F_X3_loop ih) ?_
    refine KN_if (kn_F_X3_round ih) ?_
    refine KN_if (kn_F_X3_counted ih) ?_
    refine KN_if (kn_F_X3_cases ih) ?_
    exact KN_none
theorem kn_G_X3_statements {N : Nat} {u : CSt} : KN (G_X3_statements N u) u := kn_FMS_ _ _ _ _ _ _
/-- a routine is open -/
def ow8 (u : CSt) : Prop := 0 ≤ (pI u (cR u 2) 15).toInt ∧ (pI u (cR u 2) 15).toInt < (pI u (cR u 2) 12).toInt ∧ (pI u (cR u 2) 15).toInt < 160
section KnH
variable {α β γ : Type} {u v w : CSt} {N q m : Nat} {l1 l2 l3 l4 : Int32} {y2 : Int64}
theorem ow8.fr (h : ow8 u) (hk : kn u w) : ow8 w := by
  unfold ow8 at h ⊢
  have := hk.2.2.2 (cR u 2)
  rw [hk.2.1, hk.2.2.1]
  exact ⟨h.1, by omega, h.2.2⟩
theorem n_bc {x : Option (α × CSt)} {k : α → CSt → Option (β × CSt)} {Q : β → CSt → Prop} (hx : KN x w) (hw : kn u w) (h : ∀ r z, kn u z → pq (k r z) Q) : pq (bc x k) Q := pq_bc (pq_m hx.p (fun r z hz => h r z (kn_tr hw hz)))
theorem n_bt {x : Option (Sum Nat α × CSt)} {k : α → CSt → Option (Sum Nat β × CSt)} (hx : KN x w) (hw : kn u w) (h : ∀ r z, kn u z → pq (k r z) (fun _ z' => kn u z')) : pq (bt x k) (fun _ z' => kn u z') := pq_bt (pq_m hx.p (fun y z hz => ⟨fun e _ => kn_tr hw hz, fun b _ => h b z (kn_tr hw hz)⟩))
theorem h_become {l2 : Int64} (hm : m % 169 < 160) (hw : kn u w) : pq (F_X4_become N m l1 l2 l4 w) (fun _ z => kn u z) := by
  unfold F_X4_become B_X4_become_0
  exact pq_some (fn_xmI hm (fn_xmI hm (fn_xmI hm (fn_xmI hm (fn_xmL hm (fn_xmI hm (fn_xmI hm (fn_xmI hm (fn_xmI hm (fn_xmI hm (fn_xmI hm (fn_xmI hm (fn_xmI hm (fn_xmL hm hw))))))))))))))
theorem h_name : pq (F_X6_name N q l1 u) (fun r w => w = u ∧ (0 ≤ l1.toInt → l1.toInt < (pI u q 12).toInt → r = 169 * q + l1.toNatClampNeg)) := by
  have e0 : (0 : Int32).toInt = 0 := by decide
  unfold F_X6_name B_X6_name_0
  refine pq_if (fun c => pq_some ⟨rfl, fun a b => ?_⟩) (fun c => pq_if (fun c2 => pq_some ⟨rfl, fun a b => ?_⟩) (fun c2 => pq_ix (fun _ => pq_some ⟨rfl, fun _ _ => rfl⟩)))
  · have := Int32.lt_iff_toInt_lt.mp c
    omega
  · have := Int32.le_iff_toInt_le.mp c2
    omega
theorem h_room : pq (F_X6_hasRoomFor N q l1 u) (fun r w => w = u ∧ (¬ r = 0 → pI u q 12 < 160)) := by
  unfold F_X6_hasRoomFor B_X6_hasRoomFor_0 B_X6_hasRoomFor_58
  refine pq_if (fun c => ?_) (fun c => pq_some ⟨rfl, fun z => absurd rfl z⟩)
  refine pq_if (fun c1 => ?_) (fun c1 => pq_if (fun c2 => pq_some ⟨rfl, fun _ => c⟩) (fun c2 => pq_rd (pq_rd (pq_if (fun _ => pq_some ⟨rfl, fun _ => c⟩) (fun _ => pq_some ⟨rfl, fun _ => c⟩)))))
  refine pq_bc (pq_m h_name (fun r w hw => ?_))
  rw [hw.1]
  exact pq_ok (fun _ => pq_if (fun _ => pq_some ⟨rfl, fun _ => c⟩) (fun _ => pq_some ⟨rfl, fun _ => c⟩))
/-- the told rises by one -/
theorem h_told {a : Int32} (hm : m % 169 < 160) (hT : 0 ≤ a.toInt ∧ a.toInt < 160) (hw : kn u w) (h12 : pI w q 12 = a) (h3 : mI w m 3 = a) : kn u (xpI w q 12 (pI w q 12 + 1)) ∧ (mI (xpI w q 12 (pI w q 12 + 1)) m 3).toInt = a.toInt ∧ (pI (xpI w q 12 (pI w q 12 + 1)) q 12).toInt = a.toInt + 1 := by
  have e1 : (1 : Int32).toInt = 1 := by decide
  have ea : (pI w q 12 + 1).toInt = a.toInt + 1 := by rw [h12, tI_add (by omega) (by omega), e1]
  have e12 : pI (xpI w q 12 (pI w q 12 + 1)) q 12 = pI w q 12 + 1 := by
    show (if q = q then (if 12 = 12 then _ else _) else _) = _
    rw [if_pos rfl, if_pos rfl]
  refine ⟨kn_tr hw ⟨fun _ _ _ => ⟨rfl, rfl⟩, rfl, fun p => ?_, fun p => ?_⟩, ?_, by rw [e12, ea]⟩
  · show (if p = q then (if 15 = 12 then _ else pI w p 15) else pI w p 15) = _
    by_cases z : p = q
    · rw [if_pos z, if_neg (by decide)]
    · rw [if_neg z]
  · show _ ≤ (if p = q then (if 12 = 12 then pI w q 12 + 1 else pI w p 12) else pI w p 12).toInt
    by_cases z : p = q
    · rw [if_pos z, if_pos rfl, ea, z, h12]
      omega
    · rw [if_neg z]
      exact Int.le_refl _
  · show (mI w m 3).toInt = _
    rw [h3]
theorem h_mI {a : Int32} {k : Nat} : mI (xmI w m k a) m k = a := by
  show (if m = m then (if k = k then a else _) else _) = a
  rw [if_pos rfl, if_pos rfl]
theorem h_mI2 {a : Int32} {k j : Nat} (h : j ≠ k) : mI (xmI w m k a) m j = mI w m j := by
  show (if m = m then (if j = k then a else _) else _) = _
  rw [if_pos rfl, if_neg h]
theorem pq_and {x : Option (β × CSt)} {Q Q' : β → CSt → Prop} (h : pq x Q) (h2 : pq x Q') : pq x (fun r w => Q r w ∧ Q' r w) := fun r w e => ⟨h r w e, h2 r w e⟩
theorem h_become12 {l2 : Int64} : pq (F_X4_become N m l1 l2 l4 u) (fun _ z => ∀ q, pI z q 12 = pI u q 12) := by
  unfold F_X4_become B_X4_become_0
  exact pq_some (fun _ => rfl)
theorem h_next : pq (F_X9_next N u) (fun _ z => z = u ∨ ∃ t, z = xI u 5 t) := by
  unfold F_X9_next B_X9_next_0
  exact pq_if (fun _ => pq_some (Or.inl rfl)) (fun _ => pq_pc (pq_some (Or.inr ⟨_, rfl⟩)))
/-- adding a name -/
theorem h_add {l2 : Int64} (hw : kn u w) (hT : pI w q 12 < 160) : pq (F_X6_add N q l1 l2 l4 w) (fun r z => kn u z ∧ r % 169 < 160 ∧ (mI z r 3).toInt = (pI w q 12).toInt ∧ 0 ≤ (pI w q 12).toInt ∧ (pI w q 12).toInt < 160 ∧ (pI z q 12).toInt = (pI w q 12).toInt + 1) := by
  have e160 : (160 : Int32).toInt = 160 := by decide
  have hlt := Int32.lt_iff_toInt_lt.mp hT
  rw [e160] at hlt
  unfold F_X6_add B_X6_add_0
  rw [if_pos hT]
  refine pq_ix (fun hv => ?_)
  have h0 := (vin_iff.mp hv).1
  have hn : (pI w q 12).toNatClampNeg = (pI w q 12).toInt.toNat := rfl
  have hm : (169 * q + (pI w q 12).toNatClampNeg) % 169 < 160 := by rw [hn]; omega
  refine pq_bc (pq_m (pq_and (h_become hm hw) (h_become12 (u := w))) (fun _ z hz => ?_))
  obtain ⟨g1, g2⟩ := hz
  generalize he : 169 * q + (pI w q 12).toNatClampNeg = m at hm ⊢
  refine pq_pc (pq_if (fun c => ?_) (fun c => ?_))
  · unfold B_X6_add_86
    obtain ⟨k1, k2, k3⟩ := h_told (q := q) (a := pI w q 12) (u := u) (w := xmI z m 3 (pI z q 12)) hm ⟨h0, hlt⟩ (fn_xmI hm g1) (g2 q) (by rw [h_mI]; exact g2 q)
    exact pq_some ⟨k1, hm, k2, h0, hlt, k3⟩
  · refine pq_rd (pq_pc (pq_ix (fun _ => pq_wc (pq_rd (pq_wc ?_)))))
    unfold B_X6_add_86
    refine pq_pc ?_
    obtain ⟨k1, k2, k3⟩ := h_told (q := q) (a := pI w q 12) (u := u) (w := xpA (xpA (xmI (xmI z m 3 (pI z q 12)) m 4 (pA (xmI z m 3 (pI z q 12)) q 9 l1.toNatClampNeg)) q (4 + l1.toNatClampNeg) (mI (xmI (xmI z m 3 (pI z q 12)) m 4 (pA (xmI z m 3 (pI z q 12)) q 9 l1.toNatClampNeg)) m 4).toNatClampNeg (pI (xmI (xmI z m 3 (pI z q 12)) m 4 (pA (xmI z m 3 (pI z q 12)) q 9 l1.toNatClampNeg)) q 12)) q 9 l1.toNatClampNeg (pA (xpA (xmI (xmI z m 3 (pI z q 12)) m 4 (pA (xmI z m 3 (pI z q 12)) q 9 l1.toNatClampNeg)) q (4 + l1.toNatClampNeg) (mI (xmI (xmI z m 3 (pI z q 12)) m 4 (pA (xmI z m 3 (pI z q 12)) q 9 l1.toNatClampNeg)) m 4).toNatClampNeg (pI (xmI (xmI z m 3 (pI z q 12)) m 4 (pA (xmI z m 3 (pI z q 12)) q 9 l1.toNatClampNeg)) q 12)) q 9 l1.toNatClampNeg + 1)) hm ⟨h0, hlt⟩ (fn_xpA (fn_xpA (fn_xmI hm (fn_xmI hm g1)))) (g2 q) (by
      show mI (xmI (xmI z m 3 (pI z q 12)) m 4 _) m 3 = _
      rw [h_mI2 (by decide), h_mI]
      exact g2 q)
    exact pq_some ⟨k1, hm, k2, h0, hlt, k3⟩
/-- a new name: it lies below 160 -/
theorem h_new (hw : kn u w) : pq (F_X3_newName N l1 w) (fun y z => kn u z ∧ ∀ r, y = .inr r → r % 169 < 160 ∧ 0 ≤ (mI z r 3).toInt ∧ (mI z r 3).toInt < (pI z (cR z 2) 12).toInt ∧ (mI z r 3).toInt < 160) := by
  have ref : ∀ (a p : Int32) (z : CSt) (k : Int32 → CSt → Option (Sum Nat Nat × CSt)), kn u z → pq (bt (F_X9_refuse N a p z) k) (fun y z => kn u z ∧ ∀ r, y = .inr r → r % 169 < 160 ∧ 0 ≤ (mI z r 3).toInt ∧ (mI z r 3).toInt < (pI z (cR z 2) 12).toInt ∧ (mI z r 3).toInt < 160) := fun a p z k hz => pq_refuse ⟨fn_xI (fn_xI hz), fun r e => nomatch e⟩
  have b108 : ∀ (a b : Int64) (c : Int32) (z : CSt), kn u z → pI z (cR z 2) 12 < 160 → pq (B_X3_newName_108 N l1 a c z) (fun y z => kn u z ∧ ∀ r, y = .inr r → r % 169 < 160 ∧ 0 ≤ (mI z r 3).toInt ∧ (mI z r 3).toInt < (pI z (cR z 2) 12).toInt ∧ (mI z r 3).toInt < 160) := by
    intro a b c z hz h12
    unfold B_X3_newName_108
    refine pq_bc (pq_m h_next (fun _ z1 hz1 => ?_))
    have k1 : kn u z1 := by
      rcases hz1 with e | ⟨t, e⟩
      · rw [e]; exact hz
      · rw [e]; exact hz
    have p1 : pI z1 (cR z1 2) 12 < 160 := by
      rcases hz1 with e | ⟨t, e⟩
      · rw [e]; exact h12
      · rw [e]; exact h12
    refine pq_ok (fun _ => pq_bc (pq_m (h_add k1 p1) (fun r z2 hz2 => pq_ok (fun _ => pq_some ⟨hz2.1, fun r' e => ?_⟩))))
    cases e
    obtain ⟨g1, g2, g3, g4, g5, g6⟩ := hz2
    have ec : cR z2 2 = cR z1 2 := by rw [g1.2.1, k1.2.1]
    rw [ec, g6, g3]
    exact ⟨g2, g4, by omega, g5⟩
  have b88 : ∀ (a : Int32) (b : Int64) (c : Int32) (z : CSt), kn u z → pq (B_X3_newName_88 N l1 a b c z) (fun y z => kn u z ∧ ∀ r, y = .inr r → r % 169 < 160 ∧ 0 ≤ (mI z r 3).toInt ∧ (mI z r 3).toInt < (pI z (cR z 2) 12).toInt ∧ (mI z r 3).toInt < 160) := by
    intro a b c z hz
    unfold B_X3_newName_88
    refine pq_ok (fun _ => pq_bc (pq_m h_room (fun r z1 hz1 => ?_)))
    rw [hz1.1]
    exact pq_if (fun _ => ref _ _ _ _ hz) (fun c => b108 _ b _ _ hz (hz1.2 c))
  have b67 : ∀ (a : Int32) (b : Int64) (c : Int32) (s0 : Nat) (z : CSt), kn u z → pq (B_X3_newName_67 N l1 a b c s0 z) (fun y z => kn u z ∧ ∀ r, y = .inr r → r % 169 < 160 ∧ 0 ≤ (mI z r 3).toInt ∧ (mI z r 3).toInt < (pI z (cR z 2) 12).toInt ∧ (mI z r 3).toInt < 160) := by
    intro a b c s0 z hz
    unfold B_X3_newName_67
    exact pq_if (fun _ => b88 _ _ _ _ hz) (fun _ => ref _ _ _ _ hz)
  unfold F_X3_newName B_X3_newName_0
  refine n_bc kn_F_X9_here hw (fun _ z1 h1 => n_bc kn_F_X9_head h1 (fun _ z2 h2 => n_bc kn_F_X9_tail h2 (fun _ z3 h3 => ?_)))
  refine pq_if (fun _ => pq_ok (fun _ => ?_)) (fun _ => pq_ok (fun _ => ?_))
  · exact n_bc kn_F_X6_name h3 (fun _ z4 h4 => pq_ok (fun _ => n_bc kn_F_X6_localCalled h4 (fun _ z5 h5 => pq_ok (fun _ => b67 _ _ _ _ _ h5))))
  · exact n_bc kn_F_X6_ofText h3 (fun _ z4 h4 => pq_ok (fun _ => b67 _ _ _ _ _ h4))
theorem n_new {k : Nat → CSt → Option (Sum Nat Int32 × CSt)} (hw : kn u w) (h : ∀ r z, kn u z → r % 169 < 160 → 0 ≤ (mI z r 3).toInt → (mI z r 3).toInt < (pI z (cR z 2) 12).toInt → (mI z r 3).toInt < 160 → pq (k r z) (fun _ z' => kn u z')) : pq (bt (F_X3_newName N l1 w) k) (fun _ z' => kn u z') := pq_bt (pq_m (h_new hw) (fun y z hz => ⟨fun _ _ => hz.1, fun b e => (by obtain ⟨a1, a2, a3, a4⟩ := hz.2 b e; exact h b z hz.1 a1 a2 a3 a4)⟩))
theorem h_join {l1 : Nat} (ho : ow8 w) (h1 : l1 % 169 < 160) (hw : kn u w) : pq (F_X3_join N l1 l2 w) (fun _ z => kn u z) := by
  unfold F_X3_join B_X3_join_0
  refine pq_ok (fun hq => pq_bc (pq_m h_name (fun r z hz => ?_)))
  obtain ⟨e, hr⟩ := hz
  rw [e]
  have hr := hr ho.1 ho.2.1
  have hn : (pI w (cR w 2) 15).toNatClampNeg = (pI w (cR w 2) 15).toInt.toNat := rfl
  have o3 := ho.2.2
  have o1 := ho.1
  have hm : r % 169 < 160 := by rw [hr, hn]; omega
  have k1 : kn u (xmI (xmI (xmI w l1 9 (mI w r 7)) r 7 ((mI (xmI w l1 9 (mI w r 7)) r 7) + (mI (xmI w l1 9 (mI w r 7)) l1 7))) r 12 ((mI (xmI (xmI w l1 9 (mI w r 7)) r 7 ((mI (xmI w l1 9 (mI w r 7)) r 7) + (mI (xmI w l1 9 (mI w r 7)) l1 7))) r 12) + 1)) := fn_xmI hm (fn_xmI hm (fn_xmI h1 hw))
  have b64 : ∀ (s1 s2 : Int32) (z : CSt), kn u z → pq (B_X3_join_64 N l2 r r s1 s2 z) (fun _ z => kn u z) := by
    intro s1 s2 z hz
    unfold B_X3_join_64
    exact pq_pc (pq_if (fun _ => pq_some (fn_xmI hm hz)) (fun _ => pq_refuse (fn_xI (fn_xI (fn_xmI hm hz)))))
  refine pq_ok (fun _ => pq_pc (pq_pc (pq_pc (pq_if (fun _ => b64 _ _ _ k1) (fun _ => b64 _ _ _ k1)))))
theorem h_one (ho : l1 = 0 ∨ ow8 w) (hw : kn u w) (hu : u = w) : pq (F_X3_oneVariable N l1 l2 l3 w) (fun _ z => kn u z) := by
  have ow : ∀ z, kn u z → l1 = 0 ∨ ow8 z := fun z hz => ho.imp id (fun o => by rw [← hu] at o; exact o.fr hz)
  have b112 : ∀ (a : Int32) (m : Nat) (z : CSt), m % 169 < 160 → kn u z → pq (B_X3_oneVariable_112 N l1 l3 a m z) (fun _ z => kn u z) := by
    intro a m z hm hz
    unfold B_X3_oneVariable_112
    refine pq_if (fun _ => pq_pc ?_) (fun c => ?_)
    · exact n_bt kn_F_X3_allot (fn_xmI hm hz) (fun _ z2 h2 => pq_some h2)
    · refine pq_bt (pq_m (h_join ((ow z hz).resolve_left c) hm hz) (fun y z2 h2 => ⟨fun _ _ => h2, fun _ _ => pq_some h2⟩))
  have b83 : ∀ (a : Int32) (m : Nat) (z : CSt), m % 169 < 160 → kn u z → pq (B_X3_oneVariable_83 N l1 l3 a m z) (fun _ z => kn u z) := by
    intro a m z hm hz
    unfold B_X3_oneVariable_83
    refine n_bc kn_F_X9_is hz (fun _ z1 h1 => pq_if (fun _ => b112 _ _ _ hm h1) (fun _ => n_bc kn_F_X9_next h1 (fun _ z2 h2 => ?_)))
    exact n_bt kn_F_X3_constant h2 (fun _ z3 h3 => pq_pc (b112 _ _ _ hm (fn_xmL hm h3)))
  unfold F_X3_oneVariable B_X3_oneVariable_0
  refine n_bc kn_F_X9_here hw (fun _ z1 h1 => n_new h1 (fun r z2 h2 hr _ _ _ => pq_ok (fun _ => pq_pc (pq_pc (pq_pc ?_)))))
  refine n_bc kn_F_X9_is (fn_xmI hr (fn_xmI hr (fn_xmI hr h2))) (fun _ z3 h3 => pq_if (fun _ => b83 _ _ _ hr h3) (fun _ => n_bc kn_F_X9_next h3 (fun _ z4 h4 => pq_pc ?_)))
  exact n_bt kn_F_X9_takeBounded (fn_xmI hr h4) (fun _ z5 h5 => pq_pc (n_bc kn_F_X9_next (fn_xmI hr h5) (fun _ z6 h6 => b83 _ _ _ hr h6)))
theorem h_oneK (ho : l1 = 0 ∨ ow8 w) : KN (F_X3_oneVariable N l1 l2 l3 w) w := h_one ho kn_rf rfl
theorem h_varL : ∀ (M : Nat) (l1 l2 l3 l4 : Int32) (w : CSt), (l1 = 0 ∨ ow8 w) → KN (LP_X3_variables_18 N M (l1, l2, l3, l4, w)) w := by
  intro M
  induction M with
  | zero => intro l1 l2 l3 l4 w _ r z e; cases e
  | succ M ih =>
    intro l1 l2 l3 l4 w ho
    have b58 : ∀ z, kn w z → pq (B_X3_variables_58 N z) (fun _ z' => kn w z') := by
      intro z hz
      unfold B_X3_variables_58
      exact n_bc kn_F_X9_next hz (fun _ z2 h2 => pq_some h2)
    show pq (B_X3_variables_18 N (LP_X3_variables_18 N M) l1 l2 l3 l4 w) (fun _ z' => kn w z')
    unfold B_X3_variables_18
    refine pq_if (fun _ => b58 _ kn_rf) (fun _ => n_bc kn_F_X9_is kn_rf (fun _ z1 h1 => pq_if (fun _ => b58 _ h1) (fun _ => n_bc kn_F_X9_next h1 (fun _ z2 h2 => ?_))))
    refine n_bt (h_oneK (ho.imp id (fun o => o.fr h2))) h2 (fun _ z3 h3 => ?_)
    exact ((ih l1 l2 l3 (l4 + 1) z3 (ho.imp id (fun o => o.fr h3))).tr h3).p
theorem h_vars (ho : l1 = 0 ∨ ow8 w) : KN (F_X3_variables N l1 l2 w) w := by
  have : pq (F_X3_variables N l1 l2 w) (fun _ z' => kn w z') := by
    unfold F_X3_variables B_X3_variables_0
    refine n_bc kn_F_X9_takeKind kn_rf (fun r z1 h1 => n_bt (h_oneK (ho.imp id (fun o => o.fr h1))) h1 (fun _ z2 h2 => ?_))
    exact ((h_varL N l1 l2 r 0 z2 (ho.imp id (fun o => o.fr h2))).tr h2).p
  exact this
theorem h_placed : KN (F_X3_placed N l1 w) w := by
  have : pq (F_X3_placed N l1 w) (fun _ z' => kn w z') := by
    unfold F_X3_placed B_X3_placed_0
    refine n_bc kn_F_X9_takeKind kn_rf (fun _ z1 h1 => n_new h1 (fun r z2 h2 hr _ _ _ => pq_ok (fun _ => pq_pc (pq_pc (pq_pc ?_)))))
    refine n_bc kn_F_X9_next (fn_xmI hr (fn_xmI hr (fn_xmI hr h2))) (fun _ z3 h3 => pq_rd (n_bt kn_F_X9_takeBounded h3 (fun _ z4 h4 => pq_pc ?_)))
    exact n_bc kn_F_X9_next (fn_xmI hr h4) (fun _ z5 h5 => pq_some h5)
  exact this
theorem h_useL : ∀ (M : Nat) (l1 : Nat) (l2 l4 : Int32) (w : CSt), KN (LP_X3_oneUse_33 N M (l1, l2, l4, w)) w := by
  intro M
  induction M with
  | zero => intro l1 l2 l4 w r z e; cases e
  | succ M ih =>
    intro l1 l2 l4 w
    show pq (B_X3_oneUse_33 N (LP_X3_oneUse_33 N M) l1 l2 l4 w) (fun _ z' => kn w z')
    unfold B_X3_oneUse_33
    refine pq_if (fun _ => pq_some kn_rf) (fun _ => pq_ok (fun _ => n_bc kn_F_X6_local kn_rf (fun _ z1 h1 => pq_ok (fun _ => n_bt kn_F_X3_allot h1 (fun _ z2 h2 => ?_)))))
    exact ((ih l1 l2 (l4 + 1) z2).tr h2).p
theorem h_use1 {l1 : Nat} : KN (F_X3_oneUse N l1 w) w := by
  have : pq (F_X3_oneUse N l1 w) (fun _ z' => kn w z') := by
    unfold F_X3_oneUse B_X3_oneUse_0
    refine n_bc kn_F_X9_here kn_rf (fun _ z1 h1 => n_new h1 (fun r z2 h2 hr _ _ _ => pq_ok (fun _ => pq_pc (pq_pc ?_))))
    exact ((h_useL N _ _ _ _).tr (fn_xmI hr (fn_xmI hr h2))).p
  exact this
theorem h_usesL : ∀ (M : Nat) (l1 : Nat) (l2 : Int32) (w : CSt), KN (LP_X3_uses_45 N M (l1, l2, w)) w := by
  intro M
  induction M with
  | zero => intro l1 l2 w r z e; cases e
  | succ M ih =>
    intro l1 l2 w
    have b82 : ∀ z, kn w z → pq (B_X3_uses_82 N z) (fun _ z' => kn w z') := by
      intro z hz
      unfold B_X3_uses_82
      exact n_bc kn_F_X9_next hz (fun _ z2 h2 => pq_some h2)
    show pq (B_X3_uses_45 N (LP_X3_uses_45 N M) l1 l2 w) (fun _ z' => kn w z')
    unfold B_X3_uses_45
    refine pq_if (fun _ => b82 _ kn_rf) (fun _ => n_bc kn_F_X9_is kn_rf (fun _ z1 h1 => pq_if (fun _ => b82 _ h1) (fun _ => n_bc kn_F_X9_next h1 (fun _ z2 h2 => n_bt h_use1 h2 (fun _ z3 h3 => ?_)))))
    exact ((ih l1 (l2 + 1) z3).tr h3).p
theorem h_uses : KN (F_X3_uses N w) w := by
  have b31 : ∀ (m : Nat) z, kn w z → pq (B_X3_uses_31 N m z) (fun _ z' => kn w z') := by
    intro m z hz
    unfold B_X3_uses_31
    exact n_bc kn_F_X9_next hz (fun _ z2 h2 => n_bt h_use1 h2 (fun _ z3 h3 => ((h_usesL N m 0 z3).tr h3).p))
  have : pq (F_X3_uses N w) (fun _ z' => kn w z') := by
    unfold F_X3_uses B_X3_uses_0
    exact n_bc kn_F_X8_known kn_rf (fun _ z1 h1 => pq_ok (fun _ => pq_if (fun _ => b31 _ _ h1) (fun _ => n_bc kn_F_X9_here h1 (fun _ z2 h2 => n_bt kn_F_X9_refuse h2 (fun _ z3 h3 => b31 _ _ h3)))))
  exact this
theorem h_par (ho : ow8 w) : KN (F_X3_parameter N w) w := by
  have b19 : ∀ z, kn w z → pq (B_X3_parameter_19 N z) (fun _ z' => kn w z') := by
    intro z hz
    unfold B_X3_parameter_19
    refine n_bc kn_F_X9_takeKind hz (fun _ z1 h1 => n_bc kn_F_X9_here h1 (fun _ z2 h2 => n_new h2 (fun r z3 h3 hr _ _ _ => pq_ok (fun _ => pq_pc (pq_pc ?_)))))
    have h4 : ∀ a : Int32, kn w (xmI (xmI z3 r 5 a) r 7 1) := fun a => fn_xmI hr (fn_xmI hr h3)
    exact pq_bt (pq_m (h_join (ho.fr (h4 _)) hr (h4 _)) (fun y z2 h2 => ⟨fun _ _ => h2, fun _ _ => pq_some h2⟩))
  have : pq (F_X3_parameter N w) (fun _ z' => kn w z') := by
    unfold F_X3_parameter B_X3_parameter_0
    exact n_bc kn_F_X9_is kn_rf (fun _ z1 h1 => pq_if (fun _ => b19 _ h1) (fun _ => n_bc kn_F_X9_next h1 (fun _ z2 h2 => b19 _ h2)))
  exact this
theorem n8_bc {x : Option (α × CSt)} {k : α → CSt → Option (β × CSt)} {Q : β → CSt → Prop} (hx : KN x w) (hw : n8s u w) (h : ∀ r z, n8s u z → pq (k r z) Q) : pq (bc x k) Q := pq_bc (pq_m hx.p (fun r z hz => h r z (n8s_tr hw hz.1)))
theorem n8_bt {x : Option (Sum Nat α × CSt)} {k : α → CSt → Option (Sum Nat β × CSt)} (hx : KN x w) (hw : n8s u w) (h : ∀ r z, n8s u z → pq (k r z) (fun _ z' => n8s u z')) : pq (bt x k) (fun _ z' => n8s u z') := pq_bt (pq_m hx.p (fun y z hz => ⟨fun e _ => n8s_tr hw hz.1, fun b _ => h b z (n8s_tr hw hz.1)⟩))
theorem h_118 (hm : m % 169 < 160) : pq (B_X3_routine_118 N l1 l2 m w) (fun _ z => n8s w z) := by
  unfold B_X3_routine_118
  refine pq_ok (fun _ => pq_pc (n8_bt kn_G_X3_statements (fn_xmI hm kn_rf).1 (fun _ z1 h1 => pq_if (fun _ => pq_ok (fun _ => ?_)) (fun _ => pq_ok (fun _ => ?_)))))
  · exact n8_bc kn_F_X6_constant h1 (fun _ z2 h2 => pq_ok (fun _ => n8_bc kn_F_X6_step h2 (fun _ z3 h3 => pq_ok (fun _ => pq_pc (pq_some h3)))))
  · exact n8_bc kn_F_X6_step h1 (fun _ z3 h3 => pq_ok (fun _ => pq_pc (pq_some h3)))
theorem h_79 (hm : m % 169 < 160) : ∀ (M : Nat) (l4 : Int32) (w : CSt), ow8 w → pq (LP_X3_routine_79 N M (l1, l2, m, l4, w)) (fun _ z => n8s w z) := by
  intro M
  induction M with
  | zero => intro l4 w _ r z e; cases e
  | succ M ih =>
    intro l4 w ho
    have b118 : ∀ z, n8s w z → pq (B_X3_routine_118 N l1 l2 m z) (fun _ z' => n8s w z') := fun z hz => pq_m (h_118 hm) (fun _ z' hz' => n8s_tr hz hz')
    show pq (B_X3_routine_79 N (LP_X3_routine_79 N M) l1 l2 m l4 w) (fun _ z' => n8s w z')
    unfold B_X3_routine_79
    refine pq_if (fun _ => b118 _ kn_rf.1) (fun _ => n_bc kn_F_X9_is kn_rf (fun _ z1 h1 => pq_if (fun _ => b118 _ h1.1) (fun _ => n_bc kn_F_X9_next h1 (fun _ z2 h2 => ?_))))
    refine pq_bt (pq_m (h_vars (l2 := 0) (Or.inr (ho.fr h2))).p (fun y z3 h3 => ⟨fun _ _ => n8s_tr h2.1 h3.1, fun _ _ => ?_⟩))
    exact pq_m (ih (l4 + 1) z3 ((ho.fr h2).fr h3)) (fun _ z' hz' => n8s_tr (n8s_tr h2.1 h3.1) hz')
theorem h_62 (hm : m % 169 < 160) (ho : ow8 w) : pq (B_X3_routine_62 N l1 l2 m w) (fun _ z => n8s w z) := by
  unfold B_X3_routine_62
  exact n_bc kn_F_X9_next kn_rf (fun _ z1 h1 => n_bc kn_F_X9_next h1 (fun _ z2 h2 => pq_m (h_79 hm N 0 z2 (ho.fr h2)) (fun _ z' hz' => n8s_tr h2.1 hz')))
theorem h_32 (hm : m % 169 < 160) : ∀ (M : Nat) (l4 : Int32) (w : CSt), ow8 w → pq (LP_X3_routine_32 N M (l1, l2, m, l4, w)) (fun _ z => n8s w z) := by
  intro M
  induction M with
  | zero => intro l4 w _ r z e; cases e
  | succ M ih =>
    intro l4 w ho
    show pq (B_X3_routine_32 N (LP_X3_routine_32 N M) l1 l2 m l4 w) (fun _ z' => n8s w z')
    unfold B_X3_routine_32
    refine pq_if (fun _ => h_62 hm ho) (fun _ => n_bc kn_F_X9_is kn_rf (fun _ z1 h1 => pq_if (fun _ => ?_) (fun _ => pq_m (h_62 hm (ho.fr h1)) (fun _ z' hz' => n8s_tr h1.1 hz'))))
    refine pq_bt (pq_m (h_par (ho.fr h1)).p (fun y z3 h3 => ⟨fun _ _ => n8s_tr h1.1 h3.1, fun _ _ => ?_⟩))
    exact pq_m (ih (l4 + 1) z3 ((ho.fr h1).fr h3)) (fun _ z' hz' => n8s_tr (n8s_tr h1.1 h3.1) hz')
theorem h_routine : pq (F_X3_routine N l1 l2 w) (fun _ z => n8s w z) := by
  unfold F_X3_routine B_X3_routine_0
  refine pq_bt (pq_m (h_new kn_rf) (fun y z hz => ⟨fun _ _ => hz.1.1, fun r e => ?_⟩))
  obtain ⟨hz, hz2⟩ := hz
  obtain ⟨hr, a2, a3, a4⟩ := hz2 r e
  refine pq_ok (fun _ => pq_pc (pq_ok (fun _ => pq_pc ?_)))
  have k1 : kn w (xmI z r 5 l2) := fn_xmI hr hz
  have e3 : mI (xmI z r 5 l2) r 3 = mI z r 3 := h_mI2 (by decide)
  rw [e3]
  have eR : cR (xmI z r 5 l2) 2 = cR z 2 := rfl
  rw [eR]
  have ho : ow8 (xpI (xmI z r 5 l2) (cR z 2) 15 (mI z r 3)) := by
    have p15 : pI (xpI (xmI z r 5 l2) (cR z 2) 15 (mI z r 3)) (cR z 2) 15 = mI z r 3 := by
      show (if cR z 2 = cR z 2 then (if 15 = 15 then _ else _) else _) = _
      rw [if_pos rfl, if_pos rfl]
    have p12 : pI (xpI (xmI z r 5 l2) (cR z 2) 15 (mI z r 3)) (cR z 2) 12 = pI z (cR z 2) 12 := by
      show (if cR z 2 = cR z 2 then (if 12 = 15 then _ else pI z (cR z 2) 12) else _) = _
      rw [if_pos rfl, if_neg (by decide)]
    show 0 ≤ (pI (xpI (xmI z r 5 l2) (cR z 2) 15 (mI z r 3)) (cR z 2) 15).toInt ∧ (pI (xpI (xmI z r 5 l2) (cR z 2) 15 (mI z r 3)) (cR z 2) 15).toInt < (pI (xpI (xmI z r 5 l2) (cR z 2) 15 (mI z r 3)) (cR z 2) 12).toInt ∧ (pI (xpI (xmI z r 5 l2) (cR z 2) 15 (mI z r 3)) (cR z 2) 15).toInt < 160
    rw [p15, p12]
    exact ⟨a2, a3, a4⟩
  have n1 : n8s w (xpI (xmI z r 5 l2) (cR z 2) 15 (mI z r 3)) := k1.1
  generalize xpI (xmI z r 5 l2) (cR z 2) 15 (mI z r 3) = z4 at ho n1 ⊢
  exact pq_bc (pq_m (kn_F_X9_next (u := z4)).p (fun _ z5 h5 => pq_m (h_32 hr N 0 z5 (ho.fr h5)) (fun _ z' hz' => n8s_tr (n8s_tr n1 h5.1) hz')))
theorem h_cyc : KN (F_X3_cyclic N w) w := by
  have b94 : ∀ z, kn w z → pq (B_X3_cyclic_94 N z) (fun _ z' => kn w z') := by
    intro z hz
    unfold B_X3_cyclic_94
    exact n_bc kn_F_X9_next hz (fun _ z1 h1 => pq_ok (fun _ => n_bt kn_G_X3_statements h1 (fun _ z2 h2 => n_bc kn_F_X6_step h2 (fun _ z3 h3 => pq_some h3))))
  have b61 : ∀ (m : Nat) (a b : Int32) z, kn w z → pq (B_X3_cyclic_61 N m a b z) (fun _ z' => kn w z') := by
    intro m a b z hz
    unfold B_X3_cyclic_61
    exact pq_if (fun _ => b94 _ hz) (fun _ => pq_ok (fun _ => pq_ix (fun _ => n_bc kn_F_X7_become hz (fun _ z1 h1 => b94 _ h1))))
  have : pq (F_X3_cyclic N w) (fun _ z' => kn w z') := by
    unfold F_X3_cyclic B_X3_cyclic_0
    refine n_new kn_rf (fun r z2 h2 hr _ _ _ => pq_ok (fun _ => n_bc kn_F_X9_next h2 (fun _ z3 h3 => n_bt kn_F_X9_takeBounded h3 (fun _ z4 h4 => ?_))))
    exact n_bc kn_F_X9_is h4 (fun _ z5 h5 => pq_if (fun _ => b61 _ _ _ _ h5) (fun _ => n_bc kn_F_X9_next h5 (fun _ z6 h6 => n_bt kn_F_X9_takeBounded h6 (fun _ z7 h7 => b61 _ _ _ _ h7))))
  exact this
theorem h_makeL : ∀ (M : Nat) (l2 : Int32) (w : CSt), pq (LP_X3_make_57 N M (l2, w)) (fun _ z => n8s w z) := by
  intro M
  induction M with
  | zero => intro l2 w r z e; cases e
  | succ M ih =>
    intro l2 w
    show pq (B_X3_make_57 N (LP_X3_make_57 N M) l2 w) (fun _ z' => n8s w z')
    unfold B_X3_make_57 B_X3_make_205
    have go : ∀ (z : CSt), n8s w z → pq (LP_X3_make_57 N M (l2 + 1, z)) (fun _ z' => n8s w z') := fun z hz => pq_m (ih (l2 + 1) z) (fun _ z' hz' => n8s_tr hz hz')
    refine pq_if (fun _ => pq_some kn_rf.1) (fun _ => n8_bc kn_F_X9_is kn_rf.1 (fun _ z1 h1 => pq_if (fun _ => ?_) (fun _ => pq_some h1)))
    refine n8_bc kn_F_X9_type h1 (fun _ z2 h2 => n8_bc kn_F_X9_next h2 (fun _ z3 h3 => ?_))
    have rt : ∀ (a b : Int32) (z : CSt), n8s w z → pq (bt (F_X3_routine N a b z) fun _ u_21 => LP_X3_make_57 N M (l2 + 1, u_21)) (fun _ z' => n8s w z') := fun a b z hz => pq_bt (pq_m h_routine (fun y z4 h4 => ⟨fun _ _ => n8s_tr hz h4, fun _ _ => go z4 (n8s_tr hz h4)⟩))
    refine pq_if (fun _ => n8_bt (h_vars (Or.inl rfl)) h3 (fun _ => go)) (fun _ => pq_if (fun _ => n8_bt (h_vars (Or.inl rfl)) h3 (fun _ => go)) (fun _ => pq_if (fun _ => n8_bt h_placed h3 (fun _ => go)) (fun _ => pq_if (fun _ => n8_bt h_placed h3 (fun _ => go)) (fun _ => pq_if (fun _ => rt _ _ _ h3) (fun _ => pq_if (fun _ => n8_bt h_uses h3 (fun _ => go)) (fun _ => pq_if (fun _ => n8_bc kn_F_X9_takeKind h3 (fun _ z4 h4 => rt _ _ _ h4)) (fun _ => n8_bt h_cyc h3 (fun _ => go))))))))
/-- making a program leaves the names from 160 on -/
theorem h_make : pq (F_X3_make N q w) (fun _ z => n8s w z) := by
  unfold F_X3_make B_X3_make_0 F_X6_empty B_X6_empty_0 F_X8_begin B_X8_begin_0 F_X9_rewind B_X9_rewind_0
  refine pq_pc (pq_ok (fun _ => pq_bc (pq_some (pq_bc (pq_some (pq_pc (pq_pc (pq_pc (pq_pc (pq_pc (pq_bc (pq_some ?_))))))))))))
  exact pq_m (h_makeL N 0 _) (fun _ z hz => hz)
end KnH
