/-! What calls leave of what runs use: the class. -/
def je1 (u w : CSt) : Prop := w.2.2.2.2.2.2.1 = u.2.2.2.2.2.2.1 ∧ ∀ m k, k < 3 → tI w m k = tI u m k
def KE1 {β : Type} (x : Option (β × CSt)) (u : CSt) : Prop := ∀ r w, x = some (r, w) → je1 u w
section KE1s
variable {α β γ : Type} {u v w : CSt}
theorem je1_rf : je1 u u := ⟨rfl, fun _ _ _ => rfl⟩
theorem je1_tr (h : je1 u v) (h2 : je1 v w) : je1 u w := ⟨h2.1.trans h.1, fun m k hk => (h2.2 m k hk).trans (h.2 m k hk)⟩
theorem KE1.tr {x : Option (β × CSt)} (hx : KE1 x w) (h : je1 u w) : KE1 x u := fun r z e => je1_tr h (hx r z e)
theorem fe1_xtI {q k : Nat} {a : Int32} (hk : ¬ k < 3) (h : je1 u w) : je1 u (xtI w q k a) := by
  refine je1_tr h ⟨rfl, fun m j hj => ?_⟩
  show (if m = q then (if j = k then a else tI w m j) else tI w m j) = _
  rw [if_neg (fun z : j = k => hk (z ▸ hj)), ite_self]
theorem fe1_xB {k i : Nat} {a : Int64} (h : je1 u w) : je1 u (xB w k i a) := h
theorem fe1_xG {k : Nat} {g : Nat → Int64} (h : je1 u w) : je1 u (xG w k g) := h
theorem fe1_xI {k : Nat} {a : Int32} (h : je1 u w) : je1 u (xI w k a) := h
theorem fe1_xL {k : Nat} {a : Int64} (h : je1 u w) : je1 u (xL w k a) := h
theorem fe1_xA {k i : Nat} {a : Int32} (h : je1 u w) : je1 u (xA w k i a) := h
theorem fe1_xF {k : Nat} {g : Nat → Int32} (h : je1 u w) : je1 u (xF w k g) := h
theorem fe1_xpI {q k : Nat} {a : Int32} (h : je1 u w) : je1 u (xpI w q k a) := h
theorem fe1_xpA {q k i : Nat} {a : Int32} (h : je1 u w) : je1 u (xpA w q k i a) := h
theorem fe1_xpF {q k : Nat} {g : Nat → Int32} (h : je1 u w) : je1 u (xpF w q k g) := h
theorem fe1_xR {k a : Nat} (h : je1 u w) : je1 u (xR w k a) := h
theorem fe1_xmI {q k : Nat} {a : Int32} (h : je1 u w) : je1 u (xmI w q k a) := h
theorem fe1_xmL {q k : Nat} {a : Int64} (h : je1 u w) : je1 u (xmL w q k a) := h
theorem KE1_some {r : β} (h : je1 u w) : KE1 (some (r, w)) u := fun _ _ e => by cases e; exact h
theorem KE1_none : KE1 (none : Option (β × CSt)) u := fun _ _ e => nomatch e
theorem KE1_rd {f : Nat → α} {n : Nat} {i : Int32} {k : α → Option (β × CSt)} (h : ∀ a, KE1 (k a) u) : KE1 (rd f n i k) u := by
  intro r z e
  have q : wq (rd f n i k) (fun r' z' => r' = r ∧ z' = z) := ⟨r, z, e, rfl, rfl⟩
  obtain ⟨r1, z1, e1, rfl, rfl⟩ := (wq_rd.mp q).2
  exact h _ _ _ e1
theorem KE1_if {c : Prop} {d : Decidable c} {a b : Option (β × CSt)} (ha : KE1 a u) (hb : KE1 b u) : KE1 (if c then a else b) u := by
  by_cases q : c
  · rw [if_pos q]; exact ha
  · rw [if_neg q]; exact hb
theorem KE1_zr {v : Int32} {x : Option (β × CSt)} (h : KE1 x u) : KE1 (zr v x) u := fun r z e => h r z (zr_of e).2
theorem KE1_nz {v : Int32} {x : Option (β × CSt)} (h : KE1 x u) : KE1 (nz v x) u := fun r z e => h r z (nz_of e).2
theorem KE1_ok {P : Prop} {d : Decidable P} {x : Option (β × CSt)} (h : KE1 x u) : KE1 (ok P d x) u := fun r z e => h r z (ok_of e).2
theorem KE1_pc {x : CSt} {k : CSt → Option (β × CSt)} (h : KE1 (k x) u) : KE1 (pc x k) u := h
theorem KE1_wc {n : Nat} {i : Int32} {x : CSt} {k : CSt → Option (β × CSt)} (h : KE1 (k x) u) : KE1 (wc n i x k) u := by
  intro r z e
  have q : wq (wc n i x k) (fun r' z' => r' = r ∧ z' = z) := ⟨r, z, e, rfl, rfl⟩
  obtain ⟨r1, z1, e1, rfl, rfl⟩ := (wq_wc.mp q).2
  exact h _ _ e1
theorem KE1_bc {x : Option (α × CSt)} {k : α → CSt → Option (β × CSt)} (hx : KE1 x u) (h : ∀ r w, KE1 (k r w) w) : KE1 (bc x k) u := by
  intro r z e
  have q : wq (bc x k) (fun r' z' => r' = r ∧ z' = z) := ⟨r, z, e, rfl, rfl⟩
  obtain ⟨r1, z1, e1, r2, z2, e2, rfl, rfl⟩ := wq_bc.mp q
  exact je1_tr (hx _ _ e1) (h _ _ _ _ e2)
theorem KE1_pb {x : Option α} {k : α → Option (β × CSt)} (h : ∀ a, KE1 (k a) u) : KE1 (pb x k) u := by
  intro r z e
  have q : wq (pb x k) (fun r' z' => r' = r ∧ z' = z) := ⟨r, z, e, rfl, rfl⟩
  obtain ⟨a, -, r1, z1, e1, rfl, rfl⟩ := wq_pb.mp q
  exact h _ _ _ e1
theorem KE1_bt {x : Option (Sum Nat α × CSt)} {k : α → CSt → Option (Sum Nat γ × CSt)} (hx : KE1 x u) (h : ∀ r w, KE1 (k r w) w) : KE1 (bt x k) u := by
  intro r z e
  unfold bt at e
  cases hq : x with
  | none => rw [hq] at e; cases e
  | some a =>
    obtain ⟨y, v⟩ := a
    rw [hq] at e
    cases y with
    | inl n => cases e; exact hx _ _ hq
    | inr b => exact je1_tr (hx _ _ hq) (h _ _ _ _ e)
theorem KE1_ix {n : Nat} {i : Int32} {x : Option (β × CSt)} (h : KE1 x u) : KE1 (ix n i x) u := by
  intro r z e
  have q : wq (ix n i x) (fun r' z' => r' = r ∧ z' = z) := ⟨r, z, e, rfl, rfl⟩
  obtain ⟨r1, z1, e1, rfl, rfl⟩ := (wq_ix.mp q).2
  exact h _ _ e1
theorem KE1_bh {x : Option (Sum Nat α × CSt)} {kc : CSt → Option (β × CSt)} {k : α → CSt → Option (β × CSt)} (hx : KE1 x u) (h0 : ∀ w, KE1 (kc w) w) (h : ∀ r w, KE1 (k r w) w) : KE1 (bh x kc k) u := by
  intro r z e
  obtain ⟨y1, w1, e1, ⟨-, e2⟩ | ⟨q, -, e2⟩⟩ := bh_of e
  · exact je1_tr (hx _ _ e1) (h0 _ _ _ e2)
  · exact je1_tr (hx _ _ e1) (h _ _ _ _ e2)
end KE1s
theorem e1_B_X4_isPlaced_23 {N : Nat} {u : CSt}  : KE1 (B_X4_isPlaced_23 N u) u := by
  unfold B_X4_isPlaced_23
  exact KE1_some je1_rf
theorem e1_B_X4_isPlaced_0 {N : Nat} {l0 : Nat} {u : CSt}  : KE1 (B_X4_isPlaced_0 N l0 u) u := by
  unfold B_X4_isPlaced_0
  refine KE1_if ?_ ?_
  · skip
    refine KE1_if ?_ ?_
    · skip
      exact e1_B_X4_isPlaced_23.tr je1_rf
    · skip
      refine KE1_if ?_ ?_
      · skip
        exact e1_B_X4_isPlaced_23.tr je1_rf
      · skip
        exact KE1_some je1_rf
  · skip
    exact KE1_some je1_rf
theorem e1_F_X4_isPlaced {N : Nat} {l0 : Nat} {u : CSt}  : KE1 (F_X4_isPlaced N l0 u) u := by
  unfold F_X4_isPlaced
  exact e1_B_X4_isPlaced_0.tr je1_rf
theorem e1_B_X4_isInput_0 {N : Nat} {l0 : Nat} {u : CSt}  : KE1 (B_X4_isInput_0 N l0 u) u := by
  unfold B_X4_isInput_0
  refine KE1_if ?_ ?_
  · skip
    refine KE1_if ?_ ?_
    · skip
      exact KE1_some je1_rf
    · skip
      exact KE1_some je1_rf
  · skip
    exact KE1_some je1_rf
theorem e1_F_X4_isInput {N : Nat} {l0 : Nat} {u : CSt}  : KE1 (F_X4_isInput N l0 u) u := by
  unfold F_X4_isInput
  exact e1_B_X4_isInput_0.tr je1_rf
theorem e1_B_X10_see_0 {N : Nat} {l1 : Int32} {l2 : Int32} {l3 : Int64} {u : CSt}  : KE1 (B_X10_see_0 N l1 l2 l3 u) u := by
  unfold B_X10_see_0
  refine KE1_rd (fun _ => ?_)
  refine KE1_if ?_ ?_
  · skip
    exact KE1_some je1_rf
  · skip
    refine KE1_wc ?_
    refine KE1_wc ?_
    refine KE1_rd (fun _ => ?_)
    refine KE1_wc ?_
    refine KE1_rd (fun _ => ?_)
    refine KE1_wc ?_
    refine KE1_wc ?_
    refine KE1_pc ?_
    refine KE1_if ?_ ?_
    · skip
      refine KE1_pc ?_
      exact KE1_some (fe1_xI (fe1_xI (fe1_xB (fe1_xA (fe1_xA (fe1_xA (fe1_xB je1_rf)))))))
    · skip
      refine KE1_pc ?_
      exact KE1_some (fe1_xI (fe1_xI (fe1_xB (fe1_xA (fe1_xA (fe1_xA (fe1_xB je1_rf)))))))
theorem e1_F_X10_see {N : Nat} {l1 : Int32} {l2 : Int32} {l3 : Int64} {u : CSt}  : KE1 (F_X10_see N l1 l2 l3 u) u := by
  unfold F_X10_see
  exact e1_B_X10_see_0.tr je1_rf
theorem e1_B_X6_ofSort_0 {N : Nat} {l0 : Nat} {l1 : Int32} {u : CSt}  : KE1 (B_X6_ofSort_0 N l0 l1 u) u := by
  unfold B_X6_ofSort_0
  refine KE1_rd (fun _ => ?_)
  exact KE1_some je1_rf
theorem e1_F_X6_ofSort {N : Nat} {l0 : Nat} {l1 : Int32} {u : CSt}  : KE1 (F_X6_ofSort N l0 l1 u) u := by
  unfold F_X6_ofSort
  exact e1_B_X6_ofSort_0.tr je1_rf
theorem e1_B_X6_has_0 {N : Nat} {l0 : Nat} {l1 : Int32} {l2 : Int32} {u : CSt}  : KE1 (B_X6_has_0 N l0 l1 l2 u) u := by
  unfold B_X6_has_0
  refine KE1_if ?_ ?_
  · skip
    exact KE1_some je1_rf
  · skip
    refine KE1_rd (fun _ => ?_)
    refine KE1_if ?_ ?_
    · skip
      exact KE1_some je1_rf
    · skip
      exact KE1_some je1_rf
theorem e1_F_X6_has {N : Nat} {l0 : Nat} {l1 : Int32} {l2 : Int32} {u : CSt}  : KE1 (F_X6_has N l0 l1 l2 u) u := by
  unfold F_X6_has
  exact e1_B_X6_has_0.tr je1_rf
theorem e1_B_X6_name_0 {N : Nat} {l0 : Nat} {l1 : Int32} {u : CSt}  : KE1 (B_X6_name_0 N l0 l1 u) u := by
  unfold B_X6_name_0
  refine KE1_if ?_ ?_
  · skip
    exact KE1_some je1_rf
  · skip
    refine KE1_if ?_ ?_
    · skip
      exact KE1_some je1_rf
    · skip
      refine KE1_ix ?_
      exact KE1_some je1_rf
theorem e1_F_X6_name {N : Nat} {l0 : Nat} {l1 : Int32} {u : CSt}  : KE1 (F_X6_name N l0 l1 u) u := by
  unfold F_X6_name
  exact e1_B_X6_name_0.tr je1_rf
theorem e1_B_X6_nth_0 {N : Nat} {l0 : Nat} {l1 : Int32} {l2 : Int32} {u : CSt}  : KE1 (B_X6_nth_0 N l0 l1 l2 u) u := by
  unfold B_X6_nth_0
  refine KE1_bc (e1_F_X6_has.tr je1_rf) (fun _ _ => ?_)
  refine KE1_if ?_ ?_
  · skip
    exact KE1_some je1_rf
  · skip
    refine KE1_ix ?_
    refine KE1_rd (fun _ => ?_)
    refine KE1_bc (e1_F_X6_name.tr je1_rf) (fun _ _ => ?_)
    refine KE1_ok ?_
    exact KE1_some je1_rf
theorem e1_F_X6_nth {N : Nat} {l0 : Nat} {l1 : Int32} {l2 : Int32} {u : CSt}  : KE1 (F_X6_nth N l0 l1 l2 u) u := by
  unfold F_X6_nth
  exact e1_B_X6_nth_0.tr je1_rf
theorem e1_B_X6_local_0 {N : Nat} {l0 : Nat} {l1 : Nat} {l2 : Int32} {u : CSt}  : KE1 (B_X6_local_0 N l0 l1 l2 u) u := by
  unfold B_X6_local_0
  refine KE1_if ?_ ?_
  · skip
    exact KE1_some je1_rf
  · skip
    refine KE1_if ?_ ?_
    · skip
      exact KE1_some je1_rf
    · skip
      refine KE1_bc (e1_F_X6_name.tr je1_rf) (fun _ _ => ?_)
      refine KE1_ok ?_
      exact KE1_some je1_rf
theorem e1_F_X6_local {N : Nat} {l0 : Nat} {l1 : Nat} {l2 : Int32} {u : CSt}  : KE1 (F_X6_local N l0 l1 l2 u) u := by
  unfold F_X6_local
  exact e1_B_X6_local_0.tr je1_rf
theorem e1_B_X6_liesIn_52 {N : Nat} {R_3 : Nat × Int64 × Int32 × Int32 × Int32 × CSt → Option (Int32 × CSt)} {l0 : Nat} {l1 : Int64} {l3 : Int32} {l4 : Int32} {l5 : Int32} {u : CSt} (h_R_3 : ∀ a, KE1 (R_3 a) a.2.2.2.2.2) : KE1 (B_X6_liesIn_52 N R_3 l0 l1 l3 l4 l5 u) u := by
  unfold B_X6_liesIn_52
  exact (h_R_3 _).tr je1_rf
theorem e1_B_X6_liesIn_3 {N : Nat} {R_3 : Nat × Int64 × Int32 × Int32 × Int32 × CSt → Option (Int32 × CSt)} {l0 : Nat} {l1 : Int64} {l3 : Int32} {l4 : Int32} {l5 : Int32} {u : CSt} (h_R_3 : ∀ a, KE1 (R_3 a) a.2.2.2.2.2) : KE1 (B_X6_liesIn_3 N R_3 l0 l1 l3 l4 l5 u) u := by
  unfold B_X6_liesIn_3
  refine KE1_if ?_ ?_
  · skip
    exact KE1_some je1_rf
  · skip
    refine KE1_if ?_ ?_
    · skip
      exact KE1_some je1_rf
    · skip
      refine KE1_if ?_ ?_
      · skip
        exact KE1_some je1_rf
      · skip
        refine KE1_rd (fun _ => ?_)
        refine KE1_if ?_ ?_
        · skip
          exact (e1_B_X6_liesIn_52 h_R_3).tr je1_rf
        · skip
          refine KE1_rd (fun _ => ?_)
          refine KE1_if ?_ ?_
          · skip
            exact (e1_B_X6_liesIn_52 h_R_3).tr je1_rf
          · skip
            exact KE1_some je1_rf
theorem e1_LP_X6_liesIn_3 {N : Nat}  (n : Nat) : ∀ a : Nat × Int64 × Int32 × Int32 × Int32 × CSt, KE1 (LP_X6_liesIn_3 N n a) a.2.2.2.2.2 := by
  induction n with
  | zero => exact fun a r z e => by have e : (none : Option _) = some (r, z) := e; cases e
  | succ n ih =>
    intro a
    show KE1 (B_X6_liesIn_3 N (LP_X6_liesIn_3 N n) a.1 a.2.1 a.2.2.1 a.2.2.2.1 a.2.2.2.2.1 a.2.2.2.2.2) a.2.2.2.2.2
    exact e1_B_X6_liesIn_3 ih
theorem e1_B_X6_liesIn_0 {N : Nat} {l0 : Nat} {l1 : Int64} {l3 : Int32} {l4 : Int32} {u : CSt}  : KE1 (B_X6_liesIn_0 N l0 l1 l3 l4 u) u := by
  unfold B_X6_liesIn_0
  exact (e1_LP_X6_liesIn_3  _ _).tr je1_rf
theorem e1_F_X6_liesIn {N : Nat} {l0 : Nat} {l1 : Int64} {l3 : Int32} {l4 : Int32} {u : CSt}  : KE1 (F_X6_liesIn N l0 l1 l3 l4 u) u := by
  unfold F_X6_liesIn
  exact e1_B_X6_liesIn_0.tr je1_rf
theorem e1_B_X7_isDue_0 {N : Nat} {l0 : Nat} {l1 : Int32} {u : CSt}  : KE1 (B_X7_isDue_0 N l0 l1 u) u := by
  unfold B_X7_isDue_0
  refine KE1_if ?_ ?_
  · skip
    exact KE1_some je1_rf
  · skip
    refine KE1_pb (fun _ => ?_)
    refine KE1_if ?_ ?_
    · skip
      exact KE1_some je1_rf
    · skip
      exact KE1_some je1_rf
theorem e1_F_X7_isDue {N : Nat} {l0 : Nat} {l1 : Int32} {u : CSt}  : KE1 (F_X7_isDue N l0 l1 u) u := by
  unfold F_X7_isDue
  exact e1_B_X7_isDue_0.tr je1_rf
theorem e1_B_X1_takeInputs_2 {N : Nat} {R_2 : Int32 × CSt → Option (Int32 × CSt)} {l1 : Int32} {u : CSt} (h_R_2 : ∀ a, KE1 (R_2 a) a.2) : KE1 (B_X1_takeInputs_2 N R_2 l1 u) u := by
  unfold B_X1_takeInputs_2
  refine KE1_if ?_ ?_
  · skip
    exact KE1_some je1_rf
  · skip
    refine KE1_ix ?_
    refine KE1_rd (fun _ => ?_)
    refine KE1_ix ?_
    refine KE1_rd (fun _ => ?_)
    refine KE1_ix ?_
    refine KE1_ix ?_
    refine KE1_rd (fun _ => ?_)
    refine KE1_wc ?_
    exact (h_R_2 _).tr (fe1_xA je1_rf)
theorem e1_LP_X1_takeInputs_2 {N : Nat}  (n : Nat) : ∀ a : Int32 × CSt, KE1 (LP_X1_takeInputs_2 N n a) a.2 := by
  induction n with
  | zero => exact fun a r z e => by have e : (none : Option _) = some (r, z) := e; cases e
  | succ n ih =>
    intro a
    show KE1 (B_X1_takeInputs_2 N (LP_X1_takeInputs_2 N n) a.1 a.2) a.2
    exact e1_B_X1_takeInputs_2 ih
theorem e1_B_X1_takeInputs_0 {N : Nat} {u : CSt}  : KE1 (B_X1_takeInputs_0 N u) u := by
  unfold B_X1_takeInputs_0
  exact (e1_LP_X1_takeInputs_2  _ _).tr je1_rf
theorem e1_F_X1_takeInputs {N : Nat} {u : CSt}  : KE1 (F_X1_takeInputs N u) u := by
  unfold F_X1_takeInputs
  exact e1_B_X1_takeInputs_0.tr je1_rf
theorem e1_B_X1_giveOutputs_2 {N : Nat} {R_2 : Int32 × CSt → Option (Int32 × CSt)} {l1 : Int32} {u : CSt} (h_R_2 : ∀ a, KE1 (R_2 a) a.2) : KE1 (B_X1_giveOutputs_2 N R_2 l1 u) u := by
  unfold B_X1_giveOutputs_2
  refine KE1_if ?_ ?_
  · skip
    exact KE1_some je1_rf
  · skip
    refine KE1_ix ?_
    refine KE1_rd (fun _ => ?_)
    refine KE1_ix ?_
    refine KE1_rd (fun _ => ?_)
    refine KE1_ix ?_
    refine KE1_ix ?_
    refine KE1_rd (fun _ => ?_)
    refine KE1_wc ?_
    refine KE1_ix ?_
    refine KE1_ix ?_
    refine KE1_rd (fun _ => ?_)
    refine KE1_wc ?_
    exact (h_R_2 _).tr (fe1_xA (fe1_xA je1_rf))
theorem e1_LP_X1_giveOutputs_2 {N : Nat}  (n : Nat) : ∀ a : Int32 × CSt, KE1 (LP_X1_giveOutputs_2 N n a) a.2 := by
  induction n with
  | zero => exact fun a r z e => by have e : (none : Option _) = some (r, z) := e; cases e
  | succ n ih =>
    intro a
    show KE1 (B_X1_giveOutputs_2 N (LP_X1_giveOutputs_2 N n) a.1 a.2) a.2
    exact e1_B_X1_giveOutputs_2 ih
theorem e1_B_X1_giveOutputs_0 {N : Nat} {u : CSt}  : KE1 (B_X1_giveOutputs_0 N u) u := by
  unfold B_X1_giveOutputs_0
  exact (e1_LP_X1_giveOutputs_2  _ _).tr je1_rf
theorem e1_F_X1_giveOutputs {N : Nat} {u : CSt}  : KE1 (F_X1_giveOutputs N u) u := by
  unfold F_X1_giveOutputs
  exact e1_B_X1_giveOutputs_0.tr je1_rf
theorem e1_B_X1_wipe_0 {N : Nat} {u : CSt}  : KE1 (B_X1_wipe_0 N u) u := by
  unfold B_X1_wipe_0
  refine KE1_ix ?_
  refine KE1_pc ?_
  refine KE1_ix ?_
  refine KE1_pc ?_
  exact KE1_some (fe1_xF (fe1_xF je1_rf))
theorem e1_F_X1_wipe {N : Nat} {u : CSt}  : KE1 (F_X1_wipe N u) u := by
  unfold F_X1_wipe
  exact e1_B_X1_wipe_0.tr je1_rf
theorem e1_B_X1_get_57 {N : Nat} {l3 : Int32} {l4 : Int64} {u : CSt}  : KE1 (B_X1_get_57 N l3 l4 u) u := by
  unfold B_X1_get_57
  exact KE1_some je1_rf
theorem e1_B_X1_get_6 {N : Nat} {R_6 : Int32 × Int32 × Int32 × Int64 × Int32 × CSt → Option (Int64 × CSt)} {l1 : Int32} {l2 : Int32} {l3 : Int32} {l4 : Int64} {l6 : Int32} {u : CSt} (h_R_6 : ∀ a, KE1 (R_6 a) a.2.2.2.2.2) : KE1 (B_X1_get_6 N R_6 l1 l2 l3 l4 l6 u) u := by
  unfold B_X1_get_6
  refine KE1_rd (fun _ => ?_)
  refine KE1_if ?_ ?_
  · skip
    exact e1_B_X1_get_57.tr je1_rf
  · skip
    refine KE1_if ?_ ?_
    · skip
      exact e1_B_X1_get_57.tr je1_rf
    · skip
      refine KE1_if ?_ ?_
      · skip
        exact e1_B_X1_get_57.tr je1_rf
      · skip
        refine KE1_ix ?_
        refine KE1_rd (fun _ => ?_)
        exact (h_R_6 _).tr je1_rf
theorem e1_LP_X1_get_6 {N : Nat}  (n : Nat) : ∀ a : Int32 × Int32 × Int32 × Int64 × Int32 × CSt, KE1 (LP_X1_get_6 N n a) a.2.2.2.2.2 := by
  induction n with
  | zero => exact fun a r z e => by have e : (none : Option _) = some (r, z) := e; cases e
  | succ n ih =>
    intro a
    show KE1 (B_X1_get_6 N (LP_X1_get_6 N n) a.1 a.2.1 a.2.2.1 a.2.2.2.1 a.2.2.2.2.1 a.2.2.2.2.2) a.2.2.2.2.2
    exact e1_B_X1_get_6 ih
theorem e1_B_X1_get_0 {N : Nat} {l1 : Int32} {l2 : Int32} {l3 : Int32} {u : CSt}  : KE1 (B_X1_get_0 N l1 l2 l3 u) u := by
  unfold B_X1_get_0
  exact (e1_LP_X1_get_6  _ _).tr je1_rf
theorem e1_F_X1_get {N : Nat} {l1 : Int32} {l2 : Int32} {l3 : Int32} {u : CSt}  : KE1 (F_X1_get N l1 l2 l3 u) u := by
  unfold F_X1_get
  exact e1_B_X1_get_0.tr je1_rf
theorem e1_B_X1_set_13 {N : Nat} {R_13 : Int64 × Int32 × Int32 × CSt → Option (Int32 × CSt)} {l3 : Int64} {l5 : Int32} {l6 : Int32} {u : CSt} (h_R_13 : ∀ a, KE1 (R_13 a) a.2.2.2) : KE1 (B_X1_set_13 N R_13 l3 l5 l6 u) u := by
  unfold B_X1_set_13
  refine KE1_if ?_ ?_
  · skip
    exact KE1_some je1_rf
  · skip
    refine KE1_if ?_ ?_
    · skip
      exact KE1_some je1_rf
    · skip
      refine KE1_if ?_ ?_
      · skip
        exact KE1_some je1_rf
      · skip
        refine KE1_ix ?_
        refine KE1_wc ?_
        exact (h_R_13 _).tr (fe1_xA je1_rf)
theorem e1_LP_X1_set_13 {N : Nat}  (n : Nat) : ∀ a : Int64 × Int32 × Int32 × CSt, KE1 (LP_X1_set_13 N n a) a.2.2.2 := by
  induction n with
  | zero => exact fun a r z e => by have e : (none : Option _) = some (r, z) := e; cases e
  | succ n ih =>
    intro a
    show KE1 (B_X1_set_13 N (LP_X1_set_13 N n) a.1 a.2.1 a.2.2.1 a.2.2.2) a.2.2.2
    exact e1_B_X1_set_13 ih
theorem e1_B_X1_set_0 {N : Nat} {l1 : Int32} {l2 : Int32} {l3 : Int64} {u : CSt}  : KE1 (B_X1_set_0 N l1 l2 l3 u) u := by
  unfold B_X1_set_0
  refine KE1_rd (fun _ => ?_)
  exact (e1_LP_X1_set_13  _ _).tr je1_rf
theorem e1_F_X1_set {N : Nat} {l1 : Int32} {l2 : Int32} {l3 : Int64} {u : CSt}  : KE1 (F_X1_set N l1 l2 l3 u) u := by
  unfold F_X1_set
  exact e1_B_X1_set_0.tr je1_rf
theorem e1_B_X2_numberAt_0 {N : Nat} {l1 : Int32} {u : CSt}  : KE1 (B_X2_numberAt_0 N l1 u) u := by
  unfold B_X2_numberAt_0
  refine KE1_if ?_ ?_
  · skip
    exact KE1_some je1_rf
  · skip
    refine KE1_if ?_ ?_
    · skip
      exact KE1_some je1_rf
    · skip
      refine KE1_rd (fun _ => ?_)
      exact KE1_some je1_rf
theorem e1_F_X2_numberAt {N : Nat} {l1 : Int32} {u : CSt}  : KE1 (F_X2_numberAt N l1 u) u := by
  unfold F_X2_numberAt
  exact e1_B_X2_numberAt_0.tr je1_rf
theorem e1_B_X2_put_0 {N : Nat} {l1 : Int32} {l2 : Int64} {u : CSt}  : KE1 (B_X2_put_0 N l1 l2 u) u := by
  unfold B_X2_put_0
  refine KE1_if ?_ ?_
  · skip
    exact KE1_some je1_rf
  · skip
    refine KE1_if ?_ ?_
    · skip
      exact KE1_some je1_rf
    · skip
      refine KE1_wc ?_
      exact KE1_some (fe1_xB je1_rf)
theorem e1_F_X2_put {N : Nat} {l1 : Int32} {l2 : Int64} {u : CSt}  : KE1 (F_X2_put N l1 l2 u) u := by
  unfold F_X2_put
  exact e1_B_X2_put_0.tr je1_rf
theorem e1_B_X2_fill_3 {N : Nat} {R_3 : Int32 × Int32 × Int64 × Int32 × CSt → Option (Int32 × CSt)} {l1 : Int32} {l2 : Int32} {l3 : Int64} {l5 : Int32} {u : CSt} (h_R_3 : ∀ a, KE1 (R_3 a) a.2.2.2.2) : KE1 (B_X2_fill_3 N R_3 l1 l2 l3 l5 u) u := by
  unfold B_X2_fill_3
  refine KE1_if ?_ ?_
  · skip
    exact KE1_some je1_rf
  · skip
    refine KE1_bc (e1_F_X2_put.tr je1_rf) (fun _ _ => ?_)
    exact (h_R_3 _).tr je1_rf
theorem e1_LP_X2_fill_3 {N : Nat}  (n : Nat) : ∀ a : Int32 × Int32 × Int64 × Int32 × CSt, KE1 (LP_X2_fill_3 N n a) a.2.2.2.2 := by
  induction n with
  | zero => exact fun a r z e => by have e : (none : Option _) = some (r, z) := e; cases e
  | succ n ih =>
    intro a
    show KE1 (B_X2_fill_3 N (LP_X2_fill_3 N n) a.1 a.2.1 a.2.2.1 a.2.2.2.1 a.2.2.2.2) a.2.2.2.2
    exact e1_B_X2_fill_3 ih
theorem e1_B_X2_fill_0 {N : Nat} {l1 : Int32} {l2 : Int32} {l3 : Int64} {u : CSt}  : KE1 (B_X2_fill_0 N l1 l2 l3 u) u := by
  unfold B_X2_fill_0
  exact (e1_LP_X2_fill_3  _ _).tr je1_rf
theorem e1_F_X2_fill {N : Nat} {l1 : Int32} {l2 : Int32} {l3 : Int64} {u : CSt}  : KE1 (F_X2_fill N l1 l2 l3 u) u := by
  unfold F_X2_fill
  exact e1_B_X2_fill_0.tr je1_rf
theorem e1_B_X2_numberOf_23 {N : Nat} {l1 : Nat} {s1 : Int32} {u : CSt}  : KE1 (B_X2_numberOf_23 N l1 s1 u) u := by
  unfold B_X2_numberOf_23
  refine KE1_bc (e1_F_X1_get.tr je1_rf) (fun _ _ => ?_)
  exact KE1_some je1_rf
theorem e1_B_X2_numberOf_0 {N : Nat} {l1 : Nat} {l2 : Int32} {u : CSt}  : KE1 (B_X2_numberOf_0 N l1 l2 u) u := by
  unfold B_X2_numberOf_0
  refine KE1_bc (e1_F_X4_isPlaced.tr je1_rf) (fun _ _ => ?_)
  refine KE1_if ?_ ?_
  · skip
    refine KE1_bc (e1_F_X2_numberAt.tr je1_rf) (fun _ _ => ?_)
    exact KE1_some je1_rf
  · skip
    refine KE1_bc (e1_F_X4_isInput.tr je1_rf) (fun _ _ => ?_)
    refine KE1_if ?_ ?_
    · skip
      exact e1_B_X2_numberOf_23.tr je1_rf
    · skip
      exact e1_B_X2_numberOf_23.tr je1_rf
theorem e1_F_X2_numberOf {N : Nat} {l1 : Nat} {l2 : Int32} {u : CSt}  : KE1 (F_X2_numberOf N l1 l2 u) u := by
  unfold F_X2_numberOf
  exact e1_B_X2_numberOf_0.tr je1_rf
theorem e1_B_X2_resetInstances_31 {N : Nat} {R_2 : Nat × Int32 × CSt → Option (Int32 × CSt)} {R_31 : Nat × Int32 × Nat × Nat × Int32 × CSt → Option (Int32 × CSt)} {l1 : Nat} {l2 : Int32} {l3 : Nat} {l4 : Nat} {l5 : Int32} {u : CSt} (h_R_2 : ∀ a, KE1 (R_2 a) a.2.2) (h_R_31 : ∀ a, KE1 (R_31 a) a.2.2.2.2.2) : KE1 (B_X2_resetInstances_31 N R_2 R_31 l1 l2 l3 l4 l5 u) u := by
  unfold B_X2_resetInstances_31
  refine KE1_if ?_ ?_
  · skip
    exact (h_R_2 _).tr je1_rf
  · skip
    refine KE1_bc (e1_F_X6_local.tr je1_rf) (fun _ _ => ?_)
    refine KE1_ok ?_
    refine KE1_bc (e1_F_X2_fill.tr je1_rf) (fun _ _ => ?_)
    exact (h_R_31 _).tr je1_rf
theorem e1_LP_X2_resetInstances_31 {N : Nat} {R_2 : Nat × Int32 × CSt → Option (Int32 × CSt)} (h_R_2 : ∀ a, KE1 (R_2 a) a.2.2) (n : Nat) : ∀ a : Nat × Int32 × Nat × Nat × Int32 × CSt, KE1 (LP_X2_resetInstances_31 N R_2 n a) a.2.2.2.2.2 := by
  induction n with
  | zero => exact fun a r z e => by have e : (none : Option _) = some (r, z) := e; cases e
  | succ n ih =>
    intro a
    show KE1 (B_X2_resetInstances_31 N R_2 (LP_X2_resetInstances_31 N R_2 n) a.1 a.2.1 a.2.2.1 a.2.2.2.1 a.2.2.2.2.1 a.2.2.2.2.2) a.2.2.2.2.2
    exact e1_B_X2_resetInstances_31 h_R_2 ih
theorem e1_B_X2_resetInstances_2 {N : Nat} {R_2 : Nat × Int32 × CSt → Option (Int32 × CSt)} {l1 : Nat} {l2 : Int32} {u : CSt} (h_R_2 : ∀ a, KE1 (R_2 a) a.2.2) : KE1 (B_X2_resetInstances_2 N R_2 l1 l2 u) u := by
  unfold B_X2_resetInstances_2
  refine KE1_bc (e1_F_X6_ofSort.tr je1_rf) (fun _ _ => ?_)
  refine KE1_if ?_ ?_
  · skip
    exact KE1_some je1_rf
  · skip
    refine KE1_bc (e1_F_X6_nth.tr je1_rf) (fun _ _ => ?_)
    refine KE1_ok ?_
    refine KE1_bc (e1_F_X6_name.tr je1_rf) (fun _ _ => ?_)
    refine KE1_ok ?_
    exact (e1_LP_X2_resetInstances_31 h_R_2 _ _).tr je1_rf
theorem e1_LP_X2_resetInstances_2 {N : Nat}  (n : Nat) : ∀ a : Nat × Int32 × CSt, KE1 (LP_X2_resetInstances_2 N n a) a.2.2 := by
  induction n with
  | zero => exact fun a r z e => by have e : (none : Option _) = some (r, z) := e; cases e
  | succ n ih =>
    intro a
    show KE1 (B_X2_resetInstances_2 N (LP_X2_resetInstances_2 N n) a.1 a.2.1 a.2.2) a.2.2
    exact e1_B_X2_resetInstances_2 ih
theorem e1_B_X2_resetInstances_0 {N : Nat} {l1 : Nat} {u : CSt}  : KE1 (B_X2_resetInstances_0 N l1 u) u := by
  unfold B_X2_resetInstances_0
  exact (e1_LP_X2_resetInstances_2  _ _).tr je1_rf
theorem e1_F_X2_resetInstances {N : Nat} {l1 : Nat} {u : CSt}  : KE1 (F_X2_resetInstances N l1 u) u := by
  unfold F_X2_resetInstances
  exact e1_B_X2_resetInstances_0.tr je1_rf
theorem e1_B_X2_stop_0 {N : Nat} {l1 : Int32} {l2 : Int32} {u : CSt}  : KE1 (B_X2_stop_0 N l1 l2 u) u := by
  unfold B_X2_stop_0
  refine KE1_pc ?_
  refine KE1_pc ?_
  refine KE1_pc ?_
  exact KE1_some (fe1_xI (fe1_xI (fe1_xI je1_rf)))
theorem e1_F_X2_stop {N : Nat} {l1 : Int32} {l2 : Int32} {u : CSt}  : KE1 (F_X2_stop N l1 l2 u) u := by
  unfold F_X2_stop
  exact e1_B_X2_stop_0.tr je1_rf
theorem e1_B_X2_push_0 {N : Nat} {l1 : Int64} {u : CSt}  : KE1 (B_X2_push_0 N l1 u) u := by
  unfold B_X2_push_0
  refine KE1_bc (e1_F_X2_put.tr je1_rf) (fun _ _ => ?_)
  refine KE1_pc ?_
  exact KE1_some (fe1_xI je1_rf)
theorem e1_F_X2_push {N : Nat} {l1 : Int64} {u : CSt}  : KE1 (F_X2_push N l1 u) u := by
  unfold F_X2_push
  exact e1_B_X2_push_0.tr je1_rf
theorem e1_B_X2_pop_0 {N : Nat} {u : CSt}  : KE1 (B_X2_pop_0 N u) u := by
  unfold B_X2_pop_0
  refine KE1_pc ?_
  refine KE1_bc (e1_F_X2_numberAt.tr (fe1_xI je1_rf)) (fun _ _ => ?_)
  exact KE1_some je1_rf
theorem e1_F_X2_pop {N : Nat} {u : CSt}  : KE1 (F_X2_pop N u) u := by
  unfold F_X2_pop
  exact e1_B_X2_pop_0.tr je1_rf
theorem e1_B_X2_address_21 {N : Nat} {l3 : Int32} {u : CSt}  : KE1 (B_X2_address_21 N l3 u) u := by
  unfold B_X2_address_21
  refine KE1_bc (e1_F_X2_stop.tr je1_rf) (fun _ _ => ?_)
  exact KE1_some je1_rf
theorem e1_B_X2_address_0 {N : Nat} {l1 : Int32} {l2 : Int32} {l3 : Int32} {u : CSt}  : KE1 (B_X2_address_0 N l1 l2 l3 u) u := by
  unfold B_X2_address_0
  refine KE1_bc (e1_F_X2_pop.tr je1_rf) (fun _ _ => ?_)
  refine KE1_if ?_ ?_
  · skip
    exact e1_B_X2_address_21.tr je1_rf
  · skip
    refine KE1_if ?_ ?_
    · skip
      refine KE1_bc (e1_F_X2_push.tr je1_rf) (fun _ _ => ?_)
      exact KE1_some je1_rf
    · skip
      exact e1_B_X2_address_21.tr je1_rf
theorem e1_F_X2_address {N : Nat} {l1 : Int32} {l2 : Int32} {l3 : Int32} {u : CSt}  : KE1 (F_X2_address N l1 l2 l3 u) u := by
  unfold F_X2_address
  exact e1_B_X2_address_0.tr je1_rf
theorem e1_B_X2_assign_0 {N : Nat} {l1 : Int32} {u : CSt}  : KE1 (B_X2_assign_0 N l1 u) u := by
  unfold B_X2_assign_0
  refine KE1_bc (e1_F_X2_pop.tr je1_rf) (fun _ _ => ?_)
  refine KE1_bc (e1_F_X2_pop.tr je1_rf) (fun _ _ => ?_)
  refine KE1_bc (e1_F_X2_put.tr je1_rf) (fun _ _ => ?_)
  exact KE1_some je1_rf
theorem e1_F_X2_assign {N : Nat} {l1 : Int32} {u : CSt}  : KE1 (F_X2_assign N l1 u) u := by
  unfold F_X2_assign
  exact e1_B_X2_assign_0.tr je1_rf
theorem e1_B_X2_move_0 {N : Nat} {l1 : Int32} {l2 : Int32} {l3 : Int32} {l4 : Int32} {u : CSt}  : KE1 (B_X2_move_0 N l1 l2 l3 l4 u) u := by
  unfold B_X2_move_0
  refine KE1_if ?_ ?_
  · skip
    refine KE1_bc (e1_F_X2_push.tr je1_rf) (fun _ _ => ?_)
    exact KE1_some je1_rf
  · skip
    refine KE1_if ?_ ?_
    · skip
      refine KE1_bc (e1_F_X2_push.tr je1_rf) (fun _ _ => ?_)
      exact KE1_some je1_rf
    · skip
      refine KE1_if ?_ ?_
      · skip
        refine KE1_bc (e1_F_X2_numberAt.tr je1_rf) (fun _ _ => ?_)
        refine KE1_bc (e1_F_X2_push.tr je1_rf) (fun _ _ => ?_)
        exact KE1_some je1_rf
      · skip
        refine KE1_if ?_ ?_
        · skip
          refine KE1_bc (e1_F_X2_numberAt.tr je1_rf) (fun _ _ => ?_)
          refine KE1_bc (e1_F_X2_push.tr je1_rf) (fun _ _ => ?_)
          exact KE1_some je1_rf
        · skip
          refine KE1_if ?_ ?_
          · skip
            refine KE1_bc (e1_F_X1_get.tr je1_rf) (fun _ _ => ?_)
            refine KE1_bc (e1_F_X2_push.tr je1_rf) (fun _ _ => ?_)
            exact KE1_some je1_rf
          · skip
            refine KE1_if ?_ ?_
            · skip
              refine KE1_bc (e1_F_X1_get.tr je1_rf) (fun _ _ => ?_)
              refine KE1_bc (e1_F_X2_push.tr je1_rf) (fun _ _ => ?_)
              exact KE1_some je1_rf
            · skip
              refine KE1_if ?_ ?_
              · skip
                refine KE1_bc (e1_F_X2_pop.tr je1_rf) (fun _ _ => ?_)
                refine KE1_bc (e1_F_X2_put.tr je1_rf) (fun _ _ => ?_)
                exact KE1_some je1_rf
              · skip
                refine KE1_if ?_ ?_
                · skip
                  refine KE1_bc (e1_F_X2_pop.tr je1_rf) (fun _ _ => ?_)
                  refine KE1_bc (e1_F_X2_put.tr je1_rf) (fun _ _ => ?_)
                  exact KE1_some je1_rf
                · skip
                  refine KE1_if ?_ ?_
                  · skip
                    refine KE1_bc (e1_F_X2_pop.tr je1_rf) (fun _ _ => ?_)
                    refine KE1_bc (e1_F_X1_set.tr je1_rf) (fun _ _ => ?_)
                    exact KE1_some je1_rf
                  · skip
                    refine KE1_if ?_ ?_
                    · skip
                      refine KE1_bc (e1_F_X2_address.tr je1_rf) (fun _ _ => ?_)
                      exact KE1_some je1_rf
                    · skip
                      refine KE1_if ?_ ?_
                      · skip
                        refine KE1_bc (e1_F_X2_address.tr je1_rf) (fun _ _ => ?_)
                        exact KE1_some je1_rf
                      · skip
                        refine KE1_if ?_ ?_
                        · skip
                          refine KE1_bc (e1_F_X2_pop.tr je1_rf) (fun _ _ => ?_)
                          refine KE1_bc (e1_F_X2_numberAt.tr je1_rf) (fun _ _ => ?_)
                          refine KE1_bc (e1_F_X2_push.tr je1_rf) (fun _ _ => ?_)
                          exact KE1_some je1_rf
                        · skip
                          refine KE1_if ?_ ?_
                          · skip
                            refine KE1_bc (e1_F_X2_numberAt.tr je1_rf) (fun _ _ => ?_)
                            refine KE1_bc (e1_F_X2_numberAt.tr je1_rf) (fun _ _ => ?_)
                            refine KE1_bc (e1_F_X2_push.tr je1_rf) (fun _ _ => ?_)
                            exact KE1_some je1_rf
                          · skip
                            refine KE1_if ?_ ?_
                            · skip
                              refine KE1_bc (e1_F_X2_numberAt.tr je1_rf) (fun _ _ => ?_)
                              refine KE1_bc (e1_F_X2_numberAt.tr je1_rf) (fun _ _ => ?_)
                              refine KE1_bc (e1_F_X2_push.tr je1_rf) (fun _ _ => ?_)
                              exact KE1_some je1_rf
                            · skip
                              refine KE1_if ?_ ?_
                              · skip
                                refine KE1_bc (e1_F_X2_assign.tr je1_rf) (fun _ _ => ?_)
                                exact KE1_some je1_rf
                              · skip
                                refine KE1_if ?_ ?_
                                · skip
                                  refine KE1_bc (e1_F_X2_pop.tr je1_rf) (fun _ _ => ?_)
                                  exact KE1_some je1_rf
                                · skip
                                  exact KE1_some je1_rf
theorem e1_F_X2_move {N : Nat} {l1 : Int32} {l2 : Int32} {l3 : Int32} {l4 : Int32} {u : CSt}  : KE1 (F_X2_move N l1 l2 l3 l4 u) u := by
  unfold F_X2_move
  exact e1_B_X2_move_0.tr je1_rf
theorem e1_B_X2_reckon_98 {N : Nat} {l5 : Int64} {s1 : Int32} {s2 : Int32} {u : CSt}  : KE1 (B_X2_reckon_98 N l5 s1 s2 u) u := by
  unfold B_X2_reckon_98
  refine KE1_bc (e1_F_X2_pop.tr je1_rf) (fun _ _ => ?_)
  refine KE1_bc (e1_F_X2_push.tr je1_rf) (fun _ _ => ?_)
  exact KE1_some je1_rf
theorem e1_B_X2_reckon_124 {N : Nat} {l5 : Int64} {s1 : Int32} {s2 : Int32} {u : CSt}  : KE1 (B_X2_reckon_124 N l5 s1 s2 u) u := by
  unfold B_X2_reckon_124
  refine KE1_bc (e1_F_X2_push.tr je1_rf) (fun _ _ => ?_)
  exact KE1_some je1_rf
theorem e1_B_X2_reckon_162 {N : Nat} {s1 : Int64} {u : CSt}  : KE1 (B_X2_reckon_162 N s1 u) u := by
  unfold B_X2_reckon_162
  refine KE1_bc (e1_F_X2_push.tr je1_rf) (fun _ _ => ?_)
  exact KE1_some je1_rf
theorem e1_B_X2_reckon_203 {N : Nat} {l5 : Int64} {s1 : Int32} {s2 : Int32} {u : CSt}  : KE1 (B_X2_reckon_203 N l5 s1 s2 u) u := by
  unfold B_X2_reckon_203
  refine KE1_bc (e1_F_X2_pop.tr je1_rf) (fun _ _ => ?_)
  refine KE1_bc (e1_F_X2_push.tr je1_rf) (fun _ _ => ?_)
  exact KE1_some je1_rf
theorem e1_B_X2_reckon_192 {N : Nat} {l2 : Int32} {l3 : Int32} {l5 : Int64} {u : CSt}  : KE1 (B_X2_reckon_192 N l2 l3 l5 u) u := by
  unfold B_X2_reckon_192
  refine KE1_if ?_ ?_
  · skip
    exact e1_B_X2_reckon_203.tr je1_rf
  · skip
    exact e1_B_X2_reckon_203.tr je1_rf
theorem e1_B_X2_reckon_0 {N : Nat} {l1 : Int32} {l2 : Int32} {l3 : Int32} {l4 : Int32} {u : CSt}  : KE1 (B_X2_reckon_0 N l1 l2 l3 l4 u) u := by
  unfold B_X2_reckon_0
  refine KE1_bc (e1_F_X2_pop.tr je1_rf) (fun _ _ => ?_)
  refine KE1_if ?_ ?_
  · skip
    refine KE1_bc (e1_F_X2_push.tr je1_rf) (fun _ _ => ?_)
    exact KE1_some je1_rf
  · skip
    refine KE1_if ?_ ?_
    · skip
      refine KE1_bc (e1_F_X2_pop.tr je1_rf) (fun _ _ => ?_)
      refine KE1_bc (e1_F_X2_push.tr je1_rf) (fun _ _ => ?_)
      exact KE1_some je1_rf
    · skip
      refine KE1_if ?_ ?_
      · skip
        refine KE1_if ?_ ?_
        · skip
          exact e1_B_X2_reckon_98.tr je1_rf
        · skip
          exact e1_B_X2_reckon_98.tr je1_rf
      · skip
        refine KE1_if ?_ ?_
        · skip
          refine KE1_if ?_ ?_
          · skip
            exact e1_B_X2_reckon_124.tr je1_rf
          · skip
            exact e1_B_X2_reckon_124.tr je1_rf
        · skip
          refine KE1_if ?_ ?_
          · skip
            refine KE1_bc (e1_F_X2_push.tr je1_rf) (fun _ _ => ?_)
            exact KE1_some je1_rf
          · skip
            refine KE1_if ?_ ?_
            · skip
              refine KE1_if ?_ ?_
              · skip
                exact e1_B_X2_reckon_162.tr je1_rf
              · skip
                exact e1_B_X2_reckon_162.tr je1_rf
            · skip
              refine KE1_if ?_ ?_
              · skip
                refine KE1_if ?_ ?_
                · skip
                  exact e1_B_X2_reckon_192.tr je1_rf
                · skip
                  refine KE1_bc (e1_F_X2_stop.tr je1_rf) (fun _ _ => ?_)
                  exact KE1_some je1_rf
              · skip
                exact e1_B_X2_reckon_192.tr je1_rf
theorem e1_F_X2_reckon {N : Nat} {l1 : Int32} {l2 : Int32} {l3 : Int32} {l4 : Int32} {u : CSt}  : KE1 (F_X2_reckon N l1 l2 l3 l4 u) u := by
  unfold F_X2_reckon
  exact e1_B_X2_reckon_0.tr je1_rf
theorem e1_B_X2_decide_28 {N : Nat} {l2 : Int32} {s1 : Int64} {u : CSt}  : KE1 (B_X2_decide_28 N l2 s1 u) u := by
  unfold B_X2_decide_28
  refine KE1_bc (e1_F_X2_push.tr je1_rf) (fun _ _ => ?_)
  refine KE1_pc ?_
  exact KE1_some (fe1_xI je1_rf)
theorem e1_B_X2_decide_14 {N : Nat} {l1 : Int32} {l2 : Int32} {s0 : Int32} {u : CSt}  : KE1 (B_X2_decide_14 N l1 l2 s0 u) u := by
  unfold B_X2_decide_14
  refine KE1_if ?_ ?_
  · skip
    refine KE1_if ?_ ?_
    · skip
      exact e1_B_X2_decide_28.tr je1_rf
    · skip
      exact e1_B_X2_decide_28.tr je1_rf
  · skip
    exact KE1_some je1_rf
theorem e1_B_X2_decide_0 {N : Nat} {l1 : Int32} {l2 : Int32} {u : CSt}  : KE1 (B_X2_decide_0 N l1 l2 u) u := by
  unfold B_X2_decide_0
  refine KE1_bc (e1_F_X2_pop.tr je1_rf) (fun _ _ => ?_)
  refine KE1_if ?_ ?_
  · skip
    exact e1_B_X2_decide_14.tr je1_rf
  · skip
    exact e1_B_X2_decide_14.tr je1_rf
theorem e1_F_X2_decide {N : Nat} {l1 : Int32} {l2 : Int32} {u : CSt}  : KE1 (F_X2_decide N l1 l2 u) u := by
  unfold F_X2_decide
  exact e1_B_X2_decide_0.tr je1_rf
theorem e1_B_X2_turn_66 {N : Nat} {s1 : Int32} {u : CSt}  : KE1 (B_X2_turn_66 N s1 u) u := by
  unfold B_X2_turn_66
  refine KE1_pc ?_
  exact KE1_some (fe1_xI je1_rf)
theorem e1_B_X2_turn_117 {N : Nat} {s1 : Int32} {u : CSt}  : KE1 (B_X2_turn_117 N s1 u) u := by
  unfold B_X2_turn_117
  refine KE1_pc ?_
  exact KE1_some (fe1_xI je1_rf)
theorem e1_B_X2_turn_150 {N : Nat} {s1 : Int32} {u : CSt}  : KE1 (B_X2_turn_150 N s1 u) u := by
  unfold B_X2_turn_150
  refine KE1_pc ?_
  exact KE1_some (fe1_xI je1_rf)
theorem e1_B_X2_turn_0 {N : Nat} {l1 : Int32} {l2 : Int32} {l3 : Int32} {u : CSt}  : KE1 (B_X2_turn_0 N l1 l2 l3 u) u := by
  unfold B_X2_turn_0
  refine KE1_if ?_ ?_
  · skip
    refine KE1_pc ?_
    exact KE1_some (fe1_xI je1_rf)
  · skip
    refine KE1_if ?_ ?_
    · skip
      refine KE1_bc (e1_F_X2_pop.tr je1_rf) (fun _ _ => ?_)
      refine KE1_if ?_ ?_
      · skip
        exact e1_B_X2_turn_66.tr je1_rf
      · skip
        exact e1_B_X2_turn_66.tr je1_rf
    · skip
      refine KE1_if ?_ ?_
      · skip
        refine KE1_bc (e1_F_X2_decide.tr je1_rf) (fun _ _ => ?_)
        exact KE1_some je1_rf
      · skip
        refine KE1_if ?_ ?_
        · skip
          refine KE1_bc (e1_F_X2_decide.tr je1_rf) (fun _ _ => ?_)
          exact KE1_some je1_rf
        · skip
          refine KE1_if ?_ ?_
          · skip
            refine KE1_bc (e1_F_X2_pop.tr je1_rf) (fun _ _ => ?_)
            refine KE1_bc (e1_F_X2_numberAt.tr je1_rf) (fun _ _ => ?_)
            refine KE1_if ?_ ?_
            · skip
              exact e1_B_X2_turn_117.tr je1_rf
            · skip
              exact e1_B_X2_turn_117.tr je1_rf
          · skip
            refine KE1_if ?_ ?_
            · skip
              refine KE1_bc (e1_F_X2_pop.tr je1_rf) (fun _ _ => ?_)
              refine KE1_bc (e1_F_X2_numberAt.tr je1_rf) (fun _ _ => ?_)
              refine KE1_if ?_ ?_
              · skip
                exact e1_B_X2_turn_150.tr je1_rf
              · skip
                exact e1_B_X2_turn_150.tr je1_rf
            · skip
              refine KE1_ok ?_
              refine KE1_bc (e1_F_X2_numberAt.tr je1_rf) (fun _ _ => ?_)
              refine KE1_bc (e1_F_X6_liesIn.tr je1_rf) (fun _ _ => ?_)
              refine KE1_if ?_ ?_
              · skip
                refine KE1_pc ?_
                exact KE1_some (fe1_xI je1_rf)
              · skip
                refine KE1_pc ?_
                exact KE1_some (fe1_xI je1_rf)
theorem e1_F_X2_turn {N : Nat} {l1 : Int32} {l2 : Int32} {l3 : Int32} {u : CSt}  : KE1 (F_X2_turn N l1 l2 l3 u) u := by
  unfold F_X2_turn
  exact e1_B_X2_turn_0.tr je1_rf
theorem e1_B_X2_remember_0 {N : Nat} {l1 : Int32} {u : CSt}  : KE1 (B_X2_remember_0 N l1 u) u := by
  unfold B_X2_remember_0
  refine KE1_wc ?_
  refine KE1_wc ?_
  refine KE1_wc ?_
  refine KE1_pc ?_
  exact KE1_some (fe1_xI (fe1_xA (fe1_xA (fe1_xA je1_rf))))
theorem e1_F_X2_remember {N : Nat} {l1 : Int32} {u : CSt}  : KE1 (F_X2_remember N l1 u) u := by
  unfold F_X2_remember
  exact e1_B_X2_remember_0.tr je1_rf
theorem e1_B_X2_comeBack_0 {N : Nat} {u : CSt}  : KE1 (B_X2_comeBack_0 N u) u := by
  unfold B_X2_comeBack_0
  refine KE1_if ?_ ?_
  · skip
    refine KE1_pc ?_
    refine KE1_rd (fun _ => ?_)
    refine KE1_pc ?_
    refine KE1_rd (fun _ => ?_)
    refine KE1_pc ?_
    refine KE1_rd (fun _ => ?_)
    refine KE1_pc ?_
    exact KE1_some (fe1_xI (fe1_xI (fe1_xI (fe1_xI je1_rf))))
  · skip
    refine KE1_pc ?_
    exact KE1_some (fe1_xI je1_rf)
theorem e1_F_X2_comeBack {N : Nat} {u : CSt}  : KE1 (F_X2_comeBack N u) u := by
  unfold F_X2_comeBack
  exact e1_B_X2_comeBack_0.tr je1_rf
theorem e1_B_X2_enterFunction_52 {N : Nat} {R_52 : Nat × Int32 × Int32 × CSt → Option (Int32 × CSt)} {l1 : Nat} {l3 : Int32} {l4 : Int32} {u : CSt} (h_R_52 : ∀ a, KE1 (R_52 a) a.2.2.2) : KE1 (B_X2_enterFunction_52 N R_52 l1 l3 l4 u) u := by
  unfold B_X2_enterFunction_52
  refine KE1_if ?_ ?_
  · skip
    refine KE1_pc ?_
    exact KE1_some (fe1_xI je1_rf)
  · skip
    refine KE1_ok ?_
    refine KE1_bc (e1_F_X6_local.tr je1_rf) (fun _ _ => ?_)
    refine KE1_ok ?_
    refine KE1_bc (e1_F_X2_fill.tr je1_rf) (fun _ _ => ?_)
    exact (h_R_52 _).tr je1_rf
theorem e1_LP_X2_enterFunction_52 {N : Nat}  (n : Nat) : ∀ a : Nat × Int32 × Int32 × CSt, KE1 (LP_X2_enterFunction_52 N n a) a.2.2.2 := by
  induction n with
  | zero => exact fun a r z e => by have e : (none : Option _) = some (r, z) := e; cases e
  | succ n ih =>
    intro a
    show KE1 (B_X2_enterFunction_52 N (LP_X2_enterFunction_52 N n) a.1 a.2.1 a.2.2.1 a.2.2.2) a.2.2.2
    exact e1_B_X2_enterFunction_52 ih
theorem e1_B_X2_enterFunction_0 {N : Nat} {l1 : Nat} {l2 : Int32} {u : CSt}  : KE1 (B_X2_enterFunction_0 N l1 l2 u) u := by
  unfold B_X2_enterFunction_0
  refine KE1_if ?_ ?_
  · skip
    refine KE1_bc (e1_F_X2_remember.tr je1_rf) (fun _ _ => ?_)
    refine KE1_pc ?_
    refine KE1_pc ?_
    exact (e1_LP_X2_enterFunction_52  _ _).tr (fe1_xI (fe1_xI je1_rf))
  · skip
    refine KE1_bc (e1_F_X2_stop.tr je1_rf) (fun _ _ => ?_)
    exact KE1_some je1_rf
theorem e1_F_X2_enterFunction {N : Nat} {l1 : Nat} {l2 : Int32} {u : CSt}  : KE1 (F_X2_enterFunction N l1 l2 u) u := by
  unfold F_X2_enterFunction
  exact e1_B_X2_enterFunction_0.tr je1_rf
theorem e1_B_X2_enterInstance_0 {N : Nat} {l1 : Nat} {l2 : Int32} {u : CSt}  : KE1 (B_X2_enterInstance_0 N l1 l2 u) u := by
  unfold B_X2_enterInstance_0
  refine KE1_if ?_ ?_
  · skip
    refine KE1_bc (e1_F_X2_remember.tr je1_rf) (fun _ _ => ?_)
    refine KE1_pc ?_
    refine KE1_ok ?_
    refine KE1_bc (e1_F_X6_name.tr (fe1_xI je1_rf)) (fun _ _ => ?_)
    refine KE1_ok ?_
    refine KE1_pc ?_
    exact KE1_some (fe1_xI je1_rf)
  · skip
    refine KE1_bc (e1_F_X2_stop.tr je1_rf) (fun _ _ => ?_)
    exact KE1_some je1_rf
theorem e1_F_X2_enterInstance {N : Nat} {l1 : Nat} {l2 : Int32} {u : CSt}  : KE1 (F_X2_enterInstance N l1 l2 u) u := by
  unfold F_X2_enterInstance
  exact e1_B_X2_enterInstance_0.tr je1_rf
theorem e1_B_X2_call_0 {N : Nat} {l1 : Int32} {l2 : Int32} {l3 : Int32} {u : CSt}  : KE1 (B_X2_call_0 N l1 l2 l3 u) u := by
  unfold B_X2_call_0
  refine KE1_if ?_ ?_
  · skip
    refine KE1_ok ?_
    refine KE1_bc (e1_F_X6_name.tr je1_rf) (fun _ _ => ?_)
    refine KE1_ok ?_
    refine KE1_bc (e1_F_X2_enterFunction.tr je1_rf) (fun _ _ => ?_)
    exact KE1_some je1_rf
  · skip
    refine KE1_if ?_ ?_
    · skip
      refine KE1_ok ?_
      refine KE1_bc (e1_F_X6_name.tr je1_rf) (fun _ _ => ?_)
      refine KE1_ok ?_
      refine KE1_bc (e1_F_X2_enterInstance.tr je1_rf) (fun _ _ => ?_)
      exact KE1_some je1_rf
    · skip
      refine KE1_if ?_ ?_
      · skip
        refine KE1_bc (e1_F_X2_pop.tr je1_rf) (fun _ _ => ?_)
        refine KE1_bc (e1_F_X2_comeBack.tr je1_rf) (fun _ _ => ?_)
        refine KE1_bc (e1_F_X2_push.tr je1_rf) (fun _ _ => ?_)
        exact KE1_some je1_rf
      · skip
        refine KE1_if ?_ ?_
        · skip
          refine KE1_bc (e1_F_X2_comeBack.tr je1_rf) (fun _ _ => ?_)
          exact KE1_some je1_rf
        · skip
          refine KE1_bc (e1_F_X2_pop.tr je1_rf) (fun _ _ => ?_)
          refine KE1_pc ?_
          refine KE1_bc (e1_F_X2_stop.tr (fe1_xI je1_rf)) (fun _ _ => ?_)
          exact KE1_some je1_rf
theorem e1_F_X2_call {N : Nat} {l1 : Int32} {l2 : Int32} {l3 : Int32} {u : CSt}  : KE1 (F_X2_call N l1 l2 l3 u) u := by
  unfold F_X2_call
  exact e1_B_X2_call_0.tr je1_rf
theorem e1_B_X2_go_128 {N : Nat} {l1 : Int32} {l2 : Int32} {l3 : Int32} {l4 : Int32} {u : CSt}  : KE1 (B_X2_go_128 N l1 l2 l3 l4 u) u := by
  unfold B_X2_go_128
  refine KE1_if ?_ ?_
  · skip
    refine KE1_if ?_ ?_
    · skip
      refine KE1_if ?_ ?_
      · skip
        refine KE1_bc (e1_F_X2_call.tr je1_rf) (fun _ _ => ?_)
        exact KE1_some je1_rf
      · skip
        refine KE1_bc (e1_F_X2_turn.tr je1_rf) (fun _ _ => ?_)
        exact KE1_some je1_rf
    · skip
      refine KE1_bc (e1_F_X2_reckon.tr je1_rf) (fun _ _ => ?_)
      exact KE1_some je1_rf
  · skip
    refine KE1_bc (e1_F_X2_move.tr je1_rf) (fun _ _ => ?_)
    exact KE1_some je1_rf
theorem e1_B_X2_go_0 {N : Nat} {u : CSt}  : KE1 (B_X2_go_0 N u) u := by
  unfold B_X2_go_0
  refine KE1_if ?_ ?_
  · skip
    refine KE1_pc ?_
    exact KE1_some (fe1_xI je1_rf)
  · skip
    refine KE1_ok ?_
    refine KE1_if ?_ ?_
    · skip
      refine KE1_rd (fun _ => ?_)
      refine KE1_rd (fun _ => ?_)
      refine KE1_rd (fun _ => ?_)
      refine KE1_rd (fun _ => ?_)
      refine KE1_pc ?_
      refine KE1_if ?_ ?_
      · skip
        exact e1_B_X2_go_128.tr (fe1_xI je1_rf)
      · skip
        refine KE1_if ?_ ?_
        · skip
          refine KE1_pc ?_
          exact e1_B_X2_go_128.tr (fe1_xI (fe1_xI je1_rf))
        · skip
          refine KE1_bc (e1_F_X2_stop.tr (fe1_xI je1_rf)) (fun _ _ => ?_)
          exact KE1_some je1_rf
    · skip
      refine KE1_pc ?_
      exact KE1_some (fe1_xI je1_rf)
theorem e1_F_X2_go {N : Nat} {u : CSt}  : KE1 (F_X2_go N u) u := by
  unfold F_X2_go
  exact e1_B_X2_go_0.tr je1_rf
theorem e1_B_X2_run_68 {N : Nat} {R_68 : Int32 × CSt → Option (Int32 × CSt)} {l5 : Int32} {u : CSt} (h_R_68 : ∀ a, KE1 (R_68 a) a.2) : KE1 (B_X2_run_68 N R_68 l5 u) u := by
  unfold B_X2_run_68
  refine KE1_if ?_ ?_
  · skip
    exact KE1_some je1_rf
  · skip
    refine KE1_if ?_ ?_
    · skip
      exact KE1_some je1_rf
    · skip
      refine KE1_bc (e1_F_X2_go.tr je1_rf) (fun _ _ => ?_)
      exact (h_R_68 _).tr je1_rf
theorem e1_LP_X2_run_68 {N : Nat}  (n : Nat) : ∀ a : Int32 × CSt, KE1 (LP_X2_run_68 N n a) a.2 := by
  induction n with
  | zero => exact fun a r z e => by have e : (none : Option _) = some (r, z) := e; cases e
  | succ n ih =>
    intro a
    show KE1 (B_X2_run_68 N (LP_X2_run_68 N n) a.1 a.2) a.2
    exact e1_B_X2_run_68 ih
theorem e1_B_X2_run_0 {N : Nat} {l1 : Nat} {l2 : Int32} {l3 : Int32} {l4 : Int32} {u : CSt}  : KE1 (B_X2_run_0 N l1 l2 l3 l4 u) u := by
  unfold B_X2_run_0
  refine KE1_pc ?_
  refine KE1_pc ?_
  refine KE1_pc ?_
  refine KE1_pc ?_
  refine KE1_pc ?_
  refine KE1_pc ?_
  refine KE1_pc ?_
  refine KE1_pc ?_
  refine KE1_pc ?_
  refine KE1_pc ?_
  refine KE1_pc ?_
  refine KE1_pc ?_
  exact (e1_LP_X2_run_68  _ _).tr (fe1_xI (fe1_xI (fe1_xI (fe1_xI (fe1_xI (fe1_xI (fe1_xI (fe1_xI (fe1_xI (fe1_xI (fe1_xI (fe1_xR je1_rf))))))))))))
theorem e1_F_X2_run {N : Nat} {l1 : Nat} {l2 : Int32} {l3 : Int32} {l4 : Int32} {u : CSt}  : KE1 (F_X2_run N l1 l2 l3 l4 u) u := by
  unfold F_X2_run
  exact e1_B_X2_run_0.tr je1_rf
theorem e1_B_X7_note_0 {N : Nat} {l0 : Nat} {l2 : Int32} {u : CSt}  : KE1 (B_X7_note_0 N l0 l2 u) u := by
  unfold B_X7_note_0
  refine KE1_pc ?_
  refine KE1_pc ?_
  refine KE1_if ?_ ?_
  · skip
    exact KE1_some (fe1_xtI (by decide) (fe1_xtI (by decide) je1_rf))
  · skip
    refine KE1_pc ?_
    refine KE1_pc ?_
    refine KE1_pc ?_
    refine KE1_pc ?_
    refine KE1_pc ?_
    exact KE1_some (fe1_xtI (by decide) (fe1_xtI (by decide) (fe1_xtI (by decide) (fe1_xtI (by decide) (fe1_xtI (by decide) (fe1_xtI (by decide) (fe1_xtI (by decide) je1_rf)))))))
theorem e1_F_X7_note {N : Nat} {l0 : Nat} {l2 : Int32} {u : CSt}  : KE1 (F_X7_note N l0 l2 u) u := by
  unfold F_X7_note
  exact e1_B_X7_note_0.tr je1_rf
theorem e1_B_X11_runTick_89 {N : Nat} {R_11 : Int32 × Int32 × CSt → Option (Int32 × CSt)} {l1 : Int32} {l2 : Int32} {u : CSt} (h_R_11 : ∀ a, KE1 (R_11 a) a.2.2) : KE1 (B_X11_runTick_89 N R_11 l1 l2 u) u := by
  unfold B_X11_runTick_89
  exact (h_R_11 _).tr je1_rf
theorem e1_B_X11_runTick_104 {N : Nat} {R_104 : Int32 × Int32 × CSt → Option (Int32 × CSt)} {l1 : Int32} {l2 : Int32} {u : CSt} (h_R_104 : ∀ a, KE1 (R_104 a) a.2.2) : KE1 (B_X11_runTick_104 N R_104 l1 l2 u) u := by
  unfold B_X11_runTick_104
  refine KE1_if ?_ ?_
  · skip
    refine KE1_pc ?_
    exact KE1_some (fe1_xI je1_rf)
  · skip
    refine KE1_ok ?_
    refine KE1_rd (fun _ => ?_)
    refine KE1_bc (e1_F_X6_nth.tr je1_rf) (fun _ _ => ?_)
    refine KE1_ok ?_
    refine KE1_rd (fun _ => ?_)
    refine KE1_bc (e1_F_X2_numberOf.tr je1_rf) (fun _ _ => ?_)
    refine KE1_bc (e1_F_X10_see.tr je1_rf) (fun _ _ => ?_)
    exact (h_R_104 _).tr je1_rf
theorem e1_LP_X11_runTick_104 {N : Nat}  (n : Nat) : ∀ a : Int32 × Int32 × CSt, KE1 (LP_X11_runTick_104 N n a) a.2.2 := by
  induction n with
  | zero => exact fun a r z e => by have e : (none : Option _) = some (r, z) := e; cases e
  | succ n ih =>
    intro a
    show KE1 (B_X11_runTick_104 N (LP_X11_runTick_104 N n) a.1 a.2.1 a.2.2) a.2.2
    exact e1_B_X11_runTick_104 ih
theorem e1_B_X11_runTick_11 {N : Nat} {R_11 : Int32 × Int32 × CSt → Option (Int32 × CSt)} {l1 : Int32} {l2 : Int32} {u : CSt} (h_R_11 : ∀ a, KE1 (R_11 a) a.2.2) : KE1 (B_X11_runTick_11 N R_11 l1 l2 u) u := by
  unfold B_X11_runTick_11
  refine KE1_ok ?_
  refine KE1_bc (e1_F_X6_ofSort.tr je1_rf) (fun _ _ => ?_)
  refine KE1_if ?_ ?_
  · skip
    refine KE1_bc (e1_F_X1_giveOutputs.tr je1_rf) (fun _ _ => ?_)
    exact (e1_LP_X11_runTick_104  _ _).tr je1_rf
  · skip
    refine KE1_ok ?_
    refine KE1_ix ?_
    refine KE1_if ?_ ?_
    · skip
      refine KE1_bc (e1_F_X7_isDue.tr je1_rf) (fun _ _ => ?_)
      refine KE1_if ?_ ?_
      · skip
        exact (e1_B_X11_runTick_89 h_R_11).tr je1_rf
      · skip
        refine KE1_ok ?_
        refine KE1_bc (e1_F_X2_run.tr je1_rf) (fun _ _ => ?_)
        refine KE1_bc (e1_F_X7_note.tr je1_rf) (fun _ _ => ?_)
        exact (e1_B_X11_runTick_89 h_R_11).tr je1_rf
    · skip
      exact (e1_B_X11_runTick_89 h_R_11).tr je1_rf
theorem e1_LP_X11_runTick_11 {N : Nat}  (n : Nat) : ∀ a : Int32 × Int32 × CSt, KE1 (LP_X11_runTick_11 N n a) a.2.2 := by
  induction n with
  | zero => exact fun a r z e => by have e : (none : Option _) = some (r, z) := e; cases e
  | succ n ih =>
    intro a
    show KE1 (B_X11_runTick_11 N (LP_X11_runTick_11 N n) a.1 a.2.1 a.2.2) a.2.2
    exact e1_B_X11_runTick_11 ih
theorem e1_B_X11_runTick_0 {N : Nat} {u : CSt}  : KE1 (B_X11_runTick_0 N u) u := by
  unfold B_X11_runTick_0
  refine KE1_bc (e1_F_X1_takeInputs.tr je1_rf) (fun _ _ => ?_)
  exact (e1_LP_X11_runTick_11  _ _).tr je1_rf
theorem e1_F_X11_runTick {N : Nat} {u : CSt}  : KE1 (F_X11_runTick N u) u := by
  unfold F_X11_runTick
  exact e1_B_X11_runTick_0.tr je1_rf
theorem e1_B_X11_scan_25 {N : Nat} {R_25 : Int32 × Int32 × Int32 × CSt → Option ((Sum Nat Int32) × CSt)} {l1 : Int32} {l2 : Int32} {l3 : Int32} {u : CSt} (h_R_25 : ∀ a, KE1 (R_25 a) a.2.2.2) : KE1 (B_X11_scan_25 N R_25 l1 l2 l3 u) u := by
  unfold B_X11_scan_25
  refine KE1_if ?_ ?_
  · skip
    exact KE1_some je1_rf
  · skip
    refine KE1_bc (e1_F_X11_runTick.tr je1_rf) (fun _ _ => ?_)
    exact (h_R_25 _).tr je1_rf
theorem e1_LP_X11_scan_25 {N : Nat}  (n : Nat) : ∀ a : Int32 × Int32 × Int32 × CSt, KE1 (LP_X11_scan_25 N n a) a.2.2.2 := by
  induction n with
  | zero => exact fun a r z e => by have e : (none : Option _) = some (r, z) := e; cases e
  | succ n ih =>
    intro a
    show KE1 (B_X11_scan_25 N (LP_X11_scan_25 N n) a.1 a.2.1 a.2.2.1 a.2.2.2) a.2.2.2
    exact e1_B_X11_scan_25 ih
theorem e1_B_X11_scan_0 {N : Nat} {l1 : Int32} {u : CSt}  : KE1 (B_X11_scan_0 N l1 u) u := by
  unfold B_X11_scan_0
  refine KE1_if ?_ ?_
  · skip
    exact KE1_some je1_rf
  · skip
    refine KE1_if ?_ ?_
    · skip
      exact (e1_LP_X11_scan_25  _ _).tr je1_rf
    · skip
      exact KE1_some je1_rf
theorem e1_F_X11_scan {N : Nat} {l1 : Int32} {u : CSt}  : KE1 (F_X11_scan N l1 u) u := by
  unfold F_X11_scan
  exact e1_B_X11_scan_0.tr je1_rf
theorem e1_B_X11_power_50 {N : Nat} {R_2 : Int32 × CSt → Option (Int32 × CSt)} {l1 : Int32} {u : CSt} (h_R_2 : ∀ a, KE1 (R_2 a) a.2) : KE1 (B_X11_power_50 N R_2 l1 u) u := by
  unfold B_X11_power_50
  exact (h_R_2 _).tr je1_rf
theorem e1_B_X11_power_81 {N : Nat} {R_81 : Int32 × CSt → Option (Int32 × CSt)} {l1 : Int32} {u : CSt} (h_R_81 : ∀ a, KE1 (R_81 a) a.2) : KE1 (B_X11_power_81 N R_81 l1 u) u := by
  unfold B_X11_power_81
  refine KE1_ok ?_
  refine KE1_bc (e1_F_X6_ofSort.tr je1_rf) (fun _ _ => ?_)
  refine KE1_if ?_ ?_
  · skip
    exact KE1_some je1_rf
  · skip
    refine KE1_ok ?_
    refine KE1_ix ?_
    refine KE1_pc ?_
    exact (h_R_81 _).tr (fe1_xtI (by decide) je1_rf)
theorem e1_LP_X11_power_81 {N : Nat}  (n : Nat) : ∀ a : Int32 × CSt, KE1 (LP_X11_power_81 N n a) a.2 := by
  induction n with
  | zero => exact fun a r z e => by have e : (none : Option _) = some (r, z) := e; cases e
  | succ n ih =>
    intro a
    show KE1 (B_X11_power_81 N (LP_X11_power_81 N n) a.1 a.2) a.2
    exact e1_B_X11_power_81 ih
theorem e1_B_X11_power_2 {N : Nat} {R_2 : Int32 × CSt → Option (Int32 × CSt)} {l1 : Int32} {u : CSt} (h_R_2 : ∀ a, KE1 (R_2 a) a.2) : KE1 (B_X11_power_2 N R_2 l1 u) u := by
  unfold B_X11_power_2
  refine KE1_ok ?_
  refine KE1_bc (e1_F_X6_ofSort.tr je1_rf) (fun _ _ => ?_)
  refine KE1_if ?_ ?_
  · skip
    refine KE1_ok ?_
    refine KE1_bc (e1_F_X2_resetInstances.tr je1_rf) (fun _ _ => ?_)
    refine KE1_bc (e1_F_X1_wipe.tr je1_rf) (fun _ _ => ?_)
    refine KE1_pc ?_
    exact (e1_LP_X11_power_81  _ _).tr (fe1_xI je1_rf)
  · skip
    refine KE1_ok ?_
    refine KE1_bc (e1_F_X6_nth.tr je1_rf) (fun _ _ => ?_)
    refine KE1_ok ?_
    refine KE1_if ?_ ?_
    · skip
      refine KE1_bc (e1_F_X2_fill.tr je1_rf) (fun _ _ => ?_)
      exact (e1_B_X11_power_50 h_R_2).tr je1_rf
    · skip
      exact (e1_B_X11_power_50 h_R_2).tr je1_rf
theorem e1_LP_X11_power_2 {N : Nat}  (n : Nat) : ∀ a : Int32 × CSt, KE1 (LP_X11_power_2 N n a) a.2 := by
  induction n with
  | zero => exact fun a r z e => by have e : (none : Option _) = some (r, z) := e; cases e
  | succ n ih =>
    intro a
    show KE1 (B_X11_power_2 N (LP_X11_power_2 N n) a.1 a.2) a.2
    exact e1_B_X11_power_2 ih
theorem e1_B_X11_power_0 {N : Nat} {u : CSt}  : KE1 (B_X11_power_0 N u) u := by
  unfold B_X11_power_0
  exact (e1_LP_X11_power_2  _ _).tr je1_rf
theorem e1_F_X11_power {N : Nat} {u : CSt}  : KE1 (F_X11_power N u) u := by
  unfold F_X11_power
  exact e1_B_X11_power_0.tr je1_rf
theorem e1_B_X11_clear_0 {N : Nat} {l1 : Int32} {u : CSt}  : KE1 (B_X11_clear_0 N l1 u) u := by
  unfold B_X11_clear_0
  refine KE1_ok ?_
  refine KE1_bc (e1_F_X6_has.tr je1_rf) (fun _ _ => ?_)
  refine KE1_if ?_ ?_
  · skip
    exact KE1_some je1_rf
  · skip
    refine KE1_ok ?_
    refine KE1_ix ?_
    refine KE1_ix ?_
    refine KE1_pc ?_
    refine KE1_zr ?_
    exact KE1_some (fe1_xtI (by decide) je1_rf)
theorem e1_F_X11_clear {N : Nat} {l1 : Int32} {u : CSt}  : KE1 (F_X11_clear N l1 u) u := by
  unfold F_X11_clear
  exact e1_B_X11_clear_0.tr je1_rf
def je2 (u w : CSt) : Prop := w.2.2.2.2.2.2.1 = u.2.2.2.2.2.2.1 ∧ w.2.2.2.2.2.2.2.1 = u.2.2.2.2.2.2.2.1
def KE2 {β : Type} (x : Option (β × CSt)) (u : CSt) : Prop := ∀ r w, x = some (r, w) → je2 u w
section KE2s
variable {α β γ : Type} {u v w : CSt}
theorem je2_rf : je2 u u := ⟨rfl, rfl⟩
theorem je2_tr (h : je2 u v) (h2 : je2 v w) : je2 u w := ⟨h2.1.trans h.1, h2.2.trans h.2⟩
theorem KE2.tr {x : Option (β × CSt)} (hx : KE2 x w) (h : je2 u w) : KE2 x u := fun r z e => je2_tr h (hx r z e)
theorem fe2_xB {k i : Nat} {a : Int64} (h : je2 u w) : je2 u (xB w k i a) := h
theorem fe2_xG {k : Nat} {g : Nat → Int64} (h : je2 u w) : je2 u (xG w k g) := h
theorem fe2_xI {k : Nat} {a : Int32} (h : je2 u w) : je2 u (xI w k a) := h
theorem fe2_xL {k : Nat} {a : Int64} (h : je2 u w) : je2 u (xL w k a) := h
theorem fe2_xA {k i : Nat} {a : Int32} (h : je2 u w) : je2 u (xA w k i a) := h
theorem fe2_xF {k : Nat} {g : Nat → Int32} (h : je2 u w) : je2 u (xF w k g) := h
theorem fe2_xpI {q k : Nat} {a : Int32} (h : je2 u w) : je2 u (xpI w q k a) := h
theorem fe2_xpA {q k i : Nat} {a : Int32} (h : je2 u w) : je2 u (xpA w q k i a) := h
theorem fe2_xpF {q k : Nat} {g : Nat → Int32} (h : je2 u w) : je2 u (xpF w q k g) := h
theorem fe2_xR {k a : Nat} (h : je2 u w) : je2 u (xR w k a) := h
theorem fe2_xmI {q k : Nat} {a : Int32} (h : je2 u w) : je2 u (xmI w q k a) := h
theorem fe2_xmL {q k : Nat} {a : Int64} (h : je2 u w) : je2 u (xmL w q k a) := h
theorem KE2_some {r : β} (h : je2 u w) : KE2 (some (r, w)) u := fun _ _ e => by cases e; exact h
theorem KE2_none : KE2 (none : Option (β × CSt)) u := fun _ _ e => nomatch e
theorem KE2_rd {f : Nat → α} {n : Nat} {i : Int32} {k : α → Option (β × CSt)} (h : ∀ a, KE2 (k a) u) : KE2 (rd f n i k) u := by
  intro r z e
  have q : wq (rd f n i k) (fun r' z' => r' = r ∧ z' = z) := ⟨r, z, e, rfl, rfl⟩
  obtain ⟨r1, z1, e1, rfl, rfl⟩ := (wq_rd.mp q).2
  exact h _ _ _ e1
theorem KE2_if {c : Prop} {d : Decidable c} {a b : Option (β × CSt)} (ha : KE2 a u) (hb : KE2 b u) : KE2 (if c then a else b) u := by
  by_cases q : c
  · rw [if_pos q]; exact ha
  · rw [if_neg q]; exact hb
theorem KE2_zr {v : Int32} {x : Option (β × CSt)} (h : KE2 x u) : KE2 (zr v x) u := fun r z e => h r z (zr_of e).2
theorem KE2_nz {v : Int32} {x : Option (β × CSt)} (h : KE2 x u) : KE2 (nz v x) u := fun r z e => h r z (nz_of e).2
theorem KE2_ok {P : Prop} {d : Decidable P} {x : Option (β × CSt)} (h : KE2 x u) : KE2 (ok P d x) u := fun r z e => h r z (ok_of e).2
theorem KE2_pc {x : CSt} {k : CSt → Option (β × CSt)} (h : KE2 (k x) u) : KE2 (pc x k) u := h
theorem KE2_wc {n : Nat} {i : Int32} {x : CSt} {k : CSt → Option (β × CSt)} (h : KE2 (k x) u) : KE2 (wc n i x k) u := by
  intro r z e
  have q : wq (wc n i x k) (fun r' z' => r' = r ∧ z' = z) := ⟨r, z, e, rfl, rfl⟩
  obtain ⟨r1, z1, e1, rfl, rfl⟩ := (wq_wc.mp q).2
  exact h _ _ e1
theorem KE2_bc {x : Option (α × CSt)} {k : α → CSt → Option (β × CSt)} (hx : KE2 x u) (h : ∀ r w, KE2 (k r w) w) : KE2 (bc x k) u := by
  intro r z e
  have q : wq (bc x k) (fun r' z' => r' = r ∧ z' = z) := ⟨r, z, e, rfl, rfl⟩
  obtain ⟨r1, z1, e1, r2, z2, e2, rfl, rfl⟩ := wq_bc.mp q
  exact je2_tr (hx _ _ e1) (h _ _ _ _ e2)
theorem KE2_pb {x : Option α} {k : α → Option (β × CSt)} (h : ∀ a, KE2 (k a) u) : KE2 (pb x k) u := by
  intro r z e
  have q : wq (pb x k) (fun r' z' => r' = r ∧ z' = z) := ⟨r, z, e, rfl, rfl⟩
  obtain ⟨a, -, r1, z1, e1, rfl, rfl⟩ := wq_pb.mp q
  exact h _ _ _ e1
theorem KE2_bt {x : Option (Sum Nat α × CSt)} {k : α → CSt → Option (Sum Nat γ × CSt)} (hx : KE2 x u) (h : ∀ r w, KE2 (k r w) w) : KE2 (bt x k) u := by
  intro r z e
  unfold bt at e
  cases hq : x with
  | none => rw [hq] at e; cases e
  | some a =>
    obtain ⟨y, v⟩ := a
    rw [hq] at e
    cases y with
    | inl n => cases e; exact hx _ _ hq
    | inr b => exact je2_tr (hx _ _ hq) (h _ _ _ _ e)
theorem KE2_ix {n : Nat} {i : Int32} {x : Option (β × CSt)} (h : KE2 x u) : KE2 (ix n i x) u := by
  intro r z e
  have q : wq (ix n i x) (fun r' z' => r' = r ∧ z' = z) := ⟨r, z, e, rfl, rfl⟩
  obtain ⟨r1, z1, e1, rfl, rfl⟩ := (wq_ix.mp q).2
  exact h _ _ e1
theorem KE2_bh {x : Option (Sum Nat α × CSt)} {kc : CSt → Option (β × CSt)} {k : α → CSt → Option (β × CSt)} (hx : KE2 x u) (h0 : ∀ w, KE2 (kc w) w) (h : ∀ r w, KE2 (k r w) w) : KE2 (bh x kc k) u := by
  intro r z e
  obtain ⟨y1, w1, e1, ⟨-, e2⟩ | ⟨q, -, e2⟩⟩ := bh_of e
  · exact je2_tr (hx _ _ e1) (h0 _ _ _ e2)
  · exact je2_tr (hx _ _ e1) (h _ _ _ _ e2)
end KE2s
theorem e2_B_X4_isPlaced_23 {N : Nat} {u : CSt}  : KE2 (B_X4_isPlaced_23 N u) u := by
  unfold B_X4_isPlaced_23
  exact KE2_some je2_rf
theorem e2_B_X4_isPlaced_0 {N : Nat} {l0 : Nat} {u : CSt}  : KE2 (B_X4_isPlaced_0 N l0 u) u := by
  unfold B_X4_isPlaced_0
  refine KE2_if ?_ ?_
  · skip
    refine KE2_if ?_ ?_
    · skip
      exact e2_B_X4_isPlaced_23.tr je2_rf
    · skip
      refine KE2_if ?_ ?_
      · skip
        exact e2_B_X4_isPlaced_23.tr je2_rf
      · skip
        exact KE2_some je2_rf
  · skip
    exact KE2_some je2_rf
theorem e2_F_X4_isPlaced {N : Nat} {l0 : Nat} {u : CSt}  : KE2 (F_X4_isPlaced N l0 u) u := by
  unfold F_X4_isPlaced
  exact e2_B_X4_isPlaced_0.tr je2_rf
theorem e2_B_X4_isInput_0 {N : Nat} {l0 : Nat} {u : CSt}  : KE2 (B_X4_isInput_0 N l0 u) u := by
  unfold B_X4_isInput_0
  refine KE2_if ?_ ?_
  · skip
    refine KE2_if ?_ ?_
    · skip
      exact KE2_some je2_rf
    · skip
      exact KE2_some je2_rf
  · skip
    exact KE2_some je2_rf
theorem e2_F_X4_isInput {N : Nat} {l0 : Nat} {u : CSt}  : KE2 (F_X4_isInput N l0 u) u := by
  unfold F_X4_isInput
  exact e2_B_X4_isInput_0.tr je2_rf
theorem e2_B_X10_forget_0 {N : Nat} {u : CSt}  : KE2 (B_X10_forget_0 N u) u := by
  unfold B_X10_forget_0
  refine KE2_pc ?_
  refine KE2_pc ?_
  refine KE2_pc ?_
  exact KE2_some (fe2_xI (fe2_xI (fe2_xI je2_rf)))
theorem e2_F_X10_forget {N : Nat} {u : CSt}  : KE2 (F_X10_forget N u) u := by
  unfold F_X10_forget
  exact e2_B_X10_forget_0.tr je2_rf
theorem e2_B_X10_indexOf_32 {N : Nat} {R_2 : Int32 × Int32 × Int32 × CSt → Option (Int32 × CSt)} {l1 : Int32} {l2 : Int32} {l3 : Int32} {u : CSt} (h_R_2 : ∀ a, KE2 (R_2 a) a.2.2.2) : KE2 (B_X10_indexOf_32 N R_2 l1 l2 l3 u) u := by
  unfold B_X10_indexOf_32
  exact (h_R_2 _).tr je2_rf
theorem e2_B_X10_indexOf_2 {N : Nat} {R_2 : Int32 × Int32 × Int32 × CSt → Option (Int32 × CSt)} {l1 : Int32} {l2 : Int32} {l3 : Int32} {u : CSt} (h_R_2 : ∀ a, KE2 (R_2 a) a.2.2.2) : KE2 (B_X10_indexOf_2 N R_2 l1 l2 l3 u) u := by
  unfold B_X10_indexOf_2
  refine KE2_if ?_ ?_
  · skip
    exact KE2_some je2_rf
  · skip
    refine KE2_rd (fun _ => ?_)
    refine KE2_if ?_ ?_
    · skip
      refine KE2_rd (fun _ => ?_)
      refine KE2_if ?_ ?_
      · skip
        exact KE2_some je2_rf
      · skip
        exact (e2_B_X10_indexOf_32 h_R_2).tr je2_rf
    · skip
      exact (e2_B_X10_indexOf_32 h_R_2).tr je2_rf
theorem e2_LP_X10_indexOf_2 {N : Nat}  (n : Nat) : ∀ a : Int32 × Int32 × Int32 × CSt, KE2 (LP_X10_indexOf_2 N n a) a.2.2.2 := by
  induction n with
  | zero => exact fun a r z e => by have e : (none : Option _) = some (r, z) := e; cases e
  | succ n ih =>
    intro a
    show KE2 (B_X10_indexOf_2 N (LP_X10_indexOf_2 N n) a.1 a.2.1 a.2.2.1 a.2.2.2) a.2.2.2
    exact e2_B_X10_indexOf_2 ih
theorem e2_B_X10_indexOf_0 {N : Nat} {l1 : Int32} {l2 : Int32} {u : CSt}  : KE2 (B_X10_indexOf_0 N l1 l2 u) u := by
  unfold B_X10_indexOf_0
  exact (e2_LP_X10_indexOf_2  _ _).tr je2_rf
theorem e2_F_X10_indexOf {N : Nat} {l1 : Int32} {l2 : Int32} {u : CSt}  : KE2 (F_X10_indexOf N l1 l2 u) u := by
  unfold F_X10_indexOf
  exact e2_B_X10_indexOf_0.tr je2_rf
theorem e2_B_X10_begin_0 {N : Nat} {l1 : Int32} {l2 : Int32} {l3 : Int64} {u : CSt}  : KE2 (B_X10_begin_0 N l1 l2 l3 u) u := by
  unfold B_X10_begin_0
  refine KE2_if ?_ ?_
  · skip
    exact KE2_some je2_rf
  · skip
    refine KE2_wc ?_
    refine KE2_wc ?_
    refine KE2_wc ?_
    refine KE2_pc ?_
    exact KE2_some (fe2_xI (fe2_xB (fe2_xA (fe2_xA je2_rf))))
theorem e2_F_X10_begin {N : Nat} {l1 : Int32} {l2 : Int32} {l3 : Int64} {u : CSt}  : KE2 (F_X10_begin N l1 l2 l3 u) u := by
  unfold F_X10_begin
  exact e2_B_X10_begin_0.tr je2_rf
theorem e2_B_X10_leave_64 {N : Nat} {u : CSt}  : KE2 (B_X10_leave_64 N u) u := by
  unfold B_X10_leave_64
  refine KE2_pc ?_
  exact KE2_some (fe2_xI je2_rf)
theorem e2_B_X10_leave_2 {N : Nat} {R_2 : Int32 × CSt → Option (Int32 × CSt)} {l2 : Int32} {u : CSt} (h_R_2 : ∀ a, KE2 (R_2 a) a.2) : KE2 (B_X10_leave_2 N R_2 l2 u) u := by
  unfold B_X10_leave_2
  refine KE2_if ?_ ?_
  · skip
    exact e2_B_X10_leave_64.tr je2_rf
  · skip
    refine KE2_if ?_ ?_
    · skip
      exact e2_B_X10_leave_64.tr je2_rf
    · skip
      refine KE2_rd (fun _ => ?_)
      refine KE2_wc ?_
      refine KE2_rd (fun _ => ?_)
      refine KE2_wc ?_
      refine KE2_rd (fun _ => ?_)
      refine KE2_wc ?_
      exact (h_R_2 _).tr (fe2_xB (fe2_xA (fe2_xA je2_rf)))
theorem e2_LP_X10_leave_2 {N : Nat}  (n : Nat) : ∀ a : Int32 × CSt, KE2 (LP_X10_leave_2 N n a) a.2 := by
  induction n with
  | zero => exact fun a r z e => by have e : (none : Option _) = some (r, z) := e; cases e
  | succ n ih =>
    intro a
    show KE2 (B_X10_leave_2 N (LP_X10_leave_2 N n) a.1 a.2) a.2
    exact e2_B_X10_leave_2 ih
theorem e2_B_X10_leave_0 {N : Nat} {l1 : Int32} {u : CSt}  : KE2 (B_X10_leave_0 N l1 u) u := by
  unfold B_X10_leave_0
  exact (e2_LP_X10_leave_2  _ _).tr je2_rf
theorem e2_F_X10_leave {N : Nat} {l1 : Int32} {u : CSt}  : KE2 (F_X10_leave N l1 u) u := by
  unfold F_X10_leave
  exact e2_B_X10_leave_0.tr je2_rf
theorem e2_B_X6_ofSort_0 {N : Nat} {l0 : Nat} {l1 : Int32} {u : CSt}  : KE2 (B_X6_ofSort_0 N l0 l1 u) u := by
  unfold B_X6_ofSort_0
  refine KE2_rd (fun _ => ?_)
  exact KE2_some je2_rf
theorem e2_F_X6_ofSort {N : Nat} {l0 : Nat} {l1 : Int32} {u : CSt}  : KE2 (F_X6_ofSort N l0 l1 u) u := by
  unfold F_X6_ofSort
  exact e2_B_X6_ofSort_0.tr je2_rf
theorem e2_B_X6_has_0 {N : Nat} {l0 : Nat} {l1 : Int32} {l2 : Int32} {u : CSt}  : KE2 (B_X6_has_0 N l0 l1 l2 u) u := by
  unfold B_X6_has_0
  refine KE2_if ?_ ?_
  · skip
    exact KE2_some je2_rf
  · skip
    refine KE2_rd (fun _ => ?_)
    refine KE2_if ?_ ?_
    · skip
      exact KE2_some je2_rf
    · skip
      exact KE2_some je2_rf
theorem e2_F_X6_has {N : Nat} {l0 : Nat} {l1 : Int32} {l2 : Int32} {u : CSt}  : KE2 (F_X6_has N l0 l1 l2 u) u := by
  unfold F_X6_has
  exact e2_B_X6_has_0.tr je2_rf
theorem e2_B_X6_name_0 {N : Nat} {l0 : Nat} {l1 : Int32} {u : CSt}  : KE2 (B_X6_name_0 N l0 l1 u) u := by
  unfold B_X6_name_0
  refine KE2_if ?_ ?_
  · skip
    exact KE2_some je2_rf
  · skip
    refine KE2_if ?_ ?_
    · skip
      exact KE2_some je2_rf
    · skip
      refine KE2_ix ?_
      exact KE2_some je2_rf
theorem e2_F_X6_name {N : Nat} {l0 : Nat} {l1 : Int32} {u : CSt}  : KE2 (F_X6_name N l0 l1 u) u := by
  unfold F_X6_name
  exact e2_B_X6_name_0.tr je2_rf
theorem e2_B_X6_nth_0 {N : Nat} {l0 : Nat} {l1 : Int32} {l2 : Int32} {u : CSt}  : KE2 (B_X6_nth_0 N l0 l1 l2 u) u := by
  unfold B_X6_nth_0
  refine KE2_bc (e2_F_X6_has.tr je2_rf) (fun _ _ => ?_)
  refine KE2_if ?_ ?_
  · skip
    exact KE2_some je2_rf
  · skip
    refine KE2_ix ?_
    refine KE2_rd (fun _ => ?_)
    refine KE2_bc (e2_F_X6_name.tr je2_rf) (fun _ _ => ?_)
    refine KE2_ok ?_
    exact KE2_some je2_rf
theorem e2_F_X6_nth {N : Nat} {l0 : Nat} {l1 : Int32} {l2 : Int32} {u : CSt}  : KE2 (F_X6_nth N l0 l1 l2 u) u := by
  unfold F_X6_nth
  exact e2_B_X6_nth_0.tr je2_rf
theorem e2_B_X6_local_0 {N : Nat} {l0 : Nat} {l1 : Nat} {l2 : Int32} {u : CSt}  : KE2 (B_X6_local_0 N l0 l1 l2 u) u := by
  unfold B_X6_local_0
  refine KE2_if ?_ ?_
  · skip
    exact KE2_some je2_rf
  · skip
    refine KE2_if ?_ ?_
    · skip
      exact KE2_some je2_rf
    · skip
      refine KE2_bc (e2_F_X6_name.tr je2_rf) (fun _ _ => ?_)
      refine KE2_ok ?_
      exact KE2_some je2_rf
theorem e2_F_X6_local {N : Nat} {l0 : Nat} {l1 : Nat} {l2 : Int32} {u : CSt}  : KE2 (F_X6_local N l0 l1 l2 u) u := by
  unfold F_X6_local
  exact e2_B_X6_local_0.tr je2_rf
theorem e2_B_X6_ofText_52 {N : Nat} {R_3 : Nat × Int64 × Int32 × Int32 × CSt → Option (Nat × CSt)} {l0 : Nat} {l1 : Int64} {l3 : Int32} {l4 : Int32} {u : CSt} (h_R_3 : ∀ a, KE2 (R_3 a) a.2.2.2.2) : KE2 (B_X6_ofText_52 N R_3 l0 l1 l3 l4 u) u := by
  unfold B_X6_ofText_52
  exact (h_R_3 _).tr je2_rf
theorem e2_B_X6_ofText_61 {N : Nat} {R_61 : Nat × Int64 × Int32 × Int32 × CSt → Option (Nat × CSt)} {l0 : Nat} {l1 : Int64} {l3 : Int32} {l4 : Int32} {u : CSt} (h_R_61 : ∀ a, KE2 (R_61 a) a.2.2.2.2) : KE2 (B_X6_ofText_61 N R_61 l0 l1 l3 l4 u) u := by
  unfold B_X6_ofText_61
  refine KE2_if ?_ ?_
  · skip
    exact KE2_some je2_rf
  · skip
    refine KE2_if ?_ ?_
    · skip
      refine KE2_ix ?_
      refine KE2_if ?_ ?_
      · skip
        refine KE2_ix ?_
        exact KE2_some je2_rf
      · skip
        exact (h_R_61 _).tr je2_rf
    · skip
      exact KE2_some je2_rf
theorem e2_LP_X6_ofText_61 {N : Nat}  (n : Nat) : ∀ a : Nat × Int64 × Int32 × Int32 × CSt, KE2 (LP_X6_ofText_61 N n a) a.2.2.2.2 := by
  induction n with
  | zero => exact fun a r z e => by have e : (none : Option _) = some (r, z) := e; cases e
  | succ n ih =>
    intro a
    show KE2 (B_X6_ofText_61 N (LP_X6_ofText_61 N n) a.1 a.2.1 a.2.2.1 a.2.2.2.1 a.2.2.2.2) a.2.2.2.2
    exact e2_B_X6_ofText_61 ih
theorem e2_B_X6_ofText_3 {N : Nat} {R_3 : Nat × Int64 × Int32 × Int32 × CSt → Option (Nat × CSt)} {l0 : Nat} {l1 : Int64} {l3 : Int32} {l4 : Int32} {u : CSt} (h_R_3 : ∀ a, KE2 (R_3 a) a.2.2.2.2) : KE2 (B_X6_ofText_3 N R_3 l0 l1 l3 l4 u) u := by
  unfold B_X6_ofText_3
  refine KE2_if ?_ ?_
  · skip
    exact (e2_LP_X6_ofText_61  _ _).tr je2_rf
  · skip
    refine KE2_ix ?_
    refine KE2_if ?_ ?_
    · skip
      refine KE2_if ?_ ?_
      · skip
        refine KE2_if ?_ ?_
        · skip
          exact (e2_B_X6_ofText_52 h_R_3).tr je2_rf
        · skip
          exact KE2_some je2_rf
      · skip
        exact (e2_B_X6_ofText_52 h_R_3).tr je2_rf
    · skip
      exact (e2_B_X6_ofText_52 h_R_3).tr je2_rf
theorem e2_LP_X6_ofText_3 {N : Nat}  (n : Nat) : ∀ a : Nat × Int64 × Int32 × Int32 × CSt, KE2 (LP_X6_ofText_3 N n a) a.2.2.2.2 := by
  induction n with
  | zero => exact fun a r z e => by have e : (none : Option _) = some (r, z) := e; cases e
  | succ n ih =>
    intro a
    show KE2 (B_X6_ofText_3 N (LP_X6_ofText_3 N n) a.1 a.2.1 a.2.2.1 a.2.2.2.1 a.2.2.2.2) a.2.2.2.2
    exact e2_B_X6_ofText_3 ih
theorem e2_B_X6_ofText_0 {N : Nat} {l0 : Nat} {l1 : Int64} {l3 : Int32} {u : CSt}  : KE2 (B_X6_ofText_0 N l0 l1 l3 u) u := by
  unfold B_X6_ofText_0
  exact (e2_LP_X6_ofText_3  _ _).tr je2_rf
theorem e2_F_X6_ofText {N : Nat} {l0 : Nat} {l1 : Int64} {l3 : Int32} {u : CSt}  : KE2 (F_X6_ofText N l0 l1 l3 u) u := by
  unfold F_X6_ofText
  exact e2_B_X6_ofText_0.tr je2_rf
theorem e2_B_X6_stoppedTasks_32 {N : Nat} {R_4 : Nat × Int32 × Int32 × CSt → Option (Int32 × CSt)} {l0 : Nat} {l2 : Int32} {s0 : Int32} {s1 : Int32} {u : CSt} (h_R_4 : ∀ a, KE2 (R_4 a) a.2.2.2) : KE2 (B_X6_stoppedTasks_32 N R_4 l0 l2 s0 s1 u) u := by
  unfold B_X6_stoppedTasks_32
  exact (h_R_4 _).tr je2_rf
theorem e2_B_X6_stoppedTasks_4 {N : Nat} {R_4 : Nat × Int32 × Int32 × CSt → Option (Int32 × CSt)} {l0 : Nat} {l1 : Int32} {l2 : Int32} {u : CSt} (h_R_4 : ∀ a, KE2 (R_4 a) a.2.2.2) : KE2 (B_X6_stoppedTasks_4 N R_4 l0 l1 l2 u) u := by
  unfold B_X6_stoppedTasks_4
  refine KE2_rd (fun _ => ?_)
  refine KE2_if ?_ ?_
  · skip
    exact KE2_some je2_rf
  · skip
    refine KE2_ix ?_
    refine KE2_if ?_ ?_
    · skip
      exact (e2_B_X6_stoppedTasks_32 h_R_4).tr je2_rf
    · skip
      exact (e2_B_X6_stoppedTasks_32 h_R_4).tr je2_rf
theorem e2_LP_X6_stoppedTasks_4 {N : Nat}  (n : Nat) : ∀ a : Nat × Int32 × Int32 × CSt, KE2 (LP_X6_stoppedTasks_4 N n a) a.2.2.2 := by
  induction n with
  | zero => exact fun a r z e => by have e : (none : Option _) = some (r, z) := e; cases e
  | succ n ih =>
    intro a
    show KE2 (B_X6_stoppedTasks_4 N (LP_X6_stoppedTasks_4 N n) a.1 a.2.1 a.2.2.1 a.2.2.2) a.2.2.2
    exact e2_B_X6_stoppedTasks_4 ih
theorem e2_B_X6_stoppedTasks_0 {N : Nat} {l0 : Nat} {u : CSt}  : KE2 (B_X6_stoppedTasks_0 N l0 u) u := by
  unfold B_X6_stoppedTasks_0
  exact (e2_LP_X6_stoppedTasks_4  _ _).tr je2_rf
theorem e2_F_X6_stoppedTasks {N : Nat} {l0 : Nat} {u : CSt}  : KE2 (F_X6_stoppedTasks N l0 u) u := by
  unfold F_X6_stoppedTasks
  exact e2_B_X6_stoppedTasks_0.tr je2_rf
theorem e2_B_X9_byteAt_0 {N : Nat} {l1 : Int32} {u : CSt}  : KE2 (B_X9_byteAt_0 N l1 u) u := by
  unfold B_X9_byteAt_0
  refine KE2_if ?_ ?_
  · skip
    exact KE2_some je2_rf
  · skip
    refine KE2_if ?_ ?_
    · skip
      exact KE2_some je2_rf
    · skip
      refine KE2_if ?_ ?_
      · skip
        exact KE2_some je2_rf
      · skip
        refine KE2_rd (fun _ => ?_)
        exact KE2_some je2_rf
theorem e2_F_X9_byteAt {N : Nat} {l1 : Int32} {u : CSt}  : KE2 (F_X9_byteAt N l1 u) u := by
  unfold F_X9_byteAt
  exact e2_B_X9_byteAt_0.tr je2_rf
theorem e2_B_X9_isWord_20 {N : Nat} {R_20 : Int32 × Int32 × CSt → Option (Int32 × CSt)} {l1 : Int32} {l2 : Int32} {u : CSt} (h_R_20 : ∀ a, KE2 (R_20 a) a.2.2) : KE2 (B_X9_isWord_20 N R_20 l1 l2 u) u := by
  unfold B_X9_isWord_20
  refine KE2_if ?_ ?_
  · skip
    exact KE2_some je2_rf
  · skip
    refine KE2_bc (e2_F_X9_byteAt.tr je2_rf) (fun _ _ => ?_)
    refine KE2_pb (fun _ => ?_)
    refine KE2_if ?_ ?_
    · skip
      exact KE2_some je2_rf
    · skip
      exact (h_R_20 _).tr je2_rf
theorem e2_LP_X9_isWord_20 {N : Nat}  (n : Nat) : ∀ a : Int32 × Int32 × CSt, KE2 (LP_X9_isWord_20 N n a) a.2.2 := by
  induction n with
  | zero => exact fun a r z e => by have e : (none : Option _) = some (r, z) := e; cases e
  | succ n ih =>
    intro a
    show KE2 (B_X9_isWord_20 N (LP_X9_isWord_20 N n) a.1 a.2.1 a.2.2) a.2.2
    exact e2_B_X9_isWord_20 ih
theorem e2_B_X9_isWord_0 {N : Nat} {l1 : Int32} {u : CSt}  : KE2 (B_X9_isWord_0 N l1 u) u := by
  unfold B_X9_isWord_0
  refine KE2_pc ?_
  refine KE2_if ?_ ?_
  · skip
    exact KE2_some (fe2_xI je2_rf)
  · skip
    refine KE2_if ?_ ?_
    · skip
      exact (e2_LP_X9_isWord_20  _ _).tr (fe2_xI je2_rf)
    · skip
      exact KE2_some (fe2_xI je2_rf)
theorem e2_F_X9_isWord {N : Nat} {l1 : Int32} {u : CSt}  : KE2 (F_X9_isWord N l1 u) u := by
  unfold F_X9_isWord
  exact e2_B_X9_isWord_0.tr je2_rf
theorem e2_B_X9_wordHead_5 {N : Nat} {R_5 : Int32 × Int32 × Int64 × Int32 × CSt → Option (Int64 × CSt)} {l1 : Int32} {l2 : Int32} {l3 : Int64} {l5 : Int32} {u : CSt} (h_R_5 : ∀ a, KE2 (R_5 a) a.2.2.2.2) : KE2 (B_X9_wordHead_5 N R_5 l1 l2 l3 l5 u) u := by
  unfold B_X9_wordHead_5
  refine KE2_if ?_ ?_
  · skip
    exact KE2_some je2_rf
  · skip
    refine KE2_if ?_ ?_
    · skip
      exact KE2_some je2_rf
    · skip
      refine KE2_bc (e2_F_X9_byteAt.tr je2_rf) (fun _ _ => ?_)
      exact (h_R_5 _).tr je2_rf
theorem e2_LP_X9_wordHead_5 {N : Nat}  (n : Nat) : ∀ a : Int32 × Int32 × Int64 × Int32 × CSt, KE2 (LP_X9_wordHead_5 N n a) a.2.2.2.2 := by
  induction n with
  | zero => exact fun a r z e => by have e : (none : Option _) = some (r, z) := e; cases e
  | succ n ih =>
    intro a
    show KE2 (B_X9_wordHead_5 N (LP_X9_wordHead_5 N n) a.1 a.2.1 a.2.2.1 a.2.2.2.1 a.2.2.2.2) a.2.2.2.2
    exact e2_B_X9_wordHead_5 ih
theorem e2_B_X9_wordHead_0 {N : Nat} {l1 : Int32} {l2 : Int32} {u : CSt}  : KE2 (B_X9_wordHead_0 N l1 l2 u) u := by
  unfold B_X9_wordHead_0
  exact (e2_LP_X9_wordHead_5  _ _).tr je2_rf
theorem e2_F_X9_wordHead {N : Nat} {l1 : Int32} {l2 : Int32} {u : CSt}  : KE2 (F_X9_wordHead N l1 l2 u) u := by
  unfold F_X9_wordHead
  exact e2_B_X9_wordHead_0.tr je2_rf
theorem e2_B_X9_wordTail_8 {N : Nat} {R_8 : Int32 × Int32 × Int32 × CSt → Option (Int32 × CSt)} {l2 : Int32} {l3 : Int32} {l4 : Int32} {u : CSt} (h_R_8 : ∀ a, KE2 (R_8 a) a.2.2.2) : KE2 (B_X9_wordTail_8 N R_8 l2 l3 l4 u) u := by
  unfold B_X9_wordTail_8
  refine KE2_if ?_ ?_
  · skip
    exact KE2_some je2_rf
  · skip
    refine KE2_bc (e2_F_X9_byteAt.tr je2_rf) (fun _ _ => ?_)
    exact (h_R_8 _).tr je2_rf
theorem e2_LP_X9_wordTail_8 {N : Nat}  (n : Nat) : ∀ a : Int32 × Int32 × Int32 × CSt, KE2 (LP_X9_wordTail_8 N n a) a.2.2.2 := by
  induction n with
  | zero => exact fun a r z e => by have e : (none : Option _) = some (r, z) := e; cases e
  | succ n ih =>
    intro a
    show KE2 (B_X9_wordTail_8 N (LP_X9_wordTail_8 N n) a.1 a.2.1 a.2.2.1 a.2.2.2) a.2.2.2
    exact e2_B_X9_wordTail_8 ih
theorem e2_B_X9_wordTail_0 {N : Nat} {l1 : Int32} {l2 : Int32} {u : CSt}  : KE2 (B_X9_wordTail_0 N l1 l2 u) u := by
  unfold B_X9_wordTail_0
  exact (e2_LP_X9_wordTail_8  _ _).tr je2_rf
theorem e2_F_X9_wordTail {N : Nat} {l1 : Int32} {l2 : Int32} {u : CSt}  : KE2 (F_X9_wordTail N l1 l2 u) u := by
  unfold F_X9_wordTail
  exact e2_B_X9_wordTail_0.tr je2_rf
theorem e2_B_X10_latest_0 {N : Nat} {l1 : Int32} {u : CSt}  : KE2 (B_X10_latest_0 N l1 u) u := by
  unfold B_X10_latest_0
  refine KE2_pb (fun _ => ?_)
  exact KE2_some je2_rf
theorem e2_F_X10_latest {N : Nat} {l1 : Int32} {u : CSt}  : KE2 (F_X10_latest N l1 u) u := by
  unfold F_X10_latest
  exact e2_B_X10_latest_0.tr je2_rf
theorem e2_B_X1_wipe_0 {N : Nat} {u : CSt}  : KE2 (B_X1_wipe_0 N u) u := by
  unfold B_X1_wipe_0
  refine KE2_ix ?_
  refine KE2_pc ?_
  refine KE2_ix ?_
  refine KE2_pc ?_
  exact KE2_some (fe2_xF (fe2_xF je2_rf))
theorem e2_F_X1_wipe {N : Nat} {u : CSt}  : KE2 (F_X1_wipe N u) u := by
  unfold F_X1_wipe
  exact e2_B_X1_wipe_0.tr je2_rf
theorem e2_B_X1_get_57 {N : Nat} {l3 : Int32} {l4 : Int64} {u : CSt}  : KE2 (B_X1_get_57 N l3 l4 u) u := by
  unfold B_X1_get_57
  exact KE2_some je2_rf
theorem e2_B_X1_get_6 {N : Nat} {R_6 : Int32 × Int32 × Int32 × Int64 × Int32 × CSt → Option (Int64 × CSt)} {l1 : Int32} {l2 : Int32} {l3 : Int32} {l4 : Int64} {l6 : Int32} {u : CSt} (h_R_6 : ∀ a, KE2 (R_6 a) a.2.2.2.2.2) : KE2 (B_X1_get_6 N R_6 l1 l2 l3 l4 l6 u) u := by
  unfold B_X1_get_6
  refine KE2_rd (fun _ => ?_)
  refine KE2_if ?_ ?_
  · skip
    exact e2_B_X1_get_57.tr je2_rf
  · skip
    refine KE2_if ?_ ?_
    · skip
      exact e2_B_X1_get_57.tr je2_rf
    · skip
      refine KE2_if ?_ ?_
      · skip
        exact e2_B_X1_get_57.tr je2_rf
      · skip
        refine KE2_ix ?_
        refine KE2_rd (fun _ => ?_)
        exact (h_R_6 _).tr je2_rf
theorem e2_LP_X1_get_6 {N : Nat}  (n : Nat) : ∀ a : Int32 × Int32 × Int32 × Int64 × Int32 × CSt, KE2 (LP_X1_get_6 N n a) a.2.2.2.2.2 := by
  induction n with
  | zero => exact fun a r z e => by have e : (none : Option _) = some (r, z) := e; cases e
  | succ n ih =>
    intro a
    show KE2 (B_X1_get_6 N (LP_X1_get_6 N n) a.1 a.2.1 a.2.2.1 a.2.2.2.1 a.2.2.2.2.1 a.2.2.2.2.2) a.2.2.2.2.2
    exact e2_B_X1_get_6 ih
theorem e2_B_X1_get_0 {N : Nat} {l1 : Int32} {l2 : Int32} {l3 : Int32} {u : CSt}  : KE2 (B_X1_get_0 N l1 l2 l3 u) u := by
  unfold B_X1_get_0
  exact (e2_LP_X1_get_6  _ _).tr je2_rf
theorem e2_F_X1_get {N : Nat} {l1 : Int32} {l2 : Int32} {l3 : Int32} {u : CSt}  : KE2 (F_X1_get N l1 l2 l3 u) u := by
  unfold F_X1_get
  exact e2_B_X1_get_0.tr je2_rf
theorem e2_B_X1_set_13 {N : Nat} {R_13 : Int64 × Int32 × Int32 × CSt → Option (Int32 × CSt)} {l3 : Int64} {l5 : Int32} {l6 : Int32} {u : CSt} (h_R_13 : ∀ a, KE2 (R_13 a) a.2.2.2) : KE2 (B_X1_set_13 N R_13 l3 l5 l6 u) u := by
  unfold B_X1_set_13
  refine KE2_if ?_ ?_
  · skip
    exact KE2_some je2_rf
  · skip
    refine KE2_if ?_ ?_
    · skip
      exact KE2_some je2_rf
    · skip
      refine KE2_if ?_ ?_
      · skip
        exact KE2_some je2_rf
      · skip
        refine KE2_ix ?_
        refine KE2_wc ?_
        exact (h_R_13 _).tr (fe2_xA je2_rf)
theorem e2_LP_X1_set_13 {N : Nat}  (n : Nat) : ∀ a : Int64 × Int32 × Int32 × CSt, KE2 (LP_X1_set_13 N n a) a.2.2.2 := by
  induction n with
  | zero => exact fun a r z e => by have e : (none : Option _) = some (r, z) := e; cases e
  | succ n ih =>
    intro a
    show KE2 (B_X1_set_13 N (LP_X1_set_13 N n) a.1 a.2.1 a.2.2.1 a.2.2.2) a.2.2.2
    exact e2_B_X1_set_13 ih
theorem e2_B_X1_set_0 {N : Nat} {l1 : Int32} {l2 : Int32} {l3 : Int64} {u : CSt}  : KE2 (B_X1_set_0 N l1 l2 l3 u) u := by
  unfold B_X1_set_0
  refine KE2_rd (fun _ => ?_)
  exact (e2_LP_X1_set_13  _ _).tr je2_rf
theorem e2_F_X1_set {N : Nat} {l1 : Int32} {l2 : Int32} {l3 : Int64} {u : CSt}  : KE2 (F_X1_set N l1 l2 l3 u) u := by
  unfold F_X1_set
  exact e2_B_X1_set_0.tr je2_rf
theorem e2_B_X2_numberAt_0 {N : Nat} {l1 : Int32} {u : CSt}  : KE2 (B_X2_numberAt_0 N l1 u) u := by
  unfold B_X2_numberAt_0
  refine KE2_if ?_ ?_
  · skip
    exact KE2_some je2_rf
  · skip
    refine KE2_if ?_ ?_
    · skip
      exact KE2_some je2_rf
    · skip
      refine KE2_rd (fun _ => ?_)
      exact KE2_some je2_rf
theorem e2_F_X2_numberAt {N : Nat} {l1 : Int32} {u : CSt}  : KE2 (F_X2_numberAt N l1 u) u := by
  unfold F_X2_numberAt
  exact e2_B_X2_numberAt_0.tr je2_rf
theorem e2_B_X2_put_0 {N : Nat} {l1 : Int32} {l2 : Int64} {u : CSt}  : KE2 (B_X2_put_0 N l1 l2 u) u := by
  unfold B_X2_put_0
  refine KE2_if ?_ ?_
  · skip
    exact KE2_some je2_rf
  · skip
    refine KE2_if ?_ ?_
    · skip
      exact KE2_some je2_rf
    · skip
      refine KE2_wc ?_
      exact KE2_some (fe2_xB je2_rf)
theorem e2_F_X2_put {N : Nat} {l1 : Int32} {l2 : Int64} {u : CSt}  : KE2 (F_X2_put N l1 l2 u) u := by
  unfold F_X2_put
  exact e2_B_X2_put_0.tr je2_rf
theorem e2_B_X2_fill_3 {N : Nat} {R_3 : Int32 × Int32 × Int64 × Int32 × CSt → Option (Int32 × CSt)} {l1 : Int32} {l2 : Int32} {l3 : Int64} {l5 : Int32} {u : CSt} (h_R_3 : ∀ a, KE2 (R_3 a) a.2.2.2.2) : KE2 (B_X2_fill_3 N R_3 l1 l2 l3 l5 u) u := by
  unfold B_X2_fill_3
  refine KE2_if ?_ ?_
  · skip
    exact KE2_some je2_rf
  · skip
    refine KE2_bc (e2_F_X2_put.tr je2_rf) (fun _ _ => ?_)
    exact (h_R_3 _).tr je2_rf
theorem e2_LP_X2_fill_3 {N : Nat}  (n : Nat) : ∀ a : Int32 × Int32 × Int64 × Int32 × CSt, KE2 (LP_X2_fill_3 N n a) a.2.2.2.2 := by
  induction n with
  | zero => exact fun a r z e => by have e : (none : Option _) = some (r, z) := e; cases e
  | succ n ih =>
    intro a
    show KE2 (B_X2_fill_3 N (LP_X2_fill_3 N n) a.1 a.2.1 a.2.2.1 a.2.2.2.1 a.2.2.2.2) a.2.2.2.2
    exact e2_B_X2_fill_3 ih
theorem e2_B_X2_fill_0 {N : Nat} {l1 : Int32} {l2 : Int32} {l3 : Int64} {u : CSt}  : KE2 (B_X2_fill_0 N l1 l2 l3 u) u := by
  unfold B_X2_fill_0
  exact (e2_LP_X2_fill_3  _ _).tr je2_rf
theorem e2_F_X2_fill {N : Nat} {l1 : Int32} {l2 : Int32} {l3 : Int64} {u : CSt}  : KE2 (F_X2_fill N l1 l2 l3 u) u := by
  unfold F_X2_fill
  exact e2_B_X2_fill_0.tr je2_rf
theorem e2_B_X2_numberOf_23 {N : Nat} {l1 : Nat} {s1 : Int32} {u : CSt}  : KE2 (B_X2_numberOf_23 N l1 s1 u) u := by
  unfold B_X2_numberOf_23
  refine KE2_bc (e2_F_X1_get.tr je2_rf) (fun _ _ => ?_)
  exact KE2_some je2_rf
theorem e2_B_X2_numberOf_0 {N : Nat} {l1 : Nat} {l2 : Int32} {u : CSt}  : KE2 (B_X2_numberOf_0 N l1 l2 u) u := by
  unfold B_X2_numberOf_0
  refine KE2_bc (e2_F_X4_isPlaced.tr je2_rf) (fun _ _ => ?_)
  refine KE2_if ?_ ?_
  · skip
    refine KE2_bc (e2_F_X2_numberAt.tr je2_rf) (fun _ _ => ?_)
    exact KE2_some je2_rf
  · skip
    refine KE2_bc (e2_F_X4_isInput.tr je2_rf) (fun _ _ => ?_)
    refine KE2_if ?_ ?_
    · skip
      exact e2_B_X2_numberOf_23.tr je2_rf
    · skip
      exact e2_B_X2_numberOf_23.tr je2_rf
theorem e2_F_X2_numberOf {N : Nat} {l1 : Nat} {l2 : Int32} {u : CSt}  : KE2 (F_X2_numberOf N l1 l2 u) u := by
  unfold F_X2_numberOf
  exact e2_B_X2_numberOf_0.tr je2_rf
theorem e2_B_X2_change_0 {N : Nat} {l1 : Nat} {l2 : Int32} {l3 : Int64} {u : CSt}  : KE2 (B_X2_change_0 N l1 l2 l3 u) u := by
  unfold B_X2_change_0
  refine KE2_bc (e2_F_X4_isPlaced.tr je2_rf) (fun _ _ => ?_)
  refine KE2_if ?_ ?_
  · skip
    refine KE2_bc (e2_F_X2_put.tr je2_rf) (fun _ _ => ?_)
    exact KE2_some je2_rf
  · skip
    refine KE2_bc (e2_F_X1_set.tr je2_rf) (fun _ _ => ?_)
    exact KE2_some je2_rf
theorem e2_F_X2_change {N : Nat} {l1 : Nat} {l2 : Int32} {l3 : Int64} {u : CSt}  : KE2 (F_X2_change N l1 l2 l3 u) u := by
  unfold F_X2_change
  exact e2_B_X2_change_0.tr je2_rf
theorem e2_B_X2_keep_17 {N : Nat} {R_17 : Nat × Nat × Int32 × CSt → Option (Int32 × CSt)} {l1 : Nat} {l2 : Nat} {l3 : Int32} {u : CSt} (h_R_17 : ∀ a, KE2 (R_17 a) a.2.2.2) : KE2 (B_X2_keep_17 N R_17 l1 l2 l3 u) u := by
  unfold B_X2_keep_17
  refine KE2_if ?_ ?_
  · skip
    exact KE2_some je2_rf
  · skip
    refine KE2_if ?_ ?_
    · skip
      exact KE2_some je2_rf
    · skip
      refine KE2_if ?_ ?_
      · skip
        exact KE2_some je2_rf
      · skip
        refine KE2_rd (fun _ => ?_)
        refine KE2_bc (e2_F_X2_put.tr je2_rf) (fun _ _ => ?_)
        exact (h_R_17 _).tr je2_rf
theorem e2_LP_X2_keep_17 {N : Nat}  (n : Nat) : ∀ a : Nat × Nat × Int32 × CSt, KE2 (LP_X2_keep_17 N n a) a.2.2.2 := by
  induction n with
  | zero => exact fun a r z e => by have e : (none : Option _) = some (r, z) := e; cases e
  | succ n ih =>
    intro a
    show KE2 (B_X2_keep_17 N (LP_X2_keep_17 N n) a.1 a.2.1 a.2.2.1 a.2.2.2) a.2.2.2
    exact e2_B_X2_keep_17 ih
theorem e2_B_X2_keep_0 {N : Nat} {l1 : Nat} {l2 : Nat} {u : CSt}  : KE2 (B_X2_keep_0 N l1 l2 u) u := by
  unfold B_X2_keep_0
  refine KE2_if ?_ ?_
  · skip
    refine KE2_bc (e2_F_X4_isPlaced.tr je2_rf) (fun _ _ => ?_)
    refine KE2_if ?_ ?_
    · skip
      exact (e2_LP_X2_keep_17  _ _).tr je2_rf
    · skip
      exact KE2_some je2_rf
  · skip
    exact KE2_some je2_rf
theorem e2_F_X2_keep {N : Nat} {l1 : Nat} {l2 : Nat} {u : CSt}  : KE2 (F_X2_keep N l1 l2 u) u := by
  unfold F_X2_keep
  exact e2_B_X2_keep_0.tr je2_rf
theorem e2_B_X2_resetInstances_31 {N : Nat} {R_2 : Nat × Int32 × CSt → Option (Int32 × CSt)} {R_31 : Nat × Int32 × Nat × Nat × Int32 × CSt → Option (Int32 × CSt)} {l1 : Nat} {l2 : Int32} {l3 : Nat} {l4 : Nat} {l5 : Int32} {u : CSt} (h_R_2 : ∀ a, KE2 (R_2 a) a.2.2) (h_R_31 : ∀ a, KE2 (R_31 a) a.2.2.2.2.2) : KE2 (B_X2_resetInstances_31 N R_2 R_31 l1 l2 l3 l4 l5 u) u := by
  unfold B_X2_resetInstances_31
  refine KE2_if ?_ ?_
  · skip
    exact (h_R_2 _).tr je2_rf
  · skip
    refine KE2_bc (e2_F_X6_local.tr je2_rf) (fun _ _ => ?_)
    refine KE2_ok ?_
    refine KE2_bc (e2_F_X2_fill.tr je2_rf) (fun _ _ => ?_)
    exact (h_R_31 _).tr je2_rf
theorem e2_LP_X2_resetInstances_31 {N : Nat} {R_2 : Nat × Int32 × CSt → Option (Int32 × CSt)} (h_R_2 : ∀ a, KE2 (R_2 a) a.2.2) (n : Nat) : ∀ a : Nat × Int32 × Nat × Nat × Int32 × CSt, KE2 (LP_X2_resetInstances_31 N R_2 n a) a.2.2.2.2.2 := by
  induction n with
  | zero => exact fun a r z e => by have e : (none : Option _) = some (r, z) := e; cases e
  | succ n ih =>
    intro a
    show KE2 (B_X2_resetInstances_31 N R_2 (LP_X2_resetInstances_31 N R_2 n) a.1 a.2.1 a.2.2.1 a.2.2.2.1 a.2.2.2.2.1 a.2.2.2.2.2) a.2.2.2.2.2
    exact e2_B_X2_resetInstances_31 h_R_2 ih
theorem e2_B_X2_resetInstances_2 {N : Nat} {R_2 : Nat × Int32 × CSt → Option (Int32 × CSt)} {l1 : Nat} {l2 : Int32} {u : CSt} (h_R_2 : ∀ a, KE2 (R_2 a) a.2.2) : KE2 (B_X2_resetInstances_2 N R_2 l1 l2 u) u := by
  unfold B_X2_resetInstances_2
  refine KE2_bc (e2_F_X6_ofSort.tr je2_rf) (fun _ _ => ?_)
  refine KE2_if ?_ ?_
  · skip
    exact KE2_some je2_rf
  · skip
    refine KE2_bc (e2_F_X6_nth.tr je2_rf) (fun _ _ => ?_)
    refine KE2_ok ?_
    refine KE2_bc (e2_F_X6_name.tr je2_rf) (fun _ _ => ?_)
    refine KE2_ok ?_
    exact (e2_LP_X2_resetInstances_31 h_R_2 _ _).tr je2_rf
theorem e2_LP_X2_resetInstances_2 {N : Nat}  (n : Nat) : ∀ a : Nat × Int32 × CSt, KE2 (LP_X2_resetInstances_2 N n a) a.2.2 := by
  induction n with
  | zero => exact fun a r z e => by have e : (none : Option _) = some (r, z) := e; cases e
  | succ n ih =>
    intro a
    show KE2 (B_X2_resetInstances_2 N (LP_X2_resetInstances_2 N n) a.1 a.2.1 a.2.2) a.2.2
    exact e2_B_X2_resetInstances_2 ih
theorem e2_B_X2_resetInstances_0 {N : Nat} {l1 : Nat} {u : CSt}  : KE2 (B_X2_resetInstances_0 N l1 u) u := by
  unfold B_X2_resetInstances_0
  exact (e2_LP_X2_resetInstances_2  _ _).tr je2_rf
theorem e2_F_X2_resetInstances {N : Nat} {l1 : Nat} {u : CSt}  : KE2 (F_X2_resetInstances N l1 u) u := by
  unfold F_X2_resetInstances
  exact e2_B_X2_resetInstances_0.tr je2_rf
theorem e2_B_X2_install_89 {N : Nat} {R_19 : Nat × Nat × Int32 × Int32 × CSt → Option (Int32 × CSt)} {l1 : Nat} {l2 : Nat} {l3 : Int32} {l4 : Int32} {u : CSt} (h_R_19 : ∀ a, KE2 (R_19 a) a.2.2.2.2) : KE2 (B_X2_install_89 N R_19 l1 l2 l3 l4 u) u := by
  unfold B_X2_install_89
  exact (h_R_19 _).tr je2_rf
theorem e2_B_X2_install_19 {N : Nat} {R_19 : Nat × Nat × Int32 × Int32 × CSt → Option (Int32 × CSt)} {l1 : Nat} {l2 : Nat} {l3 : Int32} {l4 : Int32} {u : CSt} (h_R_19 : ∀ a, KE2 (R_19 a) a.2.2.2.2) : KE2 (B_X2_install_19 N R_19 l1 l2 l3 l4 u) u := by
  unfold B_X2_install_19
  refine KE2_bc (e2_F_X6_ofSort.tr je2_rf) (fun _ _ => ?_)
  refine KE2_if ?_ ?_
  · skip
    refine KE2_bc (e2_F_X2_resetInstances.tr je2_rf) (fun _ _ => ?_)
    exact KE2_some je2_rf
  · skip
    refine KE2_bc (e2_F_X6_nth.tr je2_rf) (fun _ _ => ?_)
    refine KE2_ok ?_
    refine KE2_bc (e2_F_X4_isPlaced.tr je2_rf) (fun _ _ => ?_)
    refine KE2_if ?_ ?_
    · skip
      refine KE2_bc (e2_F_X2_fill.tr je2_rf) (fun _ _ => ?_)
      refine KE2_if ?_ ?_
      · skip
        exact (e2_B_X2_install_89 h_R_19).tr je2_rf
      · skip
        refine KE2_bc (e2_F_X6_ofText.tr je2_rf) (fun _ _ => ?_)
        refine KE2_ok ?_
        refine KE2_bc (e2_F_X2_keep.tr je2_rf) (fun _ _ => ?_)
        exact (e2_B_X2_install_89 h_R_19).tr je2_rf
    · skip
      exact (e2_B_X2_install_89 h_R_19).tr je2_rf
theorem e2_LP_X2_install_19 {N : Nat}  (n : Nat) : ∀ a : Nat × Nat × Int32 × Int32 × CSt, KE2 (LP_X2_install_19 N n a) a.2.2.2.2 := by
  induction n with
  | zero => exact fun a r z e => by have e : (none : Option _) = some (r, z) := e; cases e
  | succ n ih =>
    intro a
    show KE2 (B_X2_install_19 N (LP_X2_install_19 N n) a.1 a.2.1 a.2.2.1 a.2.2.2.1 a.2.2.2.2) a.2.2.2.2
    exact e2_B_X2_install_19 ih
theorem e2_B_X2_install_0 {N : Nat} {l1 : Nat} {l2 : Nat} {l3 : Int32} {u : CSt}  : KE2 (B_X2_install_0 N l1 l2 l3 u) u := by
  unfold B_X2_install_0
  refine KE2_pc ?_
  exact (e2_LP_X2_install_19  _ _).tr (fe2_xG je2_rf)
theorem e2_F_X2_install {N : Nat} {l1 : Nat} {l2 : Nat} {l3 : Int32} {u : CSt}  : KE2 (F_X2_install N l1 l2 l3 u) u := by
  unfold F_X2_install
  exact e2_B_X2_install_0.tr je2_rf
theorem e2_B_X11_append_3 {N : Nat} {R_3 : Int32 × Int32 × CSt → Option (Int32 × CSt)} {l1 : Int32} {l2 : Int32} {u : CSt} (h_R_3 : ∀ a, KE2 (R_3 a) a.2.2) : KE2 (B_X11_append_3 N R_3 l1 l2 u) u := by
  unfold B_X11_append_3
  refine KE2_if ?_ ?_
  · skip
    exact KE2_some je2_rf
  · skip
    refine KE2_if ?_ ?_
    · skip
      exact KE2_some je2_rf
    · skip
      refine KE2_wc ?_
      refine KE2_pc ?_
      exact (h_R_3 _).tr (fe2_xI (fe2_xA je2_rf))
theorem e2_LP_X11_append_3 {N : Nat}  (n : Nat) : ∀ a : Int32 × Int32 × CSt, KE2 (LP_X11_append_3 N n a) a.2.2 := by
  induction n with
  | zero => exact fun a r z e => by have e : (none : Option _) = some (r, z) := e; cases e
  | succ n ih =>
    intro a
    show KE2 (B_X11_append_3 N (LP_X11_append_3 N n) a.1 a.2.1 a.2.2) a.2.2
    exact e2_B_X11_append_3 ih
theorem e2_B_X11_append_0 {N : Nat} {l1 : Int32} {u : CSt}  : KE2 (B_X11_append_0 N l1 u) u := by
  unfold B_X11_append_0
  exact (e2_LP_X11_append_3  _ _).tr je2_rf
theorem e2_F_X11_append {N : Nat} {l1 : Int32} {u : CSt}  : KE2 (F_X11_append N l1 u) u := by
  unfold F_X11_append
  exact e2_B_X11_append_0.tr je2_rf
theorem e2_B_X11_feed_0 {N : Nat} {l1 : Int32} {l2 : Int32} {l3 : Int32} {l4 : Int32} {l5 : Int32} {u : CSt}  : KE2 (B_X11_feed_0 N l1 l2 l3 l4 l5 u) u := by
  unfold B_X11_feed_0
  refine KE2_if ?_ ?_
  · skip
    refine KE2_bc (e2_F_X11_append.tr je2_rf) (fun _ _ => ?_)
    refine KE2_bc (e2_F_X11_append.tr je2_rf) (fun _ _ => ?_)
    refine KE2_bc (e2_F_X11_append.tr je2_rf) (fun _ _ => ?_)
    refine KE2_bc (e2_F_X11_append.tr je2_rf) (fun _ _ => ?_)
    refine KE2_bc (e2_F_X11_append.tr je2_rf) (fun _ _ => ?_)
    exact KE2_some je2_rf
  · skip
    exact KE2_some je2_rf
theorem e2_F_X11_feed {N : Nat} {l1 : Int32} {l2 : Int32} {l3 : Int32} {l4 : Int32} {l5 : Int32} {u : CSt}  : KE2 (F_X11_feed N l1 l2 l3 l4 l5 u) u := by
  unfold F_X11_feed
  exact e2_B_X11_feed_0.tr je2_rf
theorem e2_B_X11_end_0 {N : Nat} {l1 : Int32} {u : CSt}  : KE2 (B_X11_end_0 N l1 u) u := by
  unfold B_X11_end_0
  refine KE2_if ?_ ?_
  · skip
    exact KE2_some je2_rf
  · skip
    refine KE2_if ?_ ?_
    · skip
      refine KE2_pc ?_
      exact KE2_some (fe2_xI je2_rf)
    · skip
      exact KE2_some je2_rf
theorem e2_F_X11_end {N : Nat} {l1 : Int32} {u : CSt}  : KE2 (F_X11_end N l1 u) u := by
  unfold F_X11_end
  exact e2_B_X11_end_0.tr je2_rf
theorem e2_B_X11_place_0 {N : Nat} {u : CSt}  : KE2 (B_X11_place_0 N u) u := by
  unfold B_X11_place_0
  exact KE2_some je2_rf
theorem e2_F_X11_place {N : Nat} {u : CSt}  : KE2 (F_X11_place N u) u := by
  unfold F_X11_place
  exact e2_B_X11_place_0.tr je2_rf
theorem e2_B_X11_hasPlace_0 {N : Nat} {l1 : Int32} {l2 : Int32} {u : CSt}  : KE2 (B_X11_hasPlace_0 N l1 l2 u) u := by
  unfold B_X11_hasPlace_0
  refine KE2_ok ?_
  refine KE2_bc (e2_F_X6_has.tr je2_rf) (fun _ _ => ?_)
  refine KE2_if ?_ ?_
  · skip
    exact KE2_some je2_rf
  · skip
    refine KE2_if ?_ ?_
    · skip
      exact KE2_some je2_rf
    · skip
      refine KE2_ok ?_
      refine KE2_bc (e2_F_X6_nth.tr je2_rf) (fun _ _ => ?_)
      refine KE2_ok ?_
      refine KE2_if ?_ ?_
      · skip
        exact KE2_some je2_rf
      · skip
        exact KE2_some je2_rf
theorem e2_F_X11_hasPlace {N : Nat} {l1 : Int32} {l2 : Int32} {u : CSt}  : KE2 (F_X11_hasPlace N l1 l2 u) u := by
  unfold F_X11_hasPlace
  exact e2_B_X11_hasPlace_0.tr je2_rf
theorem e2_B_X11_input_0 {N : Nat} {l1 : Int32} {l2 : Int32} {u : CSt}  : KE2 (B_X11_input_0 N l1 l2 u) u := by
  unfold B_X11_input_0
  refine KE2_if ?_ ?_
  · skip
    exact KE2_some je2_rf
  · skip
    refine KE2_if ?_ ?_
    · skip
      refine KE2_ix ?_
      refine KE2_wc ?_
      exact KE2_some (fe2_xA je2_rf)
    · skip
      exact KE2_some je2_rf
theorem e2_F_X11_input {N : Nat} {l1 : Int32} {l2 : Int32} {u : CSt}  : KE2 (F_X11_input N l1 l2 u) u := by
  unfold F_X11_input
  exact e2_B_X11_input_0.tr je2_rf
theorem e2_B_X11_look_0 {N : Nat} {l1 : Int32} {l2 : Int32} {u : CSt}  : KE2 (B_X11_look_0 N l1 l2 u) u := by
  unfold B_X11_look_0
  refine KE2_if ?_ ?_
  · skip
    exact KE2_some je2_rf
  · skip
    refine KE2_if ?_ ?_
    · skip
      refine KE2_if ?_ ?_
      · skip
        exact KE2_some je2_rf
      · skip
        refine KE2_if ?_ ?_
        · skip
          refine KE2_ix ?_
          refine KE2_rd (fun _ => ?_)
          exact KE2_some je2_rf
        · skip
          exact KE2_some je2_rf
    · skip
      exact KE2_some je2_rf
theorem e2_F_X11_look {N : Nat} {l1 : Int32} {l2 : Int32} {u : CSt}  : KE2 (F_X11_look N l1 l2 u) u := by
  unfold F_X11_look
  exact e2_B_X11_look_0.tr je2_rf
theorem e2_B_X11_force_62 {N : Nat} {l2 : Int32} {l3 : Int32} {l4 : Int32} {s1 : Int32} {u : CSt}  : KE2 (B_X11_force_62 N l2 l3 l4 s1 u) u := by
  unfold B_X11_force_62
  refine KE2_ix ?_
  refine KE2_wc ?_
  exact KE2_some (fe2_xA je2_rf)
theorem e2_B_X11_force_36 {N : Nat} {l1 : Int32} {l2 : Int32} {l3 : Int32} {l4 : Int32} {s1 : Int32} {u : CSt}  : KE2 (B_X11_force_36 N l1 l2 l3 l4 s1 u) u := by
  unfold B_X11_force_36
  refine KE2_ix ?_
  refine KE2_wc ?_
  refine KE2_if ?_ ?_
  · skip
    exact e2_B_X11_force_62.tr (fe2_xA je2_rf)
  · skip
    exact e2_B_X11_force_62.tr (fe2_xA je2_rf)
theorem e2_B_X11_force_0 {N : Nat} {l1 : Int32} {l2 : Int32} {l3 : Int32} {l4 : Int32} {u : CSt}  : KE2 (B_X11_force_0 N l1 l2 l3 l4 u) u := by
  unfold B_X11_force_0
  refine KE2_if ?_ ?_
  · skip
    exact KE2_some je2_rf
  · skip
    refine KE2_if ?_ ?_
    · skip
      refine KE2_if ?_ ?_
      · skip
        exact e2_B_X11_force_36.tr je2_rf
      · skip
        exact e2_B_X11_force_36.tr je2_rf
    · skip
      exact KE2_some je2_rf
theorem e2_F_X11_force {N : Nat} {l1 : Int32} {l2 : Int32} {l3 : Int32} {l4 : Int32} {u : CSt}  : KE2 (F_X11_force N l1 l2 l3 l4 u) u := by
  unfold F_X11_force
  exact e2_B_X11_force_0.tr je2_rf
theorem e2_B_X11_watchdog_0 {N : Nat} {l1 : Int32} {u : CSt}  : KE2 (B_X11_watchdog_0 N l1 u) u := by
  unfold B_X11_watchdog_0
  refine KE2_if ?_ ?_
  · skip
    exact KE2_some je2_rf
  · skip
    refine KE2_if ?_ ?_
    · skip
      refine KE2_pc ?_
      exact KE2_some (fe2_xI je2_rf)
    · skip
      exact KE2_some je2_rf
theorem e2_F_X11_watchdog {N : Nat} {l1 : Int32} {u : CSt}  : KE2 (F_X11_watchdog N l1 u) u := by
  unfold F_X11_watchdog
  exact e2_B_X11_watchdog_0.tr je2_rf
theorem e2_B_X11_task_0 {N : Nat} {l1 : Int32} {l2 : Int32} {u : CSt}  : KE2 (B_X11_task_0 N l1 l2 u) u := by
  unfold B_X11_task_0
  refine KE2_ok ?_
  refine KE2_bc (e2_F_X6_has.tr je2_rf) (fun _ _ => ?_)
  refine KE2_if ?_ ?_
  · skip
    exact KE2_some je2_rf
  · skip
    refine KE2_ok ?_
    refine KE2_ix ?_
    refine KE2_if ?_ ?_
    · skip
      exact KE2_some je2_rf
    · skip
      refine KE2_if ?_ ?_
      · skip
        exact KE2_some je2_rf
      · skip
        refine KE2_if ?_ ?_
        · skip
          refine KE2_if ?_ ?_
          · skip
            exact KE2_some je2_rf
          · skip
            exact KE2_some je2_rf
        · skip
          refine KE2_if ?_ ?_
          · skip
            exact KE2_some je2_rf
          · skip
            refine KE2_if ?_ ?_
            · skip
              exact KE2_some je2_rf
            · skip
              refine KE2_if ?_ ?_
              · skip
                exact KE2_some je2_rf
              · skip
                refine KE2_if ?_ ?_
                · skip
                  exact KE2_some je2_rf
                · skip
                  refine KE2_if ?_ ?_
                  · skip
                    exact KE2_some je2_rf
                  · skip
                    refine KE2_if ?_ ?_
                    · skip
                      exact KE2_some je2_rf
                    · skip
                      exact KE2_some je2_rf
theorem e2_F_X11_task {N : Nat} {l1 : Int32} {l2 : Int32} {u : CSt}  : KE2 (F_X11_task N l1 l2 u) u := by
  unfold F_X11_task
  exact e2_B_X11_task_0.tr je2_rf
theorem e2_B_X11_value_0 {N : Nat} {l1 : Int32} {l2 : Int32} {u : CSt}  : KE2 (B_X11_value_0 N l1 l2 u) u := by
  unfold B_X11_value_0
  refine KE2_bc (e2_F_X11_hasPlace.tr je2_rf) (fun _ _ => ?_)
  refine KE2_if ?_ ?_
  · skip
    exact KE2_some je2_rf
  · skip
    refine KE2_ok ?_
    refine KE2_bc (e2_F_X6_nth.tr je2_rf) (fun _ _ => ?_)
    refine KE2_ok ?_
    refine KE2_bc (e2_F_X2_numberOf.tr je2_rf) (fun _ _ => ?_)
    exact KE2_some je2_rf
theorem e2_F_X11_value {N : Nat} {l1 : Int32} {l2 : Int32} {u : CSt}  : KE2 (F_X11_value N l1 l2 u) u := by
  unfold F_X11_value
  exact e2_B_X11_value_0.tr je2_rf
theorem e2_B_X11_poke_0 {N : Nat} {l1 : Int32} {l2 : Int32} {l3 : Int64} {u : CSt}  : KE2 (B_X11_poke_0 N l1 l2 l3 u) u := by
  unfold B_X11_poke_0
  refine KE2_bc (e2_F_X11_hasPlace.tr je2_rf) (fun _ _ => ?_)
  refine KE2_if ?_ ?_
  · skip
    exact KE2_some je2_rf
  · skip
    refine KE2_ok ?_
    refine KE2_bc (e2_F_X6_nth.tr je2_rf) (fun _ _ => ?_)
    refine KE2_ok ?_
    refine KE2_if ?_ ?_
    · skip
      exact KE2_some je2_rf
    · skip
      refine KE2_bc (e2_F_X2_change.tr je2_rf) (fun _ _ => ?_)
      refine KE2_bc (e2_F_X2_numberOf.tr je2_rf) (fun _ _ => ?_)
      exact KE2_some je2_rf
theorem e2_F_X11_poke {N : Nat} {l1 : Int32} {l2 : Int32} {l3 : Int64} {u : CSt}  : KE2 (F_X11_poke N l1 l2 l3 u) u := by
  unfold F_X11_poke
  exact e2_B_X11_poke_0.tr je2_rf
theorem e2_B_X11_variable_0 {N : Nat} {l1 : Int32} {l2 : Int32} {u : CSt}  : KE2 (B_X11_variable_0 N l1 l2 u) u := by
  unfold B_X11_variable_0
  refine KE2_ok ?_
  refine KE2_bc (e2_F_X6_has.tr je2_rf) (fun _ _ => ?_)
  refine KE2_if ?_ ?_
  · skip
    exact KE2_some je2_rf
  · skip
    refine KE2_ok ?_
    refine KE2_bc (e2_F_X6_nth.tr je2_rf) (fun _ _ => ?_)
    refine KE2_ok ?_
    refine KE2_if ?_ ?_
    · skip
      exact KE2_some je2_rf
    · skip
      refine KE2_if ?_ ?_
      · skip
        exact KE2_some je2_rf
      · skip
        refine KE2_if ?_ ?_
        · skip
          exact KE2_some je2_rf
        · skip
          refine KE2_if ?_ ?_
          · skip
            refine KE2_if ?_ ?_
            · skip
              exact KE2_some je2_rf
            · skip
              exact KE2_some je2_rf
          · skip
            refine KE2_if ?_ ?_
            · skip
              refine KE2_bc (e2_F_X4_isPlaced.tr je2_rf) (fun _ _ => ?_)
              refine KE2_if ?_ ?_
              · skip
                exact KE2_some je2_rf
              · skip
                exact KE2_some je2_rf
            · skip
              exact KE2_some je2_rf
theorem e2_F_X11_variable {N : Nat} {l1 : Int32} {l2 : Int32} {u : CSt}  : KE2 (F_X11_variable N l1 l2 u) u := by
  unfold F_X11_variable
  exact e2_B_X11_variable_0.tr je2_rf
theorem e2_B_X11_field_0 {N : Nat} {l1 : Int32} {l2 : Int32} {l3 : Int32} {u : CSt}  : KE2 (B_X11_field_0 N l1 l2 l3 u) u := by
  unfold B_X11_field_0
  refine KE2_ok ?_
  refine KE2_bc (e2_F_X6_has.tr je2_rf) (fun _ _ => ?_)
  refine KE2_if ?_ ?_
  · skip
    exact KE2_some je2_rf
  · skip
    refine KE2_ok ?_
    refine KE2_bc (e2_F_X6_nth.tr je2_rf) (fun _ _ => ?_)
    refine KE2_ok ?_
    refine KE2_ok ?_
    refine KE2_bc (e2_F_X6_name.tr je2_rf) (fun _ _ => ?_)
    refine KE2_ok ?_
    refine KE2_bc (e2_F_X6_local.tr je2_rf) (fun _ _ => ?_)
    refine KE2_ok ?_
    refine KE2_if ?_ ?_
    · skip
      exact KE2_some je2_rf
    · skip
      refine KE2_if ?_ ?_
      · skip
        exact KE2_some je2_rf
      · skip
        refine KE2_if ?_ ?_
        · skip
          refine KE2_bc (e2_F_X2_numberAt.tr je2_rf) (fun _ _ => ?_)
          exact KE2_some je2_rf
        · skip
          exact KE2_some je2_rf
theorem e2_F_X11_field {N : Nat} {l1 : Int32} {l2 : Int32} {l3 : Int32} {u : CSt}  : KE2 (F_X11_field N l1 l2 l3 u) u := by
  unfold F_X11_field
  exact e2_B_X11_field_0.tr je2_rf
theorem e2_B_X11_find_0 {N : Nat} {l1 : Int32} {u : CSt}  : KE2 (B_X11_find_0 N l1 u) u := by
  unfold B_X11_find_0
  refine KE2_if ?_ ?_
  · skip
    exact KE2_some je2_rf
  · skip
    refine KE2_if ?_ ?_
    · skip
      refine KE2_bc (e2_F_X9_isWord.tr je2_rf) (fun _ _ => ?_)
      refine KE2_if ?_ ?_
      · skip
        exact KE2_some je2_rf
      · skip
        refine KE2_ok ?_
        refine KE2_bc (e2_F_X9_wordHead.tr je2_rf) (fun _ _ => ?_)
        refine KE2_bc (e2_F_X9_wordTail.tr je2_rf) (fun _ _ => ?_)
        refine KE2_bc (e2_F_X6_ofText.tr je2_rf) (fun _ _ => ?_)
        refine KE2_ok ?_
        refine KE2_if ?_ ?_
        · skip
          exact KE2_some je2_rf
        · skip
          exact KE2_some je2_rf
    · skip
      exact KE2_some je2_rf
theorem e2_F_X11_find {N : Nat} {l1 : Int32} {u : CSt}  : KE2 (F_X11_find N l1 u) u := by
  unfold F_X11_find
  exact e2_B_X11_find_0.tr je2_rf
theorem e2_B_X11_trace_75 {N : Nat} {l1 : Int32} {l2 : Int32} {l3 : Int32} {l4 : Int32} {s0 : Int32} {s1 : Int32} {u : CSt}  : KE2 (B_X11_trace_75 N l1 l2 l3 l4 s0 s1 u) u := by
  unfold B_X11_trace_75
  refine KE2_if ?_ ?_
  · skip
    exact KE2_some je2_rf
  · skip
    refine KE2_if ?_ ?_
    · skip
      refine KE2_bc (e2_F_X10_leave.tr je2_rf) (fun _ _ => ?_)
      exact KE2_some je2_rf
    · skip
      refine KE2_ok ?_
      refine KE2_bc (e2_F_X6_nth.tr je2_rf) (fun _ _ => ?_)
      refine KE2_ok ?_
      refine KE2_bc (e2_F_X2_numberOf.tr je2_rf) (fun _ _ => ?_)
      refine KE2_bc (e2_F_X10_begin.tr je2_rf) (fun _ _ => ?_)
      exact KE2_some je2_rf
theorem e2_B_X11_trace_63 {N : Nat} {l1 : Int32} {l2 : Int32} {l3 : Int32} {l4 : Int32} {u : CSt}  : KE2 (B_X11_trace_63 N l1 l2 l3 l4 u) u := by
  unfold B_X11_trace_63
  refine KE2_if ?_ ?_
  · skip
    exact e2_B_X11_trace_75.tr je2_rf
  · skip
    exact e2_B_X11_trace_75.tr je2_rf
theorem e2_B_X11_trace_0 {N : Nat} {l1 : Int32} {l2 : Int32} {l3 : Int32} {u : CSt}  : KE2 (B_X11_trace_0 N l1 l2 l3 u) u := by
  unfold B_X11_trace_0
  refine KE2_bc (e2_F_X11_hasPlace.tr je2_rf) (fun _ _ => ?_)
  refine KE2_if ?_ ?_
  · skip
    exact KE2_some je2_rf
  · skip
    refine KE2_bc (e2_F_X10_indexOf.tr je2_rf) (fun _ _ => ?_)
    refine KE2_if ?_ ?_
    · skip
      exact e2_B_X11_trace_63.tr je2_rf
    · skip
      refine KE2_if ?_ ?_
      · skip
        refine KE2_if ?_ ?_
        · skip
          exact e2_B_X11_trace_63.tr je2_rf
        · skip
          exact KE2_some je2_rf
      · skip
        exact e2_B_X11_trace_63.tr je2_rf
theorem e2_F_X11_trace {N : Nat} {l1 : Int32} {l2 : Int32} {l3 : Int32} {u : CSt}  : KE2 (F_X11_trace N l1 l2 l3 u) u := by
  unfold F_X11_trace
  exact e2_B_X11_trace_0.tr je2_rf
theorem e2_B_X11_event_0 {N : Nat} {l1 : Int32} {l2 : Int32} {u : CSt}  : KE2 (B_X11_event_0 N l1 l2 u) u := by
  unfold B_X11_event_0
  refine KE2_if ?_ ?_
  · skip
    exact KE2_some je2_rf
  · skip
    refine KE2_if ?_ ?_
    · skip
      refine KE2_bc (e2_F_X10_latest.tr je2_rf) (fun _ _ => ?_)
      refine KE2_if ?_ ?_
      · skip
        refine KE2_rd (fun _ => ?_)
        exact KE2_some je2_rf
      · skip
        refine KE2_if ?_ ?_
        · skip
          refine KE2_rd (fun _ => ?_)
          exact KE2_some je2_rf
        · skip
          refine KE2_if ?_ ?_
          · skip
            refine KE2_rd (fun _ => ?_)
            exact KE2_some je2_rf
          · skip
            refine KE2_if ?_ ?_
            · skip
              refine KE2_rd (fun _ => ?_)
              exact KE2_some je2_rf
            · skip
              exact KE2_some je2_rf
    · skip
      exact KE2_some je2_rf
theorem e2_F_X11_event {N : Nat} {l1 : Int32} {l2 : Int32} {u : CSt}  : KE2 (F_X11_event N l1 l2 u) u := by
  unfold F_X11_event
  exact e2_B_X11_event_0.tr je2_rf
theorem e2_B_X11_count_0 {N : Nat} {l1 : Int32} {u : CSt}  : KE2 (B_X11_count_0 N l1 u) u := by
  unfold B_X11_count_0
  refine KE2_if ?_ ?_
  · skip
    refine KE2_ok ?_
    refine KE2_bc (e2_F_X6_ofSort.tr je2_rf) (fun _ _ => ?_)
    exact KE2_some je2_rf
  · skip
    refine KE2_if ?_ ?_
    · skip
      refine KE2_ok ?_
      refine KE2_bc (e2_F_X6_ofSort.tr je2_rf) (fun _ _ => ?_)
      exact KE2_some je2_rf
    · skip
      refine KE2_if ?_ ?_
      · skip
        refine KE2_ok ?_
        refine KE2_bc (e2_F_X6_ofSort.tr je2_rf) (fun _ _ => ?_)
        exact KE2_some je2_rf
      · skip
        refine KE2_if ?_ ?_
        · skip
          refine KE2_ok ?_
          refine KE2_bc (e2_F_X6_ofSort.tr je2_rf) (fun _ _ => ?_)
          exact KE2_some je2_rf
        · skip
          refine KE2_if ?_ ?_
          · skip
            refine KE2_ok ?_
            refine KE2_bc (e2_F_X6_ofSort.tr je2_rf) (fun _ _ => ?_)
            exact KE2_some je2_rf
          · skip
            refine KE2_if ?_ ?_
            · skip
              exact KE2_some je2_rf
            · skip
              refine KE2_if ?_ ?_
              · skip
                refine KE2_ok ?_
                refine KE2_bc (e2_F_X6_stoppedTasks.tr je2_rf) (fun _ _ => ?_)
                exact KE2_some je2_rf
              · skip
                refine KE2_if ?_ ?_
                · skip
                  exact KE2_some je2_rf
                · skip
                  refine KE2_if ?_ ?_
                  · skip
                    exact KE2_some je2_rf
                  · skip
                    refine KE2_if ?_ ?_
                    · skip
                      exact KE2_some je2_rf
                    · skip
                      refine KE2_if ?_ ?_
                      · skip
                        exact KE2_some je2_rf
                      · skip
                        exact KE2_some je2_rf
theorem e2_F_X11_count {N : Nat} {l1 : Int32} {u : CSt}  : KE2 (F_X11_count N l1 u) u := by
  unfold F_X11_count
  exact e2_B_X11_count_0.tr je2_rf
theorem e2_B_X11_sum_30 {N : Nat} {R_4 : Int64 × Int32 × CSt → Option (Int64 × CSt)} {R_30 : Int64 × Int32 × Nat × Int32 × CSt → Option (Int64 × CSt)} {l1 : Int64} {l3 : Int32} {l4 : Nat} {l5 : Int32} {u : CSt} (h_R_4 : ∀ a, KE2 (R_4 a) a.2.2) (h_R_30 : ∀ a, KE2 (R_30 a) a.2.2.2.2) : KE2 (B_X11_sum_30 N R_4 R_30 l1 l3 l4 l5 u) u := by
  unfold B_X11_sum_30
  refine KE2_if ?_ ?_
  · skip
    exact (h_R_4 _).tr je2_rf
  · skip
    refine KE2_bc (e2_F_X2_numberOf.tr je2_rf) (fun _ _ => ?_)
    exact (h_R_30 _).tr je2_rf
theorem e2_LP_X11_sum_30 {N : Nat} {R_4 : Int64 × Int32 × CSt → Option (Int64 × CSt)} (h_R_4 : ∀ a, KE2 (R_4 a) a.2.2) (n : Nat) : ∀ a : Int64 × Int32 × Nat × Int32 × CSt, KE2 (LP_X11_sum_30 N R_4 n a) a.2.2.2.2 := by
  induction n with
  | zero => exact fun a r z e => by have e : (none : Option _) = some (r, z) := e; cases e
  | succ n ih =>
    intro a
    show KE2 (B_X11_sum_30 N R_4 (LP_X11_sum_30 N R_4 n) a.1 a.2.1 a.2.2.1 a.2.2.2.1 a.2.2.2.2) a.2.2.2.2
    exact e2_B_X11_sum_30 h_R_4 ih
theorem e2_B_X11_sum_115 {N : Nat} {R_72 : Int64 × Int32 × CSt → Option (Int64 × CSt)} {R_115 : Int64 × Int32 × Nat × Int32 × Int32 × CSt → Option (Int64 × CSt)} {l1 : Int64} {l3 : Int32} {l4 : Nat} {l5 : Int32} {l6 : Int32} {u : CSt} (h_R_72 : ∀ a, KE2 (R_72 a) a.2.2) (h_R_115 : ∀ a, KE2 (R_115 a) a.2.2.2.2.2) : KE2 (B_X11_sum_115 N R_72 R_115 l1 l3 l4 l5 l6 u) u := by
  unfold B_X11_sum_115
  refine KE2_if ?_ ?_
  · skip
    exact (h_R_72 _).tr je2_rf
  · skip
    refine KE2_bc (e2_F_X2_numberAt.tr je2_rf) (fun _ _ => ?_)
    exact (h_R_115 _).tr je2_rf
theorem e2_LP_X11_sum_115 {N : Nat} {R_72 : Int64 × Int32 × CSt → Option (Int64 × CSt)} (h_R_72 : ∀ a, KE2 (R_72 a) a.2.2) (n : Nat) : ∀ a : Int64 × Int32 × Nat × Int32 × Int32 × CSt, KE2 (LP_X11_sum_115 N R_72 n a) a.2.2.2.2.2 := by
  induction n with
  | zero => exact fun a r z e => by have e : (none : Option _) = some (r, z) := e; cases e
  | succ n ih =>
    intro a
    show KE2 (B_X11_sum_115 N R_72 (LP_X11_sum_115 N R_72 n) a.1 a.2.1 a.2.2.1 a.2.2.2.1 a.2.2.2.2.1 a.2.2.2.2.2) a.2.2.2.2.2
    exact e2_B_X11_sum_115 h_R_72 ih
theorem e2_B_X11_sum_72 {N : Nat} {R_72 : Int64 × Int32 × CSt → Option (Int64 × CSt)} {l1 : Int64} {l3 : Int32} {u : CSt} (h_R_72 : ∀ a, KE2 (R_72 a) a.2.2) : KE2 (B_X11_sum_72 N R_72 l1 l3 u) u := by
  unfold B_X11_sum_72
  refine KE2_ok ?_
  refine KE2_bc (e2_F_X6_ofSort.tr je2_rf) (fun _ _ => ?_)
  refine KE2_if ?_ ?_
  · skip
    exact KE2_some je2_rf
  · skip
    refine KE2_ok ?_
    refine KE2_bc (e2_F_X6_nth.tr je2_rf) (fun _ _ => ?_)
    refine KE2_ok ?_
    refine KE2_ok ?_
    refine KE2_bc (e2_F_X6_name.tr je2_rf) (fun _ _ => ?_)
    refine KE2_ok ?_
    exact (e2_LP_X11_sum_115 h_R_72 _ _).tr je2_rf
theorem e2_LP_X11_sum_72 {N : Nat}  (n : Nat) : ∀ a : Int64 × Int32 × CSt, KE2 (LP_X11_sum_72 N n a) a.2.2 := by
  induction n with
  | zero => exact fun a r z e => by have e : (none : Option _) = some (r, z) := e; cases e
  | succ n ih =>
    intro a
    show KE2 (B_X11_sum_72 N (LP_X11_sum_72 N n) a.1 a.2.1 a.2.2) a.2.2
    exact e2_B_X11_sum_72 ih
theorem e2_B_X11_sum_4 {N : Nat} {R_4 : Int64 × Int32 × CSt → Option (Int64 × CSt)} {l1 : Int64} {l3 : Int32} {u : CSt} (h_R_4 : ∀ a, KE2 (R_4 a) a.2.2) : KE2 (B_X11_sum_4 N R_4 l1 l3 u) u := by
  unfold B_X11_sum_4
  refine KE2_ok ?_
  refine KE2_bc (e2_F_X6_ofSort.tr je2_rf) (fun _ _ => ?_)
  refine KE2_if ?_ ?_
  · skip
    exact (e2_LP_X11_sum_72  _ _).tr je2_rf
  · skip
    refine KE2_ok ?_
    refine KE2_bc (e2_F_X6_nth.tr je2_rf) (fun _ _ => ?_)
    refine KE2_ok ?_
    exact (e2_LP_X11_sum_30 h_R_4 _ _).tr je2_rf
theorem e2_LP_X11_sum_4 {N : Nat}  (n : Nat) : ∀ a : Int64 × Int32 × CSt, KE2 (LP_X11_sum_4 N n a) a.2.2 := by
  induction n with
  | zero => exact fun a r z e => by have e : (none : Option _) = some (r, z) := e; cases e
  | succ n ih =>
    intro a
    show KE2 (B_X11_sum_4 N (LP_X11_sum_4 N n) a.1 a.2.1 a.2.2) a.2.2
    exact e2_B_X11_sum_4 ih
theorem e2_B_X11_sum_0 {N : Nat} {u : CSt}  : KE2 (B_X11_sum_0 N u) u := by
  unfold B_X11_sum_0
  exact (e2_LP_X11_sum_4  _ _).tr je2_rf
theorem e2_F_X11_sum {N : Nat} {u : CSt}  : KE2 (F_X11_sum N u) u := by
  unfold F_X11_sum
  exact e2_B_X11_sum_0.tr je2_rf
theorem e2_B_X11_cut_0 {N : Nat} {l1 : Int32} {l2 : Int64} {u : CSt}  : KE2 (B_X11_cut_0 N l1 l2 u) u := by
  unfold B_X11_cut_0
  refine KE2_if ?_ ?_
  · skip
    exact KE2_some je2_rf
  · skip
    exact KE2_some je2_rf
theorem e2_F_X11_cut {N : Nat} {l1 : Int32} {l2 : Int64} {u : CSt}  : KE2 (F_X11_cut N l1 l2 u) u := by
  unfold F_X11_cut
  exact e2_B_X11_cut_0.tr je2_rf
theorem e2_B_X11_work_68 {N : Nat} {l1 : Int32} {l2 : Int32} {l3 : Int32} {l4 : Int64} {l8 : Int64} {u : CSt}  : KE2 (B_X11_work_68 N l1 l2 l3 l4 l8 u) u := by
  unfold B_X11_work_68
  exact KE2_some je2_rf
theorem e2_B_X11_work_0 {N : Nat} {l1 : Int32} {l2 : Int32} {l3 : Int32} {l4 : Int64} {l6 : Int64} {u : CSt}  : KE2 (B_X11_work_0 N l1 l2 l3 l4 l6 u) u := by
  unfold B_X11_work_0
  refine KE2_if ?_ ?_
  · skip
    exact KE2_some je2_rf
  · skip
    refine KE2_if ?_ ?_
    · skip
      exact KE2_some je2_rf
    · skip
      refine KE2_if ?_ ?_
      · skip
        exact KE2_some je2_rf
      · skip
        refine KE2_if ?_ ?_
        · skip
          refine KE2_if ?_ ?_
          · skip
            refine KE2_if ?_ ?_
            · skip
              exact e2_B_X11_work_68.tr je2_rf
            · skip
              exact KE2_some je2_rf
          · skip
            exact e2_B_X11_work_68.tr je2_rf
        · skip
          exact KE2_some je2_rf
theorem e2_F_X11_work {N : Nat} {l1 : Int32} {l2 : Int32} {l3 : Int32} {l4 : Int64} {l6 : Int64} {u : CSt}  : KE2 (F_X11_work N l1 l2 l3 l4 l6 u) u := by
  unfold F_X11_work
  exact e2_B_X11_work_0.tr je2_rf
theorem e2_B_X11_tell_46 {N : Nat} {l2 : Int32} {l3 : Int32} {l4 : Int64} {l6 : Int64} {s0 : Int32} {s1 : Int32} {u : CSt}  : KE2 (B_X11_tell_46 N l2 l3 l4 l6 s0 s1 u) u := by
  unfold B_X11_tell_46
  exact KE2_some je2_rf
theorem e2_B_X11_tell_0 {N : Nat} {l1 : Int32} {l2 : Int32} {l3 : Int32} {l4 : Int64} {l6 : Int64} {u : CSt}  : KE2 (B_X11_tell_0 N l1 l2 l3 l4 l6 u) u := by
  unfold B_X11_tell_0
  refine KE2_if ?_ ?_
  · skip
    exact KE2_some je2_rf
  · skip
    refine KE2_if ?_ ?_
    · skip
      exact KE2_some je2_rf
    · skip
      refine KE2_if ?_ ?_
      · skip
        exact KE2_some je2_rf
      · skip
        refine KE2_if ?_ ?_
        · skip
          refine KE2_if ?_ ?_
          · skip
            exact e2_B_X11_tell_46.tr je2_rf
          · skip
            exact e2_B_X11_tell_46.tr je2_rf
        · skip
          exact KE2_some je2_rf
theorem e2_F_X11_tell {N : Nat} {l1 : Int32} {l2 : Int32} {l3 : Int32} {l4 : Int64} {l6 : Int64} {u : CSt}  : KE2 (F_X11_tell N l1 l2 l3 l4 l6 u) u := by
  unfold F_X11_tell
  exact e2_B_X11_tell_0.tr je2_rf
theorem e2_B_X11_install_0 {N : Nat} {l1 : Int32} {u : CSt}  : KE2 (B_X11_install_0 N l1 u) u := by
  unfold B_X11_install_0
  refine KE2_ok ?_
  refine KE2_ok ?_
  refine KE2_pc ?_
  refine KE2_pc ?_
  refine KE2_ok ?_
  refine KE2_bc (e2_F_X2_install.tr (fe2_xR (fe2_xR je2_rf))) (fun _ _ => ?_)
  refine KE2_bc (e2_F_X10_forget.tr je2_rf) (fun _ _ => ?_)
  refine KE2_if ?_ ?_
  · skip
    refine KE2_bc (e2_F_X1_wipe.tr je2_rf) (fun _ _ => ?_)
    refine KE2_pc ?_
    exact KE2_some (fe2_xI je2_rf)
  · skip
    exact KE2_some je2_rf
theorem e2_F_X11_install {N : Nat} {l1 : Int32} {u : CSt}  : KE2 (F_X11_install N l1 u) u := by
  unfold F_X11_install
  exact e2_B_X11_install_0.tr je2_rf
def qeI : List Nat := [1, 2, 9, 10, 11]
def qeA : List Nat := [211, 212, 213, 214, 215, 216, 217, 218, 220, 221, 223, 224, 225]
def qeB : List Nat := [222, 226, 235]
def je3 (u w : CSt) : Prop := (∀ k, k ∈ qeI → cI w k = cI u k) ∧ (∀ k, k ∈ qeA → cA w k = cA u k) ∧ (∀ k, k ∈ qeB → cB w k = cB u k)
def KE3 {β : Type} (x : Option (β × CSt)) (u : CSt) : Prop := ∀ r w, x = some (r, w) → je3 u w
section KE3s
variable {α β γ : Type} {u v w : CSt}
theorem je3_rf : je3 u u := ⟨fun _ _ => rfl, fun _ _ => rfl, fun _ _ => rfl⟩
theorem je3_tr (h : je3 u v) (h2 : je3 v w) : je3 u w := ⟨fun k hk => (h2.1 k hk).trans (h.1 k hk), fun k hk => (h2.2.1 k hk).trans (h.2.1 k hk), fun k hk => (h2.2.2 k hk).trans (h.2.2 k hk)⟩
theorem KE3.tr {x : Option (β × CSt)} (hx : KE3 x w) (h : je3 u w) : KE3 x u := fun r z e => je3_tr h (hx r z e)
theorem fe3_xI {k : Nat} {a : Int32} (hk : k ∉ qeI) (h : je3 u w) : je3 u (xI w k a) := by
  refine je3_tr h ⟨fun j hj => ?_, fun _ _ => rfl, fun _ _ => rfl⟩
  show (if j = k then a else cI w j) = _
  rw [if_neg (fun z : j = k => hk (z ▸ hj))]
theorem fe3_xA {k i : Nat} {a : Int32} (hk : k ∉ qeA) (h : je3 u w) : je3 u (xA w k i a) := by
  refine je3_tr h ⟨fun _ _ => rfl, fun j hj => ?_, fun _ _ => rfl⟩
  show (if j = k then upd (cA w k) i a else cA w j) = _
  rw [if_neg (fun z : j = k => hk (z ▸ hj))]
theorem fe3_xF {k : Nat} {g : Nat → Int32} (hk : k ∉ qeA) (h : je3 u w) : je3 u (xF w k g) := by
  refine je3_tr h ⟨fun _ _ => rfl, fun j hj => ?_, fun _ _ => rfl⟩
  show (if j = k then g else cA w j) = _
  rw [if_neg (fun z : j = k => hk (z ▸ hj))]
theorem fe3_xB {k i : Nat} {a : Int64} (hk : k ∉ qeB) (h : je3 u w) : je3 u (xB w k i a) := by
  refine je3_tr h ⟨fun _ _ => rfl, fun _ _ => rfl, fun j hj => ?_⟩
  show (if j = k then vp_updL (cB w k) i a else cB w j) = _
  rw [if_neg (fun z : j = k => hk (z ▸ hj))]
theorem fe3_xG {k : Nat} {g : Nat → Int64} (hk : k ∉ qeB) (h : je3 u w) : je3 u (xG w k g) := by
  refine je3_tr h ⟨fun _ _ => rfl, fun _ _ => rfl, fun j hj => ?_⟩
  show (if j = k then g else cB w j) = _
  rw [if_neg (fun z : j = k => hk (z ▸ hj))]
theorem fe3_xL {k : Nat} {a : Int64} (h : je3 u w) : je3 u (xL w k a) := h
theorem fe3_xpI {q k : Nat} {a : Int32} (h : je3 u w) : je3 u (xpI w q k a) := h
theorem fe3_xpA {q k i : Nat} {a : Int32} (h : je3 u w) : je3 u (xpA w q k i a) := h
theorem fe3_xpF {q k : Nat} {g : Nat → Int32} (h : je3 u w) : je3 u (xpF w q k g) := h
theorem fe3_xpB {q k i : Nat} {a : Int64} (h : je3 u w) : je3 u (xpB w q k i a) := h
theorem fe3_xtI {q k : Nat} {a : Int32} (h : je3 u w) : je3 u (xtI w q k a) := h
theorem fe3_xR {k a : Nat} (h : je3 u w) : je3 u (xR w k a) := h
theorem fe3_xmI {q k : Nat} {a : Int32} (h : je3 u w) : je3 u (xmI w q k a) := h
theorem fe3_xmL {q k : Nat} {a : Int64} (h : je3 u w) : je3 u (xmL w q k a) := h
theorem KE3_some {r : β} (h : je3 u w) : KE3 (some (r, w)) u := fun _ _ e => by cases e; exact h
theorem KE3_none : KE3 (none : Option (β × CSt)) u := fun _ _ e => nomatch e
theorem KE3_rd {f : Nat → α} {n : Nat} {i : Int32} {k : α → Option (β × CSt)} (h : ∀ a, KE3 (k a) u) : KE3 (rd f n i k) u := by
  intro r z e
  have q : wq (rd f n i k) (fun r' z' => r' = r ∧ z' = z) := ⟨r, z, e, rfl, rfl⟩
  obtain ⟨r1, z1, e1, rfl, rfl⟩ := (wq_rd.mp q).2
  exact h _ _ _ e1
theorem KE3_if {c : Prop} {d : Decidable c} {a b : Option (β × CSt)} (ha : KE3 a u) (hb : KE3 b u) : KE3 (if c then a else b) u := by
  by_cases q : c
  · rw [if_pos q]; exact ha
  · rw [if_neg q]; exact hb
theorem KE3_zr {v : Int32} {x : Option (β × CSt)} (h : KE3 x u) : KE3 (zr v x) u := fun r z e => h r z (zr_of e).2
theorem KE3_nz {v : Int32} {x : Option (β × CSt)} (h : KE3 x u) : KE3 (nz v x) u := fun r z e => h r z (nz_of e).2
theorem KE3_ok {P : Prop} {d : Decidable P} {x : Option (β × CSt)} (h : KE3 x u) : KE3 (ok P d x) u := fun r z e => h r z (ok_of e).2
theorem KE3_pc {x : CSt} {k : CSt → Option (β × CSt)} (h : KE3 (k x) u) : KE3 (pc x k) u := h
theorem KE3_wc {n : Nat} {i : Int32} {x : CSt} {k : CSt → Option (β × CSt)} (h : KE3 (k x) u) : KE3 (wc n i x k) u := by
  intro r z e
  have q : wq (wc n i x k) (fun r' z' => r' = r ∧ z' = z) := ⟨r, z, e, rfl, rfl⟩
  obtain ⟨r1, z1, e1, rfl, rfl⟩ := (wq_wc.mp q).2
  exact h _ _ e1
theorem KE3_bc {x : Option (α × CSt)} {k : α → CSt → Option (β × CSt)} (hx : KE3 x u) (h : ∀ r w, KE3 (k r w) w) : KE3 (bc x k) u := by
  intro r z e
  have q : wq (bc x k) (fun r' z' => r' = r ∧ z' = z) := ⟨r, z, e, rfl, rfl⟩
  obtain ⟨r1, z1, e1, r2, z2, e2, rfl, rfl⟩ := wq_bc.mp q
  exact je3_tr (hx _ _ e1) (h _ _ _ _ e2)
theorem KE3_pb {x : Option α} {k : α → Option (β × CSt)} (h : ∀ a, KE3 (k a) u) : KE3 (pb x k) u := by
  intro r z e
  have q : wq (pb x k) (fun r' z' => r' = r ∧ z' = z) := ⟨r, z, e, rfl, rfl⟩
  obtain ⟨a, -, r1, z1, e1, rfl, rfl⟩ := wq_pb.mp q
  exact h _ _ _ e1
theorem KE3_bt {x : Option (Sum Nat α × CSt)} {k : α → CSt → Option (Sum Nat γ × CSt)} (hx : KE3 x u) (h : ∀ r w, KE3 (k r w) w) : KE3 (bt x k) u := by
  intro r z e
  unfold bt at e
  cases hq : x with
  | none => rw [hq] at e; cases e
  | some a =>
    obtain ⟨y, v⟩ := a
    rw [hq] at e
    cases y with
    | inl n => cases e; exact hx _ _ hq
    | inr b => exact je3_tr (hx _ _ hq) (h _ _ _ _ e)
theorem KE3_ix {n : Nat} {i : Int32} {x : Option (β × CSt)} (h : KE3 x u) : KE3 (ix n i x) u := by
  intro r z e
  have q : wq (ix n i x) (fun r' z' => r' = r ∧ z' = z) := ⟨r, z, e, rfl, rfl⟩
  obtain ⟨r1, z1, e1, rfl, rfl⟩ := (wq_ix.mp q).2
  exact h _ _ e1
theorem KE3_bh {x : Option (Sum Nat α × CSt)} {kc : CSt → Option (β × CSt)} {k : α → CSt → Option (β × CSt)} (hx : KE3 x u) (h0 : ∀ w, KE3 (kc w) w) (h : ∀ r w, KE3 (k r w) w) : KE3 (bh x kc k) u := by
  intro r z e
  obtain ⟨y1, w1, e1, ⟨-, e2⟩ | ⟨q, -, e2⟩⟩ := bh_of e
  · exact je3_tr (hx _ _ e1) (h0 _ _ _ e2)
  · exact je3_tr (hx _ _ e1) (h _ _ _ _ e2)
end KE3s
theorem e3_B_X4_become_0 {N : Nat} {l0 : Nat} {l1 : Int32} {l2 : Int64} {l4 : Int32} {u : CSt}  : KE3 (B_X4_become_0 N l0 l1 l2 l4 u) u := by
  unfold B_X4_become_0
  refine KE3_pc ?_
  refine KE3_pc ?_
  refine KE3_pc ?_
  refine KE3_pc ?_
  refine KE3_pc ?_
  refine KE3_pc ?_
  refine KE3_pc ?_
  refine KE3_pc ?_
  refine KE3_pc ?_
  refine KE3_pc ?_
  refine KE3_pc ?_
  refine KE3_pc ?_
  refine KE3_pc ?_
  refine KE3_pc ?_
  exact KE3_some (fe3_xmI (fe3_xmI (fe3_xmI (fe3_xmI (fe3_xmL (fe3_xmI (fe3_xmI (fe3_xmI (fe3_xmI (fe3_xmI (fe3_xmI (fe3_xmI (fe3_xmI (fe3_xmL je3_rf))))))))))))))
theorem e3_F_X4_become {N : Nat} {l0 : Nat} {l1 : Int32} {l2 : Int64} {l4 : Int32} {u : CSt}  : KE3 (F_X4_become N l0 l1 l2 l4 u) u := by
  unfold F_X4_become
  exact e3_B_X4_become_0.tr je3_rf
theorem e3_B_X4_isLocal_17 {N : Nat} {u : CSt}  : KE3 (B_X4_isLocal_17 N u) u := by
  unfold B_X4_isLocal_17
  exact KE3_some je3_rf
theorem e3_B_X4_isLocal_0 {N : Nat} {l0 : Nat} {u : CSt}  : KE3 (B_X4_isLocal_0 N l0 u) u := by
  unfold B_X4_isLocal_0
  refine KE3_if ?_ ?_
  · skip
    exact e3_B_X4_isLocal_17.tr je3_rf
  · skip
    refine KE3_if ?_ ?_
    · skip
      exact e3_B_X4_isLocal_17.tr je3_rf
    · skip
      exact KE3_some je3_rf
theorem e3_F_X4_isLocal {N : Nat} {l0 : Nat} {u : CSt}  : KE3 (F_X4_isLocal N l0 u) u := by
  unfold F_X4_isLocal
  exact e3_B_X4_isLocal_0.tr je3_rf
theorem e3_B_X4_hasNumbers_14 {N : Nat} {u : CSt}  : KE3 (B_X4_hasNumbers_14 N u) u := by
  unfold B_X4_hasNumbers_14
  exact KE3_some je3_rf
theorem e3_B_X4_hasNumbers_0 {N : Nat} {l0 : Nat} {u : CSt}  : KE3 (B_X4_hasNumbers_0 N l0 u) u := by
  unfold B_X4_hasNumbers_0
  refine KE3_if ?_ ?_
  · skip
    exact e3_B_X4_hasNumbers_14.tr je3_rf
  · skip
    refine KE3_bc (e3_F_X4_isLocal.tr je3_rf) (fun _ _ => ?_)
    refine KE3_if ?_ ?_
    · skip
      exact KE3_some je3_rf
    · skip
      exact e3_B_X4_hasNumbers_14.tr je3_rf
theorem e3_F_X4_hasNumbers {N : Nat} {l0 : Nat} {u : CSt}  : KE3 (F_X4_hasNumbers N l0 u) u := by
  unfold F_X4_hasNumbers
  exact e3_B_X4_hasNumbers_0.tr je3_rf
theorem e3_B_X4_isPlaced_23 {N : Nat} {u : CSt}  : KE3 (B_X4_isPlaced_23 N u) u := by
  unfold B_X4_isPlaced_23
  exact KE3_some je3_rf
theorem e3_B_X4_isPlaced_0 {N : Nat} {l0 : Nat} {u : CSt}  : KE3 (B_X4_isPlaced_0 N l0 u) u := by
  unfold B_X4_isPlaced_0
  refine KE3_if ?_ ?_
  · skip
    refine KE3_if ?_ ?_
    · skip
      exact e3_B_X4_isPlaced_23.tr je3_rf
    · skip
      refine KE3_if ?_ ?_
      · skip
        exact e3_B_X4_isPlaced_23.tr je3_rf
      · skip
        exact KE3_some je3_rf
  · skip
    exact KE3_some je3_rf
theorem e3_F_X4_isPlaced {N : Nat} {l0 : Nat} {u : CSt}  : KE3 (F_X4_isPlaced N l0 u) u := by
  unfold F_X4_isPlaced
  exact e3_B_X4_isPlaced_0.tr je3_rf
theorem e3_B_X4_isInput_0 {N : Nat} {l0 : Nat} {u : CSt}  : KE3 (B_X4_isInput_0 N l0 u) u := by
  unfold B_X4_isInput_0
  refine KE3_if ?_ ?_
  · skip
    refine KE3_if ?_ ?_
    · skip
      exact KE3_some je3_rf
    · skip
      exact KE3_some je3_rf
  · skip
    exact KE3_some je3_rf
theorem e3_F_X4_isInput {N : Nat} {l0 : Nat} {u : CSt}  : KE3 (F_X4_isInput N l0 u) u := by
  unfold F_X4_isInput
  exact e3_B_X4_isInput_0.tr je3_rf
theorem e3_B_X7_become_0 {N : Nat} {l0 : Nat} {l1 : Int32} {l2 : Int32} {l3 : Int32} {u : CSt}  : KE3 (B_X7_become_0 N l0 l1 l2 l3 u) u := by
  unfold B_X7_become_0
  refine KE3_pc ?_
  refine KE3_pc ?_
  refine KE3_pc ?_
  refine KE3_pc ?_
  refine KE3_pc ?_
  refine KE3_pc ?_
  refine KE3_pc ?_
  refine KE3_pc ?_
  refine KE3_pc ?_
  refine KE3_pc ?_
  exact KE3_some (fe3_xtI (fe3_xtI (fe3_xtI (fe3_xtI (fe3_xtI (fe3_xtI (fe3_xtI (fe3_xtI (fe3_xtI (fe3_xtI je3_rf))))))))))
theorem e3_F_X7_become {N : Nat} {l0 : Nat} {l1 : Int32} {l2 : Int32} {l3 : Int32} {u : CSt}  : KE3 (F_X7_become N l0 l1 l2 l3 u) u := by
  unfold F_X7_become
  exact e3_B_X7_become_0.tr je3_rf
theorem e3_B_X6_ofSort_0 {N : Nat} {l0 : Nat} {l1 : Int32} {u : CSt}  : KE3 (B_X6_ofSort_0 N l0 l1 u) u := by
  unfold B_X6_ofSort_0
  refine KE3_rd (fun _ => ?_)
  exact KE3_some je3_rf
theorem e3_F_X6_ofSort {N : Nat} {l0 : Nat} {l1 : Int32} {u : CSt}  : KE3 (F_X6_ofSort N l0 l1 u) u := by
  unfold F_X6_ofSort
  exact e3_B_X6_ofSort_0.tr je3_rf
theorem e3_B_X6_has_0 {N : Nat} {l0 : Nat} {l1 : Int32} {l2 : Int32} {u : CSt}  : KE3 (B_X6_has_0 N l0 l1 l2 u) u := by
  unfold B_X6_has_0
  refine KE3_if ?_ ?_
  · skip
    exact KE3_some je3_rf
  · skip
    refine KE3_rd (fun _ => ?_)
    refine KE3_if ?_ ?_
    · skip
      exact KE3_some je3_rf
    · skip
      exact KE3_some je3_rf
theorem e3_F_X6_has {N : Nat} {l0 : Nat} {l1 : Int32} {l2 : Int32} {u : CSt}  : KE3 (F_X6_has N l0 l1 l2 u) u := by
  unfold F_X6_has
  exact e3_B_X6_has_0.tr je3_rf
theorem e3_B_X6_name_0 {N : Nat} {l0 : Nat} {l1 : Int32} {u : CSt}  : KE3 (B_X6_name_0 N l0 l1 u) u := by
  unfold B_X6_name_0
  refine KE3_if ?_ ?_
  · skip
    exact KE3_some je3_rf
  · skip
    refine KE3_if ?_ ?_
    · skip
      exact KE3_some je3_rf
    · skip
      refine KE3_ix ?_
      exact KE3_some je3_rf
theorem e3_F_X6_name {N : Nat} {l0 : Nat} {l1 : Int32} {u : CSt}  : KE3 (F_X6_name N l0 l1 u) u := by
  unfold F_X6_name
  exact e3_B_X6_name_0.tr je3_rf
theorem e3_B_X6_nth_0 {N : Nat} {l0 : Nat} {l1 : Int32} {l2 : Int32} {u : CSt}  : KE3 (B_X6_nth_0 N l0 l1 l2 u) u := by
  unfold B_X6_nth_0
  refine KE3_bc (e3_F_X6_has.tr je3_rf) (fun _ _ => ?_)
  refine KE3_if ?_ ?_
  · skip
    exact KE3_some je3_rf
  · skip
    refine KE3_ix ?_
    refine KE3_rd (fun _ => ?_)
    refine KE3_bc (e3_F_X6_name.tr je3_rf) (fun _ _ => ?_)
    refine KE3_ok ?_
    exact KE3_some je3_rf
theorem e3_F_X6_nth {N : Nat} {l0 : Nat} {l1 : Int32} {l2 : Int32} {u : CSt}  : KE3 (F_X6_nth N l0 l1 l2 u) u := by
  unfold F_X6_nth
  exact e3_B_X6_nth_0.tr je3_rf
theorem e3_B_X6_local_0 {N : Nat} {l0 : Nat} {l1 : Nat} {l2 : Int32} {u : CSt}  : KE3 (B_X6_local_0 N l0 l1 l2 u) u := by
  unfold B_X6_local_0
  refine KE3_if ?_ ?_
  · skip
    exact KE3_some je3_rf
  · skip
    refine KE3_if ?_ ?_
    · skip
      exact KE3_some je3_rf
    · skip
      refine KE3_bc (e3_F_X6_name.tr je3_rf) (fun _ _ => ?_)
      refine KE3_ok ?_
      exact KE3_some je3_rf
theorem e3_F_X6_local {N : Nat} {l0 : Nat} {l1 : Nat} {l2 : Int32} {u : CSt}  : KE3 (F_X6_local N l0 l1 l2 u) u := by
  unfold F_X6_local
  exact e3_B_X6_local_0.tr je3_rf
theorem e3_B_X6_localCalled_71 {N : Nat} {R_12 : Nat × Nat × Int64 × Int32 × Int32 × Int32 × CSt → Option (Nat × CSt)} {l0 : Nat} {l1 : Nat} {l2 : Int64} {l4 : Int32} {l5 : Int32} {l6 : Int32} {u : CSt} (h_R_12 : ∀ a, KE3 (R_12 a) a.2.2.2.2.2.2) : KE3 (B_X6_localCalled_71 N R_12 l0 l1 l2 l4 l5 l6 u) u := by
  unfold B_X6_localCalled_71
  exact (h_R_12 _).tr je3_rf
theorem e3_B_X6_localCalled_12 {N : Nat} {R_12 : Nat × Nat × Int64 × Int32 × Int32 × Int32 × CSt → Option (Nat × CSt)} {l0 : Nat} {l1 : Nat} {l2 : Int64} {l4 : Int32} {l5 : Int32} {l6 : Int32} {u : CSt} (h_R_12 : ∀ a, KE3 (R_12 a) a.2.2.2.2.2.2) : KE3 (B_X6_localCalled_12 N R_12 l0 l1 l2 l4 l5 l6 u) u := by
  unfold B_X6_localCalled_12
  refine KE3_if ?_ ?_
  · skip
    exact KE3_some je3_rf
  · skip
    refine KE3_if ?_ ?_
    · skip
      exact KE3_some je3_rf
    · skip
      refine KE3_ix ?_
      refine KE3_if ?_ ?_
      · skip
        refine KE3_ix ?_
        refine KE3_if ?_ ?_
        · skip
          refine KE3_ix ?_
          exact KE3_some je3_rf
        · skip
          exact (e3_B_X6_localCalled_71 h_R_12).tr je3_rf
      · skip
        exact (e3_B_X6_localCalled_71 h_R_12).tr je3_rf
theorem e3_LP_X6_localCalled_12 {N : Nat}  (n : Nat) : ∀ a : Nat × Nat × Int64 × Int32 × Int32 × Int32 × CSt, KE3 (LP_X6_localCalled_12 N n a) a.2.2.2.2.2.2 := by
  induction n with
  | zero => exact fun a r z e => by have e : (none : Option _) = some (r, z) := e; cases e
  | succ n ih =>
    intro a
    show KE3 (B_X6_localCalled_12 N (LP_X6_localCalled_12 N n) a.1 a.2.1 a.2.2.1 a.2.2.2.1 a.2.2.2.2.1 a.2.2.2.2.2.1 a.2.2.2.2.2.2) a.2.2.2.2.2.2
    exact e3_B_X6_localCalled_12 ih
theorem e3_B_X6_localCalled_0 {N : Nat} {l0 : Nat} {l1 : Nat} {l2 : Int64} {l4 : Int32} {u : CSt}  : KE3 (B_X6_localCalled_0 N l0 l1 l2 l4 u) u := by
  unfold B_X6_localCalled_0
  exact (e3_LP_X6_localCalled_12  _ _).tr je3_rf
theorem e3_F_X6_localCalled {N : Nat} {l0 : Nat} {l1 : Nat} {l2 : Int64} {l4 : Int32} {u : CSt}  : KE3 (F_X6_localCalled N l0 l1 l2 l4 u) u := by
  unfold F_X6_localCalled
  exact e3_B_X6_localCalled_0.tr je3_rf
theorem e3_B_X6_ofText_52 {N : Nat} {R_3 : Nat × Int64 × Int32 × Int32 × CSt → Option (Nat × CSt)} {l0 : Nat} {l1 : Int64} {l3 : Int32} {l4 : Int32} {u : CSt} (h_R_3 : ∀ a, KE3 (R_3 a) a.2.2.2.2) : KE3 (B_X6_ofText_52 N R_3 l0 l1 l3 l4 u) u := by
  unfold B_X6_ofText_52
  exact (h_R_3 _).tr je3_rf
theorem e3_B_X6_ofText_61 {N : Nat} {R_61 : Nat × Int64 × Int32 × Int32 × CSt → Option (Nat × CSt)} {l0 : Nat} {l1 : Int64} {l3 : Int32} {l4 : Int32} {u : CSt} (h_R_61 : ∀ a, KE3 (R_61 a) a.2.2.2.2) : KE3 (B_X6_ofText_61 N R_61 l0 l1 l3 l4 u) u := by
  unfold B_X6_ofText_61
  refine KE3_if ?_ ?_
  · skip
    exact KE3_some je3_rf
  · skip
    refine KE3_if ?_ ?_
    · skip
      refine KE3_ix ?_
      refine KE3_if ?_ ?_
      · skip
        refine KE3_ix ?_
        exact KE3_some je3_rf
      · skip
        exact (h_R_61 _).tr je3_rf
    · skip
      exact KE3_some je3_rf
theorem e3_LP_X6_ofText_61 {N : Nat}  (n : Nat) : ∀ a : Nat × Int64 × Int32 × Int32 × CSt, KE3 (LP_X6_ofText_61 N n a) a.2.2.2.2 := by
  induction n with
  | zero => exact fun a r z e => by have e : (none : Option _) = some (r, z) := e; cases e
  | succ n ih =>
    intro a
    show KE3 (B_X6_ofText_61 N (LP_X6_ofText_61 N n) a.1 a.2.1 a.2.2.1 a.2.2.2.1 a.2.2.2.2) a.2.2.2.2
    exact e3_B_X6_ofText_61 ih
theorem e3_B_X6_ofText_3 {N : Nat} {R_3 : Nat × Int64 × Int32 × Int32 × CSt → Option (Nat × CSt)} {l0 : Nat} {l1 : Int64} {l3 : Int32} {l4 : Int32} {u : CSt} (h_R_3 : ∀ a, KE3 (R_3 a) a.2.2.2.2) : KE3 (B_X6_ofText_3 N R_3 l0 l1 l3 l4 u) u := by
  unfold B_X6_ofText_3
  refine KE3_if ?_ ?_
  · skip
    exact (e3_LP_X6_ofText_61  _ _).tr je3_rf
  · skip
    refine KE3_ix ?_
    refine KE3_if ?_ ?_
    · skip
      refine KE3_if ?_ ?_
      · skip
        refine KE3_if ?_ ?_
        · skip
          exact (e3_B_X6_ofText_52 h_R_3).tr je3_rf
        · skip
          exact KE3_some je3_rf
      · skip
        exact (e3_B_X6_ofText_52 h_R_3).tr je3_rf
    · skip
      exact (e3_B_X6_ofText_52 h_R_3).tr je3_rf
theorem e3_LP_X6_ofText_3 {N : Nat}  (n : Nat) : ∀ a : Nat × Int64 × Int32 × Int32 × CSt, KE3 (LP_X6_ofText_3 N n a) a.2.2.2.2 := by
  induction n with
  | zero => exact fun a r z e => by have e : (none : Option _) = some (r, z) := e; cases e
  | succ n ih =>
    intro a
    show KE3 (B_X6_ofText_3 N (LP_X6_ofText_3 N n) a.1 a.2.1 a.2.2.1 a.2.2.2.1 a.2.2.2.2) a.2.2.2.2
    exact e3_B_X6_ofText_3 ih
theorem e3_B_X6_ofText_0 {N : Nat} {l0 : Nat} {l1 : Int64} {l3 : Int32} {u : CSt}  : KE3 (B_X6_ofText_0 N l0 l1 l3 u) u := by
  unfold B_X6_ofText_0
  exact (e3_LP_X6_ofText_3  _ _).tr je3_rf
theorem e3_F_X6_ofText {N : Nat} {l0 : Nat} {l1 : Int64} {l3 : Int32} {u : CSt}  : KE3 (F_X6_ofText N l0 l1 l3 u) u := by
  unfold F_X6_ofText
  exact e3_B_X6_ofText_0.tr je3_rf
theorem e3_B_X6_add_86 {N : Nat} {l0 : Nat} {l5 : Nat} {u : CSt}  : KE3 (B_X6_add_86 N l0 l5 u) u := by
  unfold B_X6_add_86
  refine KE3_pc ?_
  exact KE3_some (fe3_xpI je3_rf)
theorem e3_B_X6_add_0 {N : Nat} {l0 : Nat} {l1 : Int32} {l2 : Int64} {l4 : Int32} {u : CSt}  : KE3 (B_X6_add_0 N l0 l1 l2 l4 u) u := by
  unfold B_X6_add_0
  refine KE3_if ?_ ?_
  · skip
    refine KE3_ix ?_
    refine KE3_bc (e3_F_X4_become.tr je3_rf) (fun _ _ => ?_)
    refine KE3_pc ?_
    refine KE3_if ?_ ?_
    · skip
      exact e3_B_X6_add_86.tr (fe3_xmI je3_rf)
    · skip
      refine KE3_rd (fun _ => ?_)
      refine KE3_pc ?_
      refine KE3_ix ?_
      refine KE3_wc ?_
      refine KE3_rd (fun _ => ?_)
      refine KE3_wc ?_
      exact e3_B_X6_add_86.tr (fe3_xpA (fe3_xpA (fe3_xmI (fe3_xmI je3_rf))))
  · skip
    exact KE3_some je3_rf
theorem e3_F_X6_add {N : Nat} {l0 : Nat} {l1 : Int32} {l2 : Int64} {l4 : Int32} {u : CSt}  : KE3 (F_X6_add N l0 l1 l2 l4 u) u := by
  unfold F_X6_add
  exact e3_B_X6_add_0.tr je3_rf
theorem e3_B_X6_stoppedTasks_32 {N : Nat} {R_4 : Nat × Int32 × Int32 × CSt → Option (Int32 × CSt)} {l0 : Nat} {l2 : Int32} {s0 : Int32} {s1 : Int32} {u : CSt} (h_R_4 : ∀ a, KE3 (R_4 a) a.2.2.2) : KE3 (B_X6_stoppedTasks_32 N R_4 l0 l2 s0 s1 u) u := by
  unfold B_X6_stoppedTasks_32
  exact (h_R_4 _).tr je3_rf
theorem e3_B_X6_stoppedTasks_4 {N : Nat} {R_4 : Nat × Int32 × Int32 × CSt → Option (Int32 × CSt)} {l0 : Nat} {l1 : Int32} {l2 : Int32} {u : CSt} (h_R_4 : ∀ a, KE3 (R_4 a) a.2.2.2) : KE3 (B_X6_stoppedTasks_4 N R_4 l0 l1 l2 u) u := by
  unfold B_X6_stoppedTasks_4
  refine KE3_rd (fun _ => ?_)
  refine KE3_if ?_ ?_
  · skip
    exact KE3_some je3_rf
  · skip
    refine KE3_ix ?_
    refine KE3_if ?_ ?_
    · skip
      exact (e3_B_X6_stoppedTasks_32 h_R_4).tr je3_rf
    · skip
      exact (e3_B_X6_stoppedTasks_32 h_R_4).tr je3_rf
theorem e3_LP_X6_stoppedTasks_4 {N : Nat}  (n : Nat) : ∀ a : Nat × Int32 × Int32 × CSt, KE3 (LP_X6_stoppedTasks_4 N n a) a.2.2.2 := by
  induction n with
  | zero => exact fun a r z e => by have e : (none : Option _) = some (r, z) := e; cases e
  | succ n ih =>
    intro a
    show KE3 (B_X6_stoppedTasks_4 N (LP_X6_stoppedTasks_4 N n) a.1 a.2.1 a.2.2.1 a.2.2.2) a.2.2.2
    exact e3_B_X6_stoppedTasks_4 ih
theorem e3_B_X6_stoppedTasks_0 {N : Nat} {l0 : Nat} {u : CSt}  : KE3 (B_X6_stoppedTasks_0 N l0 u) u := by
  unfold B_X6_stoppedTasks_0
  exact (e3_LP_X6_stoppedTasks_4  _ _).tr je3_rf
theorem e3_F_X6_stoppedTasks {N : Nat} {l0 : Nat} {u : CSt}  : KE3 (F_X6_stoppedTasks N l0 u) u := by
  unfold F_X6_stoppedTasks
  exact e3_B_X6_stoppedTasks_0.tr je3_rf
theorem e3_B_X6_step_0 {N : Nat} {l0 : Nat} {l1 : Int32} {l2 : Int32} {l3 : Int32} {l4 : Int32} {u : CSt}  : KE3 (B_X6_step_0 N l0 l1 l2 l3 l4 u) u := by
  unfold B_X6_step_0
  refine KE3_if ?_ ?_
  · skip
    refine KE3_wc ?_
    refine KE3_wc ?_
    refine KE3_wc ?_
    refine KE3_wc ?_
    refine KE3_pc ?_
    exact KE3_some (fe3_xpI (fe3_xpA (fe3_xpA (fe3_xpA (fe3_xpA je3_rf)))))
  · skip
    exact KE3_some je3_rf
theorem e3_F_X6_step {N : Nat} {l0 : Nat} {l1 : Int32} {l2 : Int32} {l3 : Int32} {l4 : Int32} {u : CSt}  : KE3 (F_X6_step N l0 l1 l2 l3 l4 u) u := by
  unfold F_X6_step
  exact e3_B_X6_step_0.tr je3_rf
theorem e3_B_X6_cost_0 {N : Nat} {l0 : Nat} {l1 : Int32} {u : CSt}  : KE3 (B_X6_cost_0 N l0 l1 u) u := by
  unfold B_X6_cost_0
  refine KE3_bc (e3_F_X6_step.tr je3_rf) (fun _ _ => ?_)
  exact KE3_some je3_rf
theorem e3_F_X6_cost {N : Nat} {l0 : Nat} {l1 : Int32} {u : CSt}  : KE3 (F_X6_cost N l0 l1 u) u := by
  unfold F_X6_cost
  exact e3_B_X6_cost_0.tr je3_rf
theorem e3_B_X6_constant_0 {N : Nat} {l0 : Nat} {l1 : Int64} {l3 : Int32} {l4 : Int32} {u : CSt}  : KE3 (B_X6_constant_0 N l0 l1 l3 l4 u) u := by
  unfold B_X6_constant_0
  refine KE3_bc (e3_F_X6_step.tr je3_rf) (fun _ _ => ?_)
  exact KE3_some je3_rf
theorem e3_F_X6_constant {N : Nat} {l0 : Nat} {l1 : Int64} {l3 : Int32} {l4 : Int32} {u : CSt}  : KE3 (F_X6_constant N l0 l1 l3 l4 u) u := by
  unfold F_X6_constant
  exact e3_B_X6_constant_0.tr je3_rf
theorem e3_B_X6_land_4 {N : Nat} {R_4 : Nat × Int32 × Int32 × CSt → Option (Int32 × CSt)} {l0 : Nat} {l2 : Int32} {l3 : Int32} {u : CSt} (h_R_4 : ∀ a, KE3 (R_4 a) a.2.2.2) : KE3 (B_X6_land_4 N R_4 l0 l2 l3 u) u := by
  unfold B_X6_land_4
  refine KE3_if ?_ ?_
  · skip
    exact KE3_some je3_rf
  · skip
    refine KE3_if ?_ ?_
    · skip
      exact KE3_some je3_rf
    · skip
      refine KE3_if ?_ ?_
      · skip
        exact KE3_some je3_rf
      · skip
        refine KE3_rd (fun _ => ?_)
        refine KE3_wc ?_
        exact (h_R_4 _).tr (fe3_xpA je3_rf)
theorem e3_LP_X6_land_4 {N : Nat}  (n : Nat) : ∀ a : Nat × Int32 × Int32 × CSt, KE3 (LP_X6_land_4 N n a) a.2.2.2 := by
  induction n with
  | zero => exact fun a r z e => by have e : (none : Option _) = some (r, z) := e; cases e
  | succ n ih =>
    intro a
    show KE3 (B_X6_land_4 N (LP_X6_land_4 N n) a.1 a.2.1 a.2.2.1 a.2.2.2) a.2.2.2
    exact e3_B_X6_land_4 ih
theorem e3_B_X6_land_0 {N : Nat} {l0 : Nat} {l1 : Int32} {u : CSt}  : KE3 (B_X6_land_0 N l0 l1 u) u := by
  unfold B_X6_land_0
  exact (e3_LP_X6_land_4  _ _).tr je3_rf
theorem e3_F_X6_land {N : Nat} {l0 : Nat} {l1 : Int32} {u : CSt}  : KE3 (F_X6_land N l0 l1 u) u := by
  unfold F_X6_land
  exact e3_B_X6_land_0.tr je3_rf
theorem e3_B_X6_label_0 {N : Nat} {l0 : Nat} {l1 : Int64} {l3 : Int64} {u : CSt}  : KE3 (B_X6_label_0 N l0 l1 l3 u) u := by
  unfold B_X6_label_0
  refine KE3_if ?_ ?_
  · skip
    exact KE3_some je3_rf
  · skip
    refine KE3_wc ?_
    refine KE3_wc ?_
    refine KE3_pc ?_
    exact KE3_some (fe3_xpI (fe3_xpB (fe3_xpB je3_rf)))
theorem e3_F_X6_label {N : Nat} {l0 : Nat} {l1 : Int64} {l3 : Int64} {u : CSt}  : KE3 (F_X6_label N l0 l1 l3 u) u := by
  unfold F_X6_label
  exact e3_B_X6_label_0.tr je3_rf
theorem e3_B_X9_rewind_0 {N : Nat} {u : CSt}  : KE3 (B_X9_rewind_0 N u) u := by
  unfold B_X9_rewind_0
  refine KE3_pc ?_
  exact KE3_some (fe3_xI (by decide) je3_rf)
theorem e3_F_X9_rewind {N : Nat} {u : CSt}  : KE3 (F_X9_rewind N u) u := by
  unfold F_X9_rewind
  exact e3_B_X9_rewind_0.tr je3_rf
theorem e3_B_X9_type_0 {N : Nat} {u : CSt}  : KE3 (B_X9_type_0 N u) u := by
  unfold B_X9_type_0
  refine KE3_rd (fun _ => ?_)
  exact KE3_some je3_rf
theorem e3_F_X9_type {N : Nat} {u : CSt}  : KE3 (F_X9_type N u) u := by
  unfold F_X9_type
  exact e3_B_X9_type_0.tr je3_rf
theorem e3_B_X9_typeAhead_0 {N : Nat} {l1 : Int32} {u : CSt}  : KE3 (B_X9_typeAhead_0 N l1 u) u := by
  unfold B_X9_typeAhead_0
  refine KE3_if ?_ ?_
  · skip
    exact KE3_some je3_rf
  · skip
    refine KE3_rd (fun _ => ?_)
    exact KE3_some je3_rf
theorem e3_F_X9_typeAhead {N : Nat} {l1 : Int32} {u : CSt}  : KE3 (F_X9_typeAhead N l1 u) u := by
  unfold F_X9_typeAhead
  exact e3_B_X9_typeAhead_0.tr je3_rf
theorem e3_B_X9_is_0 {N : Nat} {l1 : Int32} {u : CSt}  : KE3 (B_X9_is_0 N l1 u) u := by
  unfold B_X9_is_0
  refine KE3_rd (fun _ => ?_)
  refine KE3_if ?_ ?_
  · skip
    exact KE3_some je3_rf
  · skip
    exact KE3_some je3_rf
theorem e3_F_X9_is {N : Nat} {l1 : Int32} {u : CSt}  : KE3 (F_X9_is N l1 u) u := by
  unfold F_X9_is
  exact e3_B_X9_is_0.tr je3_rf
theorem e3_B_X9_isKindWord_0 {N : Nat} {u : CSt}  : KE3 (B_X9_isKindWord_0 N u) u := by
  unfold B_X9_isKindWord_0
  refine KE3_rd (fun _ => ?_)
  refine KE3_if ?_ ?_
  · skip
    exact KE3_some je3_rf
  · skip
    refine KE3_rd (fun _ => ?_)
    refine KE3_if ?_ ?_
    · skip
      exact KE3_some je3_rf
    · skip
      exact KE3_some je3_rf
theorem e3_F_X9_isKindWord {N : Nat} {u : CSt}  : KE3 (F_X9_isKindWord N u) u := by
  unfold F_X9_isKindWord
  exact e3_B_X9_isKindWord_0.tr je3_rf
theorem e3_B_X9_here_0 {N : Nat} {u : CSt}  : KE3 (B_X9_here_0 N u) u := by
  unfold B_X9_here_0
  refine KE3_rd (fun _ => ?_)
  exact KE3_some je3_rf
theorem e3_F_X9_here {N : Nat} {u : CSt}  : KE3 (F_X9_here N u) u := by
  unfold F_X9_here
  exact e3_B_X9_here_0.tr je3_rf
theorem e3_B_X9_head_0 {N : Nat} {u : CSt}  : KE3 (B_X9_head_0 N u) u := by
  unfold B_X9_head_0
  refine KE3_rd (fun _ => ?_)
  exact KE3_some je3_rf
theorem e3_F_X9_head {N : Nat} {u : CSt}  : KE3 (F_X9_head N u) u := by
  unfold F_X9_head
  exact e3_B_X9_head_0.tr je3_rf
theorem e3_B_X9_tail_0 {N : Nat} {u : CSt}  : KE3 (B_X9_tail_0 N u) u := by
  unfold B_X9_tail_0
  refine KE3_rd (fun _ => ?_)
  exact KE3_some je3_rf
theorem e3_F_X9_tail {N : Nat} {u : CSt}  : KE3 (F_X9_tail N u) u := by
  unfold F_X9_tail
  exact e3_B_X9_tail_0.tr je3_rf
theorem e3_B_X9_isWide_0 {N : Nat} {u : CSt}  : KE3 (B_X9_isWide_0 N u) u := by
  unfold B_X9_isWide_0
  refine KE3_rd (fun _ => ?_)
  refine KE3_if ?_ ?_
  · skip
    exact KE3_some je3_rf
  · skip
    exact KE3_some je3_rf
theorem e3_F_X9_isWide {N : Nat} {u : CSt}  : KE3 (F_X9_isWide N u) u := by
  unfold F_X9_isWide
  exact e3_B_X9_isWide_0.tr je3_rf
theorem e3_B_X9_next_0 {N : Nat} {u : CSt}  : KE3 (B_X9_next_0 N u) u := by
  unfold B_X9_next_0
  refine KE3_if ?_ ?_
  · skip
    exact KE3_some je3_rf
  · skip
    refine KE3_pc ?_
    exact KE3_some (fe3_xI (by decide) je3_rf)
theorem e3_F_X9_next {N : Nat} {u : CSt}  : KE3 (F_X9_next N u) u := by
  unfold F_X9_next
  exact e3_B_X9_next_0.tr je3_rf
theorem e3_B_X9_misfit_0 {N : Nat} {u : CSt}  : KE3 (B_X9_misfit_0 N u) u := by
  unfold B_X9_misfit_0
  refine KE3_rd (fun _ => ?_)
  refine KE3_if ?_ ?_
  · skip
    exact KE3_some je3_rf
  · skip
    exact KE3_some je3_rf
theorem e3_F_X9_misfit {N : Nat} {u : CSt}  : KE3 (F_X9_misfit N u) u := by
  unfold F_X9_misfit
  exact e3_B_X9_misfit_0.tr je3_rf
theorem e3_B_X9_refuse_0 {N : Nat} {l1 : Int32} {l2 : Int32} {u : CSt}  : KE3 (B_X9_refuse_0 N l1 l2 u) u := by
  unfold B_X9_refuse_0
  refine KE3_pc ?_
  refine KE3_pc ?_
  exact KE3_some (fe3_xI (by decide) (fe3_xI (by decide) je3_rf))
theorem e3_F_X9_refuse {N : Nat} {l1 : Int32} {l2 : Int32} {u : CSt}  : KE3 (F_X9_refuse N l1 l2 u) u := by
  unfold F_X9_refuse
  exact e3_B_X9_refuse_0.tr je3_rf
theorem e3_B_X9_take_30 {N : Nat} {u : CSt}  : KE3 (B_X9_take_30 N u) u := by
  unfold B_X9_take_30
  refine KE3_bc (e3_F_X9_next.tr je3_rf) (fun _ _ => ?_)
  exact KE3_some je3_rf
theorem e3_B_X9_take_0 {N : Nat} {l1 : Int32} {u : CSt}  : KE3 (B_X9_take_0 N l1 u) u := by
  unfold B_X9_take_0
  refine KE3_rd (fun _ => ?_)
  refine KE3_if ?_ ?_
  · skip
    exact e3_B_X9_take_30.tr je3_rf
  · skip
    refine KE3_bc (e3_F_X9_misfit.tr je3_rf) (fun _ _ => ?_)
    refine KE3_rd (fun _ => ?_)
    refine KE3_bt (e3_F_X9_refuse.tr je3_rf) (fun _ _ => ?_)
    exact e3_B_X9_take_30.tr je3_rf
theorem e3_F_X9_take {N : Nat} {l1 : Int32} {u : CSt}  : KE3 (F_X9_take N l1 u) u := by
  unfold F_X9_take
  exact e3_B_X9_take_0.tr je3_rf
theorem e3_B_X9_refuseToken_0 {N : Nat} {u : CSt}  : KE3 (B_X9_refuseToken_0 N u) u := by
  unfold B_X9_refuseToken_0
  refine KE3_bc (e3_F_X9_misfit.tr je3_rf) (fun _ _ => ?_)
  refine KE3_rd (fun _ => ?_)
  refine KE3_bt (e3_F_X9_refuse.tr je3_rf) (fun _ _ => ?_)
  exact KE3_some je3_rf
theorem e3_F_X9_refuseToken {N : Nat} {u : CSt}  : KE3 (F_X9_refuseToken N u) u := by
  unfold F_X9_refuseToken
  exact e3_B_X9_refuseToken_0.tr je3_rf
theorem e3_B_X9_takeNumber_28 {N : Nat} {u : CSt}  : KE3 (B_X9_takeNumber_28 N u) u := by
  unfold B_X9_takeNumber_28
  refine KE3_rd (fun _ => ?_)
  refine KE3_bc (e3_F_X9_next.tr je3_rf) (fun _ _ => ?_)
  exact KE3_some je3_rf
theorem e3_B_X9_takeNumber_0 {N : Nat} {u : CSt}  : KE3 (B_X9_takeNumber_0 N u) u := by
  unfold B_X9_takeNumber_0
  refine KE3_rd (fun _ => ?_)
  refine KE3_if ?_ ?_
  · skip
    exact e3_B_X9_takeNumber_28.tr je3_rf
  · skip
    refine KE3_rd (fun _ => ?_)
    refine KE3_bt (e3_F_X9_refuse.tr je3_rf) (fun _ _ => ?_)
    exact e3_B_X9_takeNumber_28.tr je3_rf
theorem e3_F_X9_takeNumber {N : Nat} {u : CSt}  : KE3 (F_X9_takeNumber N u) u := by
  unfold F_X9_takeNumber
  exact e3_B_X9_takeNumber_0.tr je3_rf
theorem e3_B_X9_takeBounded_53 {N : Nat} {l5 : Int64} {u : CSt}  : KE3 (B_X9_takeBounded_53 N l5 u) u := by
  unfold B_X9_takeBounded_53
  refine KE3_bc (e3_F_X9_next.tr je3_rf) (fun _ _ => ?_)
  exact KE3_some je3_rf
theorem e3_B_X9_takeBounded_39 {N : Nat} {l5 : Int64} {u : CSt}  : KE3 (B_X9_takeBounded_39 N l5 u) u := by
  unfold B_X9_takeBounded_39
  refine KE3_rd (fun _ => ?_)
  refine KE3_bt (e3_F_X9_refuse.tr je3_rf) (fun _ _ => ?_)
  exact e3_B_X9_takeBounded_53.tr je3_rf
theorem e3_B_X9_takeBounded_0 {N : Nat} {l1 : Int64} {l3 : Int64} {u : CSt}  : KE3 (B_X9_takeBounded_0 N l1 l3 u) u := by
  unfold B_X9_takeBounded_0
  refine KE3_rd (fun _ => ?_)
  refine KE3_rd (fun _ => ?_)
  refine KE3_if ?_ ?_
  · skip
    refine KE3_if ?_ ?_
    · skip
      exact e3_B_X9_takeBounded_39.tr je3_rf
    · skip
      refine KE3_if ?_ ?_
      · skip
        exact e3_B_X9_takeBounded_53.tr je3_rf
      · skip
        exact e3_B_X9_takeBounded_39.tr je3_rf
  · skip
    exact e3_B_X9_takeBounded_39.tr je3_rf
theorem e3_F_X9_takeBounded {N : Nat} {l1 : Int64} {l3 : Int64} {u : CSt}  : KE3 (F_X9_takeBounded N l1 l3 u) u := by
  unfold F_X9_takeBounded
  exact e3_B_X9_takeBounded_0.tr je3_rf
theorem e3_B_X9_takeKind_0 {N : Nat} {u : CSt}  : KE3 (B_X9_takeKind_0 N u) u := by
  unfold B_X9_takeKind_0
  refine KE3_rd (fun _ => ?_)
  refine KE3_bc (e3_F_X9_next.tr je3_rf) (fun _ _ => ?_)
  exact KE3_some je3_rf
theorem e3_F_X9_takeKind {N : Nat} {u : CSt}  : KE3 (F_X9_takeKind N u) u := by
  unfold F_X9_takeKind
  exact e3_B_X9_takeKind_0.tr je3_rf
theorem e3_B_X9_byteAt_0 {N : Nat} {l1 : Int32} {u : CSt}  : KE3 (B_X9_byteAt_0 N l1 u) u := by
  unfold B_X9_byteAt_0
  refine KE3_if ?_ ?_
  · skip
    exact KE3_some je3_rf
  · skip
    refine KE3_if ?_ ?_
    · skip
      exact KE3_some je3_rf
    · skip
      refine KE3_if ?_ ?_
      · skip
        exact KE3_some je3_rf
      · skip
        refine KE3_rd (fun _ => ?_)
        exact KE3_some je3_rf
theorem e3_F_X9_byteAt {N : Nat} {l1 : Int32} {u : CSt}  : KE3 (F_X9_byteAt N l1 u) u := by
  unfold F_X9_byteAt
  exact e3_B_X9_byteAt_0.tr je3_rf
theorem e3_B_X9_behindGap_93 {N : Nat} {R_4 : Int32 × Int32 × CSt → Option (Int32 × CSt)} {l2 : Int32} {l3 : Int32} {u : CSt} (h_R_4 : ∀ a, KE3 (R_4 a) a.2.2) : KE3 (B_X9_behindGap_93 N R_4 l2 l3 u) u := by
  unfold B_X9_behindGap_93
  exact (h_R_4 _).tr je3_rf
theorem e3_B_X9_behindGap_35 {N : Nat} {R_4 : Int32 × Int32 × CSt → Option (Int32 × CSt)} {l3 : Int32} {s0 : Int32} {u : CSt} (h_R_4 : ∀ a, KE3 (R_4 a) a.2.2) : KE3 (B_X9_behindGap_35 N R_4 l3 s0 u) u := by
  unfold B_X9_behindGap_35
  exact (e3_B_X9_behindGap_93 h_R_4).tr je3_rf
theorem e3_B_X9_behindGap_63 {N : Nat} {R_4 : Int32 × Int32 × CSt → Option (Int32 × CSt)} {l2 : Int32} {l3 : Int32} {l4 : Int32} {u : CSt} (h_R_4 : ∀ a, KE3 (R_4 a) a.2.2) : KE3 (B_X9_behindGap_63 N R_4 l2 l3 l4 u) u := by
  unfold B_X9_behindGap_63
  refine KE3_if ?_ ?_
  · skip
    exact (e3_B_X9_behindGap_93 h_R_4).tr je3_rf
  · skip
    refine KE3_if ?_ ?_
    · skip
      exact (e3_B_X9_behindGap_93 h_R_4).tr je3_rf
    · skip
      refine KE3_if ?_ ?_
      · skip
        exact (e3_B_X9_behindGap_93 h_R_4).tr je3_rf
      · skip
        refine KE3_if ?_ ?_
        · skip
          exact (e3_B_X9_behindGap_93 h_R_4).tr je3_rf
        · skip
          exact KE3_some je3_rf
theorem e3_B_X9_behindGap_4 {N : Nat} {R_4 : Int32 × Int32 × CSt → Option (Int32 × CSt)} {l2 : Int32} {l3 : Int32} {u : CSt} (h_R_4 : ∀ a, KE3 (R_4 a) a.2.2) : KE3 (B_X9_behindGap_4 N R_4 l2 l3 u) u := by
  unfold B_X9_behindGap_4
  refine KE3_if ?_ ?_
  · skip
    exact KE3_some je3_rf
  · skip
    refine KE3_bc (e3_F_X9_byteAt.tr je3_rf) (fun _ _ => ?_)
    refine KE3_if ?_ ?_
    · skip
      refine KE3_if ?_ ?_
      · skip
        refine KE3_bc (e3_F_X9_byteAt.tr je3_rf) (fun _ _ => ?_)
        refine KE3_if ?_ ?_
        · skip
          exact (e3_B_X9_behindGap_93 h_R_4).tr je3_rf
        · skip
          exact (e3_B_X9_behindGap_63 h_R_4).tr je3_rf
      · skip
        exact (e3_B_X9_behindGap_63 h_R_4).tr je3_rf
    · skip
      refine KE3_if ?_ ?_
      · skip
        exact (e3_B_X9_behindGap_35 h_R_4).tr je3_rf
      · skip
        exact (e3_B_X9_behindGap_35 h_R_4).tr je3_rf
theorem e3_LP_X9_behindGap_4 {N : Nat}  (n : Nat) : ∀ a : Int32 × Int32 × CSt, KE3 (LP_X9_behindGap_4 N n a) a.2.2 := by
  induction n with
  | zero => exact fun a r z e => by have e : (none : Option _) = some (r, z) := e; cases e
  | succ n ih =>
    intro a
    show KE3 (B_X9_behindGap_4 N (LP_X9_behindGap_4 N n) a.1 a.2.1 a.2.2) a.2.2
    exact e3_B_X9_behindGap_4 ih
theorem e3_B_X9_behindGap_0 {N : Nat} {l1 : Int32} {u : CSt}  : KE3 (B_X9_behindGap_0 N l1 u) u := by
  unfold B_X9_behindGap_0
  exact (e3_LP_X9_behindGap_4  _ _).tr je3_rf
theorem e3_F_X9_behindGap {N : Nat} {l1 : Int32} {u : CSt}  : KE3 (F_X9_behindGap N l1 u) u := by
  unfold F_X9_behindGap
  exact e3_B_X9_behindGap_0.tr je3_rf
theorem e3_B_X9_put_0 {N : Nat} {l1 : Int32} {l2 : Int64} {l4 : Int32} {u : CSt}  : KE3 (B_X9_put_0 N l1 l2 l4 u) u := by
  unfold B_X9_put_0
  refine KE3_wc ?_
  refine KE3_wc ?_
  refine KE3_wc ?_
  exact KE3_some (fe3_xA (by decide) (fe3_xB (by decide) (fe3_xA (by decide) je3_rf)))
theorem e3_F_X9_put {N : Nat} {l1 : Int32} {l2 : Int64} {l4 : Int32} {u : CSt}  : KE3 (F_X9_put N l1 l2 l4 u) u := by
  unfold F_X9_put
  exact e3_B_X9_put_0.tr je3_rf
theorem e3_B_X9_closeWith_0 {N : Nat} {l1 : Int32} {l2 : Int32} {u : CSt}  : KE3 (B_X9_closeWith_0 N l1 l2 u) u := by
  unfold B_X9_closeWith_0
  refine KE3_bc (e3_F_X9_put.tr je3_rf) (fun _ _ => ?_)
  refine KE3_wc ?_
  exact KE3_some (fe3_xA (by decide) je3_rf)
theorem e3_F_X9_closeWith {N : Nat} {l1 : Int32} {l2 : Int32} {u : CSt}  : KE3 (F_X9_closeWith N l1 l2 u) u := by
  unfold F_X9_closeWith
  exact e3_B_X9_closeWith_0.tr je3_rf
theorem e3_B_X9_isWord_20 {N : Nat} {R_20 : Int32 × Int32 × CSt → Option (Int32 × CSt)} {l1 : Int32} {l2 : Int32} {u : CSt} (h_R_20 : ∀ a, KE3 (R_20 a) a.2.2) : KE3 (B_X9_isWord_20 N R_20 l1 l2 u) u := by
  unfold B_X9_isWord_20
  refine KE3_if ?_ ?_
  · skip
    exact KE3_some je3_rf
  · skip
    refine KE3_bc (e3_F_X9_byteAt.tr je3_rf) (fun _ _ => ?_)
    refine KE3_pb (fun _ => ?_)
    refine KE3_if ?_ ?_
    · skip
      exact KE3_some je3_rf
    · skip
      exact (h_R_20 _).tr je3_rf
theorem e3_LP_X9_isWord_20 {N : Nat}  (n : Nat) : ∀ a : Int32 × Int32 × CSt, KE3 (LP_X9_isWord_20 N n a) a.2.2 := by
  induction n with
  | zero => exact fun a r z e => by have e : (none : Option _) = some (r, z) := e; cases e
  | succ n ih =>
    intro a
    show KE3 (B_X9_isWord_20 N (LP_X9_isWord_20 N n) a.1 a.2.1 a.2.2) a.2.2
    exact e3_B_X9_isWord_20 ih
theorem e3_B_X9_isWord_0 {N : Nat} {l1 : Int32} {u : CSt}  : KE3 (B_X9_isWord_0 N l1 u) u := by
  unfold B_X9_isWord_0
  refine KE3_pc ?_
  refine KE3_if ?_ ?_
  · skip
    exact KE3_some (fe3_xI (by decide) je3_rf)
  · skip
    refine KE3_if ?_ ?_
    · skip
      exact (e3_LP_X9_isWord_20  _ _).tr (fe3_xI (by decide) je3_rf)
    · skip
      exact KE3_some (fe3_xI (by decide) je3_rf)
theorem e3_F_X9_isWord {N : Nat} {l1 : Int32} {u : CSt}  : KE3 (F_X9_isWord N l1 u) u := by
  unfold F_X9_isWord
  exact e3_B_X9_isWord_0.tr je3_rf
theorem e3_B_X9_wordHead_5 {N : Nat} {R_5 : Int32 × Int32 × Int64 × Int32 × CSt → Option (Int64 × CSt)} {l1 : Int32} {l2 : Int32} {l3 : Int64} {l5 : Int32} {u : CSt} (h_R_5 : ∀ a, KE3 (R_5 a) a.2.2.2.2) : KE3 (B_X9_wordHead_5 N R_5 l1 l2 l3 l5 u) u := by
  unfold B_X9_wordHead_5
  refine KE3_if ?_ ?_
  · skip
    exact KE3_some je3_rf
  · skip
    refine KE3_if ?_ ?_
    · skip
      exact KE3_some je3_rf
    · skip
      refine KE3_bc (e3_F_X9_byteAt.tr je3_rf) (fun _ _ => ?_)
      exact (h_R_5 _).tr je3_rf
theorem e3_LP_X9_wordHead_5 {N : Nat}  (n : Nat) : ∀ a : Int32 × Int32 × Int64 × Int32 × CSt, KE3 (LP_X9_wordHead_5 N n a) a.2.2.2.2 := by
  induction n with
  | zero => exact fun a r z e => by have e : (none : Option _) = some (r, z) := e; cases e
  | succ n ih =>
    intro a
    show KE3 (B_X9_wordHead_5 N (LP_X9_wordHead_5 N n) a.1 a.2.1 a.2.2.1 a.2.2.2.1 a.2.2.2.2) a.2.2.2.2
    exact e3_B_X9_wordHead_5 ih
theorem e3_B_X9_wordHead_0 {N : Nat} {l1 : Int32} {l2 : Int32} {u : CSt}  : KE3 (B_X9_wordHead_0 N l1 l2 u) u := by
  unfold B_X9_wordHead_0
  exact (e3_LP_X9_wordHead_5  _ _).tr je3_rf
theorem e3_F_X9_wordHead {N : Nat} {l1 : Int32} {l2 : Int32} {u : CSt}  : KE3 (F_X9_wordHead N l1 l2 u) u := by
  unfold F_X9_wordHead
  exact e3_B_X9_wordHead_0.tr je3_rf
theorem e3_B_X9_wordTail_8 {N : Nat} {R_8 : Int32 × Int32 × Int32 × CSt → Option (Int32 × CSt)} {l2 : Int32} {l3 : Int32} {l4 : Int32} {u : CSt} (h_R_8 : ∀ a, KE3 (R_8 a) a.2.2.2) : KE3 (B_X9_wordTail_8 N R_8 l2 l3 l4 u) u := by
  unfold B_X9_wordTail_8
  refine KE3_if ?_ ?_
  · skip
    exact KE3_some je3_rf
  · skip
    refine KE3_bc (e3_F_X9_byteAt.tr je3_rf) (fun _ _ => ?_)
    exact (h_R_8 _).tr je3_rf
theorem e3_LP_X9_wordTail_8 {N : Nat}  (n : Nat) : ∀ a : Int32 × Int32 × Int32 × CSt, KE3 (LP_X9_wordTail_8 N n a) a.2.2.2 := by
  induction n with
  | zero => exact fun a r z e => by have e : (none : Option _) = some (r, z) := e; cases e
  | succ n ih =>
    intro a
    show KE3 (B_X9_wordTail_8 N (LP_X9_wordTail_8 N n) a.1 a.2.1 a.2.2.1 a.2.2.2) a.2.2.2
    exact e3_B_X9_wordTail_8 ih
theorem e3_B_X9_wordTail_0 {N : Nat} {l1 : Int32} {l2 : Int32} {u : CSt}  : KE3 (B_X9_wordTail_0 N l1 l2 u) u := by
  unfold B_X9_wordTail_0
  exact (e3_LP_X9_wordTail_8  _ _).tr je3_rf
theorem e3_F_X9_wordTail {N : Nat} {l1 : Int32} {l2 : Int32} {u : CSt}  : KE3 (F_X9_wordTail N l1 l2 u) u := by
  unfold F_X9_wordTail
  exact e3_B_X9_wordTail_0.tr je3_rf
theorem e3_B_X9_wordType_2 {N : Nat} {R_2 : Int64 × Int32 × CSt → Option (Int32 × CSt)} {l1 : Int64} {l3 : Int32} {u : CSt} (h_R_2 : ∀ a, KE3 (R_2 a) a.2.2) : KE3 (B_X9_wordType_2 N R_2 l1 l3 u) u := by
  unfold B_X9_wordType_2
  refine KE3_if ?_ ?_
  · skip
    exact KE3_some je3_rf
  · skip
    refine KE3_rd (fun _ => ?_)
    refine KE3_if ?_ ?_
    · skip
      exact KE3_some je3_rf
    · skip
      exact (h_R_2 _).tr je3_rf
theorem e3_LP_X9_wordType_2 {N : Nat}  (n : Nat) : ∀ a : Int64 × Int32 × CSt, KE3 (LP_X9_wordType_2 N n a) a.2.2 := by
  induction n with
  | zero => exact fun a r z e => by have e : (none : Option _) = some (r, z) := e; cases e
  | succ n ih =>
    intro a
    show KE3 (B_X9_wordType_2 N (LP_X9_wordType_2 N n) a.1 a.2.1 a.2.2) a.2.2
    exact e3_B_X9_wordType_2 ih
theorem e3_B_X9_wordType_0 {N : Nat} {l1 : Int64} {u : CSt}  : KE3 (B_X9_wordType_0 N l1 u) u := by
  unfold B_X9_wordType_0
  exact (e3_LP_X9_wordType_2  _ _).tr je3_rf
theorem e3_F_X9_wordType {N : Nat} {l1 : Int64} {u : CSt}  : KE3 (F_X9_wordType N l1 u) u := by
  unfold F_X9_wordType
  exact e3_B_X9_wordType_0.tr je3_rf
theorem e3_B_X9_readWord_69 {N : Nat} {l2 : Int32} {l3 : Int64} {l5 : Int32} {s1 : Int32} {u : CSt}  : KE3 (B_X9_readWord_69 N l2 l3 l5 s1 u) u := by
  unfold B_X9_readWord_69
  refine KE3_bc (e3_F_X9_put.tr je3_rf) (fun _ _ => ?_)
  exact KE3_some je3_rf
theorem e3_B_X9_readWord_27 {N : Nat} {l1 : Int32} {l2 : Int32} {u : CSt}  : KE3 (B_X9_readWord_27 N l1 l2 u) u := by
  unfold B_X9_readWord_27
  refine KE3_if ?_ ?_
  · skip
    refine KE3_bc (e3_F_X9_wordHead.tr je3_rf) (fun _ _ => ?_)
    refine KE3_bc (e3_F_X9_wordTail.tr je3_rf) (fun _ _ => ?_)
    refine KE3_if ?_ ?_
    · skip
      refine KE3_bc (e3_F_X9_wordType.tr je3_rf) (fun _ _ => ?_)
      exact e3_B_X9_readWord_69.tr je3_rf
    · skip
      exact e3_B_X9_readWord_69.tr je3_rf
  · skip
    exact KE3_some je3_rf
theorem e3_B_X9_readWord_2 {N : Nat} {R_2 : Int32 × Int32 × CSt → Option (Int32 × CSt)} {l1 : Int32} {l2 : Int32} {u : CSt} (h_R_2 : ∀ a, KE3 (R_2 a) a.2.2) : KE3 (B_X9_readWord_2 N R_2 l1 l2 u) u := by
  unfold B_X9_readWord_2
  refine KE3_if ?_ ?_
  · skip
    exact e3_B_X9_readWord_27.tr je3_rf
  · skip
    refine KE3_bc (e3_F_X9_byteAt.tr je3_rf) (fun _ _ => ?_)
    refine KE3_pb (fun _ => ?_)
    refine KE3_if ?_ ?_
    · skip
      exact e3_B_X9_readWord_27.tr je3_rf
    · skip
      exact (h_R_2 _).tr je3_rf
theorem e3_LP_X9_readWord_2 {N : Nat}  (n : Nat) : ∀ a : Int32 × Int32 × CSt, KE3 (LP_X9_readWord_2 N n a) a.2.2 := by
  induction n with
  | zero => exact fun a r z e => by have e : (none : Option _) = some (r, z) := e; cases e
  | succ n ih =>
    intro a
    show KE3 (B_X9_readWord_2 N (LP_X9_readWord_2 N n) a.1 a.2.1 a.2.2) a.2.2
    exact e3_B_X9_readWord_2 ih
theorem e3_B_X9_readWord_0 {N : Nat} {l1 : Int32} {u : CSt}  : KE3 (B_X9_readWord_0 N l1 u) u := by
  unfold B_X9_readWord_0
  exact (e3_LP_X9_readWord_2  _ _).tr je3_rf
theorem e3_F_X9_readWord {N : Nat} {l1 : Int32} {u : CSt}  : KE3 (F_X9_readWord N l1 u) u := by
  unfold F_X9_readWord
  exact e3_B_X9_readWord_0.tr je3_rf
theorem e3_B_X9_hexBits_5 {N : Nat} {R_5 : Int32 × Int64 × Int32 × CSt → Option (Int64 × CSt)} {l2 : Int32} {l3 : Int64} {l5 : Int32} {u : CSt} (h_R_5 : ∀ a, KE3 (R_5 a) a.2.2.2) : KE3 (B_X9_hexBits_5 N R_5 l2 l3 l5 u) u := by
  unfold B_X9_hexBits_5
  refine KE3_if ?_ ?_
  · skip
    exact KE3_some je3_rf
  · skip
    refine KE3_bc (e3_F_X9_byteAt.tr je3_rf) (fun _ _ => ?_)
    refine KE3_pb (fun _ => ?_)
    exact (h_R_5 _).tr je3_rf
theorem e3_LP_X9_hexBits_5 {N : Nat}  (n : Nat) : ∀ a : Int32 × Int64 × Int32 × CSt, KE3 (LP_X9_hexBits_5 N n a) a.2.2.2 := by
  induction n with
  | zero => exact fun a r z e => by have e : (none : Option _) = some (r, z) := e; cases e
  | succ n ih =>
    intro a
    show KE3 (B_X9_hexBits_5 N (LP_X9_hexBits_5 N n) a.1 a.2.1 a.2.2.1 a.2.2.2) a.2.2.2
    exact e3_B_X9_hexBits_5 ih
theorem e3_B_X9_hexBits_0 {N : Nat} {l1 : Int32} {l2 : Int32} {u : CSt}  : KE3 (B_X9_hexBits_0 N l1 l2 u) u := by
  unfold B_X9_hexBits_0
  exact (e3_LP_X9_hexBits_5  _ _).tr je3_rf
theorem e3_F_X9_hexBits {N : Nat} {l1 : Int32} {l2 : Int32} {u : CSt}  : KE3 (F_X9_hexBits N l1 l2 u) u := by
  unfold F_X9_hexBits
  exact e3_B_X9_hexBits_0.tr je3_rf
theorem e3_B_X9_decimal_5 {N : Nat} {R_5 : Int32 × Int64 × Int32 × CSt → Option (Int64 × CSt)} {l2 : Int32} {l3 : Int64} {l5 : Int32} {u : CSt} (h_R_5 : ∀ a, KE3 (R_5 a) a.2.2.2) : KE3 (B_X9_decimal_5 N R_5 l2 l3 l5 u) u := by
  unfold B_X9_decimal_5
  refine KE3_if ?_ ?_
  · skip
    exact KE3_some je3_rf
  · skip
    refine KE3_bc (e3_F_X9_byteAt.tr je3_rf) (fun _ _ => ?_)
    refine KE3_pb (fun _ => ?_)
    exact (h_R_5 _).tr je3_rf
theorem e3_LP_X9_decimal_5 {N : Nat}  (n : Nat) : ∀ a : Int32 × Int64 × Int32 × CSt, KE3 (LP_X9_decimal_5 N n a) a.2.2.2 := by
  induction n with
  | zero => exact fun a r z e => by have e : (none : Option _) = some (r, z) := e; cases e
  | succ n ih =>
    intro a
    show KE3 (B_X9_decimal_5 N (LP_X9_decimal_5 N n) a.1 a.2.1 a.2.2.1 a.2.2.2) a.2.2.2
    exact e3_B_X9_decimal_5 ih
theorem e3_B_X9_decimal_0 {N : Nat} {l1 : Int32} {l2 : Int32} {u : CSt}  : KE3 (B_X9_decimal_0 N l1 l2 u) u := by
  unfold B_X9_decimal_0
  exact (e3_LP_X9_decimal_5  _ _).tr je3_rf
theorem e3_F_X9_decimal {N : Nat} {l1 : Int32} {l2 : Int32} {u : CSt}  : KE3 (F_X9_decimal N l1 l2 u) u := by
  unfold F_X9_decimal
  exact e3_B_X9_decimal_0.tr je3_rf
theorem e3_B_X9_readNumber_211 {N : Nat} {l6 : Int32} {l8 : Int32} {s1 : Int32} {s2 : Int64} {u : CSt}  : KE3 (B_X9_readNumber_211 N l6 l8 s1 s2 u) u := by
  unfold B_X9_readNumber_211
  refine KE3_bc (e3_F_X9_put.tr je3_rf) (fun _ _ => ?_)
  exact KE3_some je3_rf
theorem e3_B_X9_readNumber_276 {N : Nat} {l6 : Int32} {s1 : Int32} {s2 : Int64} {s3 : Int32} {u : CSt}  : KE3 (B_X9_readNumber_276 N l6 s1 s2 s3 u) u := by
  unfold B_X9_readNumber_276
  refine KE3_bc (e3_F_X9_put.tr je3_rf) (fun _ _ => ?_)
  exact KE3_some je3_rf
theorem e3_B_X9_readNumber_254 {N : Nat} {l6 : Int32} {l8 : Int32} {l9 : Int64} {s0 : Int32} {u : CSt}  : KE3 (B_X9_readNumber_254 N l6 l8 l9 s0 u) u := by
  unfold B_X9_readNumber_254
  refine KE3_if ?_ ?_
  · skip
    exact e3_B_X9_readNumber_276.tr je3_rf
  · skip
    exact e3_B_X9_readNumber_276.tr je3_rf
theorem e3_B_X9_readNumber_249 {N : Nat} {l6 : Int32} {l8 : Int32} {l9 : Int64} {u : CSt}  : KE3 (B_X9_readNumber_249 N l6 l8 l9 u) u := by
  unfold B_X9_readNumber_249
  exact e3_B_X9_readNumber_254.tr je3_rf
theorem e3_B_X9_readNumber_253 {N : Nat} {l6 : Int32} {l8 : Int32} {l9 : Int64} {u : CSt}  : KE3 (B_X9_readNumber_253 N l6 l8 l9 u) u := by
  unfold B_X9_readNumber_253
  exact e3_B_X9_readNumber_254.tr je3_rf
theorem e3_B_X9_readNumber_178 {N : Nat} {l2 : Int32} {l3 : Int32} {l4 : Int32} {l5 : Int32} {l6 : Int32} {s0 : Int32} {u : CSt}  : KE3 (B_X9_readNumber_178 N l2 l3 l4 l5 l6 s0 u) u := by
  unfold B_X9_readNumber_178
  refine KE3_if ?_ ?_
  · skip
    refine KE3_bc (e3_F_X9_decimal.tr je3_rf) (fun _ _ => ?_)
    refine KE3_if ?_ ?_
    · skip
      exact e3_B_X9_readNumber_249.tr je3_rf
    · skip
      refine KE3_if ?_ ?_
      · skip
        refine KE3_if ?_ ?_
        · skip
          exact e3_B_X9_readNumber_253.tr je3_rf
        · skip
          exact e3_B_X9_readNumber_249.tr je3_rf
      · skip
        exact e3_B_X9_readNumber_253.tr je3_rf
  · skip
    refine KE3_bc (e3_F_X9_hexBits.tr je3_rf) (fun _ _ => ?_)
    refine KE3_if ?_ ?_
    · skip
      exact e3_B_X9_readNumber_211.tr je3_rf
    · skip
      exact e3_B_X9_readNumber_211.tr je3_rf
theorem e3_B_X9_readNumber_137 {N : Nat} {l2 : Int32} {l3 : Int32} {l4 : Int32} {l5 : Int32} {l6 : Int32} {s0 : Int32} {u : CSt}  : KE3 (B_X9_readNumber_137 N l2 l3 l4 l5 l6 s0 u) u := by
  unfold B_X9_readNumber_137
  refine KE3_if ?_ ?_
  · skip
    exact KE3_some je3_rf
  · skip
    refine KE3_if ?_ ?_
    · skip
      exact KE3_some je3_rf
    · skip
      refine KE3_bc (e3_F_X9_byteAt.tr je3_rf) (fun _ _ => ?_)
      refine KE3_pb (fun _ => ?_)
      refine KE3_if ?_ ?_
      · skip
        refine KE3_if ?_ ?_
        · skip
          exact e3_B_X9_readNumber_178.tr je3_rf
        · skip
          exact e3_B_X9_readNumber_178.tr je3_rf
      · skip
        exact KE3_some je3_rf
theorem e3_B_X9_readNumber_104 {N : Nat} {l2 : Int32} {l3 : Int32} {l4 : Int32} {l5 : Int32} {s0 : Int32} {u : CSt}  : KE3 (B_X9_readNumber_104 N l2 l3 l4 l5 s0 u) u := by
  unfold B_X9_readNumber_104
  refine KE3_if ?_ ?_
  · skip
    refine KE3_if ?_ ?_
    · skip
      exact e3_B_X9_readNumber_137.tr je3_rf
    · skip
      exact e3_B_X9_readNumber_137.tr je3_rf
  · skip
    refine KE3_if ?_ ?_
    · skip
      exact e3_B_X9_readNumber_137.tr je3_rf
    · skip
      exact e3_B_X9_readNumber_137.tr je3_rf
theorem e3_B_X9_readNumber_88 {N : Nat} {l2 : Int32} {l3 : Int32} {l4 : Int32} {s0 : Int32} {u : CSt}  : KE3 (B_X9_readNumber_88 N l2 l3 l4 s0 u) u := by
  unfold B_X9_readNumber_88
  refine KE3_if ?_ ?_
  · skip
    exact e3_B_X9_readNumber_104.tr je3_rf
  · skip
    exact e3_B_X9_readNumber_104.tr je3_rf
theorem e3_B_X9_readNumber_72 {N : Nat} {l2 : Int32} {l3 : Int32} {l4 : Int32} {u : CSt}  : KE3 (B_X9_readNumber_72 N l2 l3 l4 u) u := by
  unfold B_X9_readNumber_72
  refine KE3_bc (e3_F_X9_byteAt.tr je3_rf) (fun _ _ => ?_)
  refine KE3_if ?_ ?_
  · skip
    exact e3_B_X9_readNumber_88.tr je3_rf
  · skip
    exact e3_B_X9_readNumber_88.tr je3_rf
theorem e3_B_X9_readNumber_43 {N : Nat} {R_43 : Int32 × Int32 × Int32 × CSt → Option (Int32 × CSt)} {l2 : Int32} {l3 : Int32} {l4 : Int32} {u : CSt} (h_R_43 : ∀ a, KE3 (R_43 a) a.2.2.2) : KE3 (B_X9_readNumber_43 N R_43 l2 l3 l4 u) u := by
  unfold B_X9_readNumber_43
  refine KE3_if ?_ ?_
  · skip
    exact e3_B_X9_readNumber_72.tr je3_rf
  · skip
    refine KE3_bc (e3_F_X9_byteAt.tr je3_rf) (fun _ _ => ?_)
    refine KE3_pb (fun _ => ?_)
    refine KE3_if ?_ ?_
    · skip
      exact e3_B_X9_readNumber_72.tr je3_rf
    · skip
      exact (h_R_43 _).tr je3_rf
theorem e3_LP_X9_readNumber_43 {N : Nat}  (n : Nat) : ∀ a : Int32 × Int32 × Int32 × CSt, KE3 (LP_X9_readNumber_43 N n a) a.2.2.2 := by
  induction n with
  | zero => exact fun a r z e => by have e : (none : Option _) = some (r, z) := e; cases e
  | succ n ih =>
    intro a
    show KE3 (B_X9_readNumber_43 N (LP_X9_readNumber_43 N n) a.1 a.2.1 a.2.2.1 a.2.2.2) a.2.2.2
    exact e3_B_X9_readNumber_43 ih
theorem e3_B_X9_readNumber_39 {N : Nat} {l2 : Int32} {s0 : Int32} {u : CSt}  : KE3 (B_X9_readNumber_39 N l2 s0 u) u := by
  unfold B_X9_readNumber_39
  exact (e3_LP_X9_readNumber_43  _ _).tr je3_rf
theorem e3_B_X9_readNumber_27 {N : Nat} {l1 : Int32} {s0 : Int32} {u : CSt}  : KE3 (B_X9_readNumber_27 N l1 s0 u) u := by
  unfold B_X9_readNumber_27
  refine KE3_if ?_ ?_
  · skip
    exact e3_B_X9_readNumber_39.tr je3_rf
  · skip
    exact e3_B_X9_readNumber_39.tr je3_rf
theorem e3_B_X9_readNumber_26 {N : Nat} {l1 : Int32} {u : CSt}  : KE3 (B_X9_readNumber_26 N l1 u) u := by
  unfold B_X9_readNumber_26
  exact e3_B_X9_readNumber_27.tr je3_rf
theorem e3_B_X9_readNumber_0 {N : Nat} {l1 : Int32} {u : CSt}  : KE3 (B_X9_readNumber_0 N l1 u) u := by
  unfold B_X9_readNumber_0
  refine KE3_bc (e3_F_X9_byteAt.tr je3_rf) (fun _ _ => ?_)
  refine KE3_if ?_ ?_
  · skip
    refine KE3_bc (e3_F_X9_byteAt.tr je3_rf) (fun _ _ => ?_)
    refine KE3_if ?_ ?_
    · skip
      exact e3_B_X9_readNumber_27.tr je3_rf
    · skip
      exact e3_B_X9_readNumber_26.tr je3_rf
  · skip
    exact e3_B_X9_readNumber_26.tr je3_rf
theorem e3_F_X9_readNumber {N : Nat} {l1 : Int32} {u : CSt}  : KE3 (F_X9_readNumber N l1 u) u := by
  unfold F_X9_readNumber
  exact e3_B_X9_readNumber_0.tr je3_rf
theorem e3_B_X9_readCharacter_0 {N : Nat} {l1 : Int32} {u : CSt}  : KE3 (B_X9_readCharacter_0 N l1 u) u := by
  unfold B_X9_readCharacter_0
  refine KE3_bc (e3_F_X9_byteAt.tr je3_rf) (fun _ _ => ?_)
  refine KE3_if ?_ ?_
  · skip
    exact KE3_some je3_rf
  · skip
    refine KE3_if ?_ ?_
    · skip
      exact KE3_some je3_rf
    · skip
      refine KE3_bc (e3_F_X9_byteAt.tr je3_rf) (fun _ _ => ?_)
      refine KE3_if ?_ ?_
      · skip
        refine KE3_bc (e3_F_X9_put.tr je3_rf) (fun _ _ => ?_)
        exact KE3_some je3_rf
      · skip
        exact KE3_some je3_rf
theorem e3_F_X9_readCharacter {N : Nat} {l1 : Int32} {u : CSt}  : KE3 (F_X9_readCharacter N l1 u) u := by
  unfold F_X9_readCharacter
  exact e3_B_X9_readCharacter_0.tr je3_rf
theorem e3_B_X9_readSign_98 {N : Nat} {l1 : Int32} {l3 : Int32} {l4 : Int32} {u : CSt}  : KE3 (B_X9_readSign_98 N l1 l3 l4 u) u := by
  unfold B_X9_readSign_98
  refine KE3_bc (e3_F_X9_put.tr je3_rf) (fun _ _ => ?_)
  exact KE3_some je3_rf
theorem e3_B_X9_readSign_65 {N : Nat} {l1 : Int32} {l2 : Int32} {l3 : Int32} {l4 : Int32} {u : CSt}  : KE3 (B_X9_readSign_65 N l1 l2 l3 l4 u) u := by
  unfold B_X9_readSign_65
  refine KE3_bc (e3_F_X9_byteAt.tr je3_rf) (fun _ _ => ?_)
  refine KE3_if ?_ ?_
  · skip
    refine KE3_pb (fun _ => ?_)
    refine KE3_if ?_ ?_
    · skip
      exact e3_B_X9_readSign_98.tr je3_rf
    · skip
      exact e3_B_X9_readSign_98.tr je3_rf
  · skip
    exact e3_B_X9_readSign_98.tr je3_rf
theorem e3_B_X9_readSign_33 {N : Nat} {R_33 : Int32 × Int32 × Int32 × Int32 × Int32 × CSt → Option (Int32 × CSt)} {l1 : Int32} {l2 : Int32} {l3 : Int32} {l4 : Int32} {l5 : Int32} {u : CSt} (h_R_33 : ∀ a, KE3 (R_33 a) a.2.2.2.2.2) : KE3 (B_X9_readSign_33 N R_33 l1 l2 l3 l4 l5 u) u := by
  unfold B_X9_readSign_33
  refine KE3_if ?_ ?_
  · skip
    exact e3_B_X9_readSign_65.tr je3_rf
  · skip
    refine KE3_bc (e3_F_X9_byteAt.tr je3_rf) (fun _ _ => ?_)
    refine KE3_if ?_ ?_
    · skip
      exact (h_R_33 _).tr je3_rf
    · skip
      exact e3_B_X9_readSign_65.tr je3_rf
theorem e3_LP_X9_readSign_33 {N : Nat}  (n : Nat) : ∀ a : Int32 × Int32 × Int32 × Int32 × Int32 × CSt, KE3 (LP_X9_readSign_33 N n a) a.2.2.2.2.2 := by
  induction n with
  | zero => exact fun a r z e => by have e : (none : Option _) = some (r, z) := e; cases e
  | succ n ih =>
    intro a
    show KE3 (B_X9_readSign_33 N (LP_X9_readSign_33 N n) a.1 a.2.1 a.2.2.1 a.2.2.2.1 a.2.2.2.2.1 a.2.2.2.2.2) a.2.2.2.2.2
    exact e3_B_X9_readSign_33 ih
theorem e3_B_X9_readSign_0 {N : Nat} {l1 : Int32} {u : CSt}  : KE3 (B_X9_readSign_0 N l1 u) u := by
  unfold B_X9_readSign_0
  refine KE3_bc (e3_F_X9_byteAt.tr je3_rf) (fun _ _ => ?_)
  refine KE3_if ?_ ?_
  · skip
    exact KE3_some je3_rf
  · skip
    refine KE3_if ?_ ?_
    · skip
      refine KE3_pb (fun _ => ?_)
      exact (e3_LP_X9_readSign_33  _ _).tr je3_rf
    · skip
      exact KE3_some je3_rf
theorem e3_F_X9_readSign {N : Nat} {l1 : Int32} {u : CSt}  : KE3 (F_X9_readSign N l1 u) u := by
  unfold F_X9_readSign
  exact e3_B_X9_readSign_0.tr je3_rf
theorem e3_B_X9_readToken_34 {N : Nat} {l1 : Int32} {l2 : Int32} {u : CSt}  : KE3 (B_X9_readToken_34 N l1 l2 u) u := by
  unfold B_X9_readToken_34
  refine KE3_pb (fun _ => ?_)
  refine KE3_if ?_ ?_
  · skip
    refine KE3_if ?_ ?_
    · skip
      refine KE3_bc (e3_F_X9_readCharacter.tr je3_rf) (fun _ _ => ?_)
      exact KE3_some je3_rf
    · skip
      refine KE3_bc (e3_F_X9_readSign.tr je3_rf) (fun _ _ => ?_)
      exact KE3_some je3_rf
  · skip
    refine KE3_bc (e3_F_X9_readWord.tr je3_rf) (fun _ _ => ?_)
    exact KE3_some je3_rf
theorem e3_B_X9_readToken_0 {N : Nat} {l1 : Int32} {u : CSt}  : KE3 (B_X9_readToken_0 N l1 u) u := by
  unfold B_X9_readToken_0
  refine KE3_bc (e3_F_X9_byteAt.tr je3_rf) (fun _ _ => ?_)
  refine KE3_wc ?_
  refine KE3_if ?_ ?_
  · skip
    exact e3_B_X9_readToken_34.tr (fe3_xA (by decide) je3_rf)
  · skip
    refine KE3_if ?_ ?_
    · skip
      exact e3_B_X9_readToken_34.tr (fe3_xA (by decide) je3_rf)
    · skip
      refine KE3_bc (e3_F_X9_readNumber.tr (fe3_xA (by decide) je3_rf)) (fun _ _ => ?_)
      exact KE3_some je3_rf
theorem e3_F_X9_readToken {N : Nat} {l1 : Int32} {u : CSt}  : KE3 (F_X9_readToken N l1 u) u := by
  unfold F_X9_readToken
  exact e3_B_X9_readToken_0.tr je3_rf
theorem e3_B_X9_read_132 {N : Nat} {l2 : Int32} {s1 : Int32} {u : CSt}  : KE3 (B_X9_read_132 N l2 s1 u) u := by
  unfold B_X9_read_132
  refine KE3_bc (e3_F_X9_closeWith.tr je3_rf) (fun _ _ => ?_)
  exact KE3_some je3_rf
theorem e3_B_X9_read_93 {N : Nat} {l2 : Int32} {u : CSt}  : KE3 (B_X9_read_93 N l2 u) u := by
  unfold B_X9_read_93
  refine KE3_if ?_ ?_
  · skip
    refine KE3_bc (e3_F_X9_readToken.tr je3_rf) (fun _ _ => ?_)
    refine KE3_if ?_ ?_
    · skip
      exact e3_B_X9_read_132.tr je3_rf
    · skip
      exact e3_B_X9_read_132.tr je3_rf
  · skip
    refine KE3_bc (e3_F_X9_closeWith.tr je3_rf) (fun _ _ => ?_)
    exact KE3_some je3_rf
theorem e3_B_X9_read_33 {N : Nat} {R_33 : Int32 × Int32 × CSt → Option (Int32 × CSt)} {l2 : Int32} {l3 : Int32} {u : CSt} (h_R_33 : ∀ a, KE3 (R_33 a) a.2.2) : KE3 (B_X9_read_33 N R_33 l2 l3 u) u := by
  unfold B_X9_read_33
  refine KE3_if ?_ ?_
  · skip
    exact e3_B_X9_read_93.tr je3_rf
  · skip
    refine KE3_if ?_ ?_
    · skip
      exact e3_B_X9_read_93.tr je3_rf
    · skip
      refine KE3_bc (e3_F_X9_readToken.tr je3_rf) (fun _ _ => ?_)
      refine KE3_if ?_ ?_
      · skip
        refine KE3_pc ?_
        refine KE3_bc (e3_F_X9_behindGap.tr (fe3_xI (by decide) je3_rf)) (fun _ _ => ?_)
        exact (h_R_33 _).tr je3_rf
      · skip
        refine KE3_bc (e3_F_X9_closeWith.tr je3_rf) (fun _ _ => ?_)
        exact KE3_some je3_rf
theorem e3_LP_X9_read_33 {N : Nat}  (n : Nat) : ∀ a : Int32 × Int32 × CSt, KE3 (LP_X9_read_33 N n a) a.2.2 := by
  induction n with
  | zero => exact fun a r z e => by have e : (none : Option _) = some (r, z) := e; cases e
  | succ n ih =>
    intro a
    show KE3 (B_X9_read_33 N (LP_X9_read_33 N n) a.1 a.2.1 a.2.2) a.2.2
    exact e3_B_X9_read_33 ih
theorem e3_B_X9_read_0 {N : Nat} {l1 : Int32} {u : CSt}  : KE3 (B_X9_read_0 N l1 u) u := by
  unfold B_X9_read_0
  refine KE3_pc ?_
  refine KE3_pc ?_
  refine KE3_pc ?_
  refine KE3_pc ?_
  refine KE3_pc ?_
  refine KE3_bc (e3_F_X9_behindGap.tr (fe3_xI (by decide) (fe3_xI (by decide) (fe3_xI (by decide) (fe3_xI (by decide) (fe3_xI (by decide) je3_rf)))))) (fun _ _ => ?_)
  exact (e3_LP_X9_read_33  _ _).tr je3_rf
theorem e3_F_X9_read {N : Nat} {l1 : Int32} {u : CSt}  : KE3 (F_X9_read N l1 u) u := by
  unfold F_X9_read
  exact e3_B_X9_read_0.tr je3_rf
theorem e3_B_X10_latest_0 {N : Nat} {l1 : Int32} {u : CSt}  : KE3 (B_X10_latest_0 N l1 u) u := by
  unfold B_X10_latest_0
  refine KE3_pb (fun _ => ?_)
  exact KE3_some je3_rf
theorem e3_F_X10_latest {N : Nat} {l1 : Int32} {u : CSt}  : KE3 (F_X10_latest N l1 u) u := by
  unfold F_X10_latest
  exact e3_B_X10_latest_0.tr je3_rf
theorem e3_B_X6_hasRoomFor_58 {N : Nat} {u : CSt}  : KE3 (B_X6_hasRoomFor_58 N u) u := by
  unfold B_X6_hasRoomFor_58
  exact KE3_some je3_rf
theorem e3_B_X6_hasRoomFor_0 {N : Nat} {l0 : Nat} {l1 : Int32} {u : CSt}  : KE3 (B_X6_hasRoomFor_0 N l0 l1 u) u := by
  unfold B_X6_hasRoomFor_0
  refine KE3_if ?_ ?_
  · skip
    refine KE3_if ?_ ?_
    · skip
      refine KE3_bc (e3_F_X6_name.tr je3_rf) (fun _ _ => ?_)
      refine KE3_ok ?_
      refine KE3_if ?_ ?_
      · skip
        exact KE3_some je3_rf
      · skip
        exact KE3_some je3_rf
    · skip
      refine KE3_if ?_ ?_
      · skip
        exact e3_B_X6_hasRoomFor_58.tr je3_rf
      · skip
        refine KE3_rd (fun _ => ?_)
        refine KE3_rd (fun _ => ?_)
        refine KE3_if ?_ ?_
        · skip
          exact KE3_some je3_rf
        · skip
          exact e3_B_X6_hasRoomFor_58.tr je3_rf
  · skip
    exact KE3_some je3_rf
theorem e3_F_X6_hasRoomFor {N : Nat} {l0 : Nat} {l1 : Int32} {u : CSt}  : KE3 (F_X6_hasRoomFor N l0 l1 u) u := by
  unfold F_X6_hasRoomFor
  exact e3_B_X6_hasRoomFor_0.tr je3_rf
theorem e3_B_X6_empty_0 {N : Nat} {l0 : Nat} {u : CSt}  : KE3 (B_X6_empty_0 N l0 u) u := by
  unfold B_X6_empty_0
  refine KE3_pc ?_
  refine KE3_pc ?_
  refine KE3_pc ?_
  refine KE3_pc ?_
  refine KE3_pc ?_
  exact KE3_some (fe3_xpF (fe3_xpI (fe3_xpI (fe3_xpI (fe3_xpI je3_rf)))))
theorem e3_F_X6_empty {N : Nat} {l0 : Nat} {u : CSt}  : KE3 (F_X6_empty N l0 u) u := by
  unfold F_X6_empty
  exact e3_B_X6_empty_0.tr je3_rf
theorem e3_B_X1_get_57 {N : Nat} {l3 : Int32} {l4 : Int64} {u : CSt}  : KE3 (B_X1_get_57 N l3 l4 u) u := by
  unfold B_X1_get_57
  exact KE3_some je3_rf
theorem e3_B_X1_get_6 {N : Nat} {R_6 : Int32 × Int32 × Int32 × Int64 × Int32 × CSt → Option (Int64 × CSt)} {l1 : Int32} {l2 : Int32} {l3 : Int32} {l4 : Int64} {l6 : Int32} {u : CSt} (h_R_6 : ∀ a, KE3 (R_6 a) a.2.2.2.2.2) : KE3 (B_X1_get_6 N R_6 l1 l2 l3 l4 l6 u) u := by
  unfold B_X1_get_6
  refine KE3_rd (fun _ => ?_)
  refine KE3_if ?_ ?_
  · skip
    exact e3_B_X1_get_57.tr je3_rf
  · skip
    refine KE3_if ?_ ?_
    · skip
      exact e3_B_X1_get_57.tr je3_rf
    · skip
      refine KE3_if ?_ ?_
      · skip
        exact e3_B_X1_get_57.tr je3_rf
      · skip
        refine KE3_ix ?_
        refine KE3_rd (fun _ => ?_)
        exact (h_R_6 _).tr je3_rf
theorem e3_LP_X1_get_6 {N : Nat}  (n : Nat) : ∀ a : Int32 × Int32 × Int32 × Int64 × Int32 × CSt, KE3 (LP_X1_get_6 N n a) a.2.2.2.2.2 := by
  induction n with
  | zero => exact fun a r z e => by have e : (none : Option _) = some (r, z) := e; cases e
  | succ n ih =>
    intro a
    show KE3 (B_X1_get_6 N (LP_X1_get_6 N n) a.1 a.2.1 a.2.2.1 a.2.2.2.1 a.2.2.2.2.1 a.2.2.2.2.2) a.2.2.2.2.2
    exact e3_B_X1_get_6 ih
theorem e3_B_X1_get_0 {N : Nat} {l1 : Int32} {l2 : Int32} {l3 : Int32} {u : CSt}  : KE3 (B_X1_get_0 N l1 l2 l3 u) u := by
  unfold B_X1_get_0
  exact (e3_LP_X1_get_6  _ _).tr je3_rf
theorem e3_F_X1_get {N : Nat} {l1 : Int32} {l2 : Int32} {l3 : Int32} {u : CSt}  : KE3 (F_X1_get N l1 l2 l3 u) u := by
  unfold F_X1_get
  exact e3_B_X1_get_0.tr je3_rf
theorem e3_B_X2_numberAt_0 {N : Nat} {l1 : Int32} {u : CSt}  : KE3 (B_X2_numberAt_0 N l1 u) u := by
  unfold B_X2_numberAt_0
  refine KE3_if ?_ ?_
  · skip
    exact KE3_some je3_rf
  · skip
    refine KE3_if ?_ ?_
    · skip
      exact KE3_some je3_rf
    · skip
      refine KE3_rd (fun _ => ?_)
      exact KE3_some je3_rf
theorem e3_F_X2_numberAt {N : Nat} {l1 : Int32} {u : CSt}  : KE3 (F_X2_numberAt N l1 u) u := by
  unfold F_X2_numberAt
  exact e3_B_X2_numberAt_0.tr je3_rf
theorem e3_B_X2_numberOf_23 {N : Nat} {l1 : Nat} {s1 : Int32} {u : CSt}  : KE3 (B_X2_numberOf_23 N l1 s1 u) u := by
  unfold B_X2_numberOf_23
  refine KE3_bc (e3_F_X1_get.tr je3_rf) (fun _ _ => ?_)
  exact KE3_some je3_rf
theorem e3_B_X2_numberOf_0 {N : Nat} {l1 : Nat} {l2 : Int32} {u : CSt}  : KE3 (B_X2_numberOf_0 N l1 l2 u) u := by
  unfold B_X2_numberOf_0
  refine KE3_bc (e3_F_X4_isPlaced.tr je3_rf) (fun _ _ => ?_)
  refine KE3_if ?_ ?_
  · skip
    refine KE3_bc (e3_F_X2_numberAt.tr je3_rf) (fun _ _ => ?_)
    exact KE3_some je3_rf
  · skip
    refine KE3_bc (e3_F_X4_isInput.tr je3_rf) (fun _ _ => ?_)
    refine KE3_if ?_ ?_
    · skip
      exact e3_B_X2_numberOf_23.tr je3_rf
    · skip
      exact e3_B_X2_numberOf_23.tr je3_rf
theorem e3_F_X2_numberOf {N : Nat} {l1 : Nat} {l2 : Int32} {u : CSt}  : KE3 (F_X2_numberOf N l1 l2 u) u := by
  unfold F_X2_numberOf
  exact e3_B_X2_numberOf_0.tr je3_rf
theorem e3_B_X0_opens_27 {N : Nat} {u : CSt}  : KE3 (B_X0_opens_27 N u) u := by
  unfold B_X0_opens_27
  refine KE3_pc ?_
  refine KE3_bc (e3_F_X9_next.tr (fe3_xI (by decide) je3_rf)) (fun _ _ => ?_)
  exact KE3_some je3_rf
theorem e3_B_X0_opens_20 {N : Nat} {u : CSt}  : KE3 (B_X0_opens_20 N u) u := by
  unfold B_X0_opens_20
  refine KE3_bt (e3_F_X9_refuseToken.tr je3_rf) (fun _ _ => ?_)
  exact e3_B_X0_opens_27.tr je3_rf
theorem e3_B_X0_opens_0 {N : Nat} {l1 : Int32} {u : CSt}  : KE3 (B_X0_opens_0 N l1 u) u := by
  unfold B_X0_opens_0
  refine KE3_bc (e3_F_X9_is.tr je3_rf) (fun _ _ => ?_)
  refine KE3_if ?_ ?_
  · skip
    exact e3_B_X0_opens_20.tr je3_rf
  · skip
    refine KE3_if ?_ ?_
    · skip
      exact e3_B_X0_opens_27.tr je3_rf
    · skip
      exact e3_B_X0_opens_20.tr je3_rf
theorem e3_F_X0_opens {N : Nat} {l1 : Int32} {u : CSt}  : KE3 (F_X0_opens N l1 u) u := by
  unfold F_X0_opens
  exact e3_B_X0_opens_0.tr je3_rf
theorem e3_B_X0_closes_0 {N : Nat} {l1 : Int32} {u : CSt}  : KE3 (B_X0_closes_0 N l1 u) u := by
  unfold B_X0_closes_0
  refine KE3_bt (e3_F_X9_take.tr je3_rf) (fun _ _ => ?_)
  refine KE3_pc ?_
  exact KE3_some (fe3_xI (by decide) je3_rf)
theorem e3_F_X0_closes {N : Nat} {l1 : Int32} {u : CSt}  : KE3 (F_X0_closes N l1 u) u := by
  unfold F_X0_closes
  exact e3_B_X0_closes_0.tr je3_rf
theorem e3_B_X0_kind_17 {N : Nat} {u : CSt}  : KE3 (B_X0_kind_17 N u) u := by
  unfold B_X0_kind_17
  refine KE3_bc (e3_F_X9_next.tr je3_rf) (fun _ _ => ?_)
  exact KE3_some je3_rf
theorem e3_B_X0_kind_0 {N : Nat} {u : CSt}  : KE3 (B_X0_kind_0 N u) u := by
  unfold B_X0_kind_0
  refine KE3_bc (e3_F_X9_isKindWord.tr je3_rf) (fun _ _ => ?_)
  refine KE3_if ?_ ?_
  · skip
    refine KE3_bt (e3_F_X9_refuseToken.tr je3_rf) (fun _ _ => ?_)
    exact e3_B_X0_kind_17.tr je3_rf
  · skip
    exact e3_B_X0_kind_17.tr je3_rf
theorem e3_F_X0_kind {N : Nat} {u : CSt}  : KE3 (F_X0_kind N u) u := by
  unfold F_X0_kind
  exact e3_B_X0_kind_0.tr je3_rf
theorem e3_B_X0_constant_52 {N : Nat} {u : CSt}  : KE3 (B_X0_constant_52 N u) u := by
  unfold B_X0_constant_52
  refine KE3_bc (e3_F_X9_next.tr je3_rf) (fun _ _ => ?_)
  exact KE3_some je3_rf
theorem e3_B_X0_constant_19 {N : Nat} {u : CSt}  : KE3 (B_X0_constant_19 N u) u := by
  unfold B_X0_constant_19
  refine KE3_bc (e3_F_X9_is.tr je3_rf) (fun _ _ => ?_)
  refine KE3_if ?_ ?_
  · skip
    refine KE3_bc (e3_F_X9_is.tr je3_rf) (fun _ _ => ?_)
    refine KE3_if ?_ ?_
    · skip
      refine KE3_bt (e3_F_X9_refuseToken.tr je3_rf) (fun _ _ => ?_)
      exact e3_B_X0_constant_52.tr je3_rf
    · skip
      exact e3_B_X0_constant_52.tr je3_rf
  · skip
    exact e3_B_X0_constant_52.tr je3_rf
theorem e3_B_X0_constant_0 {N : Nat} {u : CSt}  : KE3 (B_X0_constant_0 N u) u := by
  unfold B_X0_constant_0
  refine KE3_bc (e3_F_X9_is.tr je3_rf) (fun _ _ => ?_)
  refine KE3_if ?_ ?_
  · skip
    exact e3_B_X0_constant_19.tr je3_rf
  · skip
    refine KE3_bc (e3_F_X9_next.tr je3_rf) (fun _ _ => ?_)
    exact e3_B_X0_constant_19.tr je3_rf
theorem e3_F_X0_constant {N : Nat} {u : CSt}  : KE3 (F_X0_constant N u) u := by
  unfold F_X0_constant
  exact e3_B_X0_constant_0.tr je3_rf
theorem e3_B_X0_oneVariable_44 {N : Nat} {u : CSt}  : KE3 (B_X0_oneVariable_44 N u) u := by
  unfold B_X0_oneVariable_44
  refine KE3_bc (e3_F_X9_is.tr je3_rf) (fun _ _ => ?_)
  refine KE3_if ?_ ?_
  · skip
    exact KE3_some je3_rf
  · skip
    refine KE3_bc (e3_F_X9_next.tr je3_rf) (fun _ _ => ?_)
    refine KE3_bt (e3_F_X0_constant.tr je3_rf) (fun _ _ => ?_)
    exact KE3_some je3_rf
theorem e3_B_X0_oneVariable_0 {N : Nat} {u : CSt}  : KE3 (B_X0_oneVariable_0 N u) u := by
  unfold B_X0_oneVariable_0
  refine KE3_bt (e3_F_X9_take.tr je3_rf) (fun _ _ => ?_)
  refine KE3_bc (e3_F_X9_is.tr je3_rf) (fun _ _ => ?_)
  refine KE3_if ?_ ?_
  · skip
    exact e3_B_X0_oneVariable_44.tr je3_rf
  · skip
    refine KE3_bt (e3_F_X0_opens.tr je3_rf) (fun _ _ => ?_)
    refine KE3_bt (e3_F_X9_take.tr je3_rf) (fun _ _ => ?_)
    refine KE3_bt (e3_F_X0_closes.tr je3_rf) (fun _ _ => ?_)
    exact e3_B_X0_oneVariable_44.tr je3_rf
theorem e3_F_X0_oneVariable {N : Nat} {u : CSt}  : KE3 (F_X0_oneVariable N u) u := by
  unfold F_X0_oneVariable
  exact e3_B_X0_oneVariable_0.tr je3_rf
theorem e3_B_X0_variables_53 {N : Nat} {u : CSt}  : KE3 (B_X0_variables_53 N u) u := by
  unfold B_X0_variables_53
  refine KE3_bt (e3_F_X9_take.tr je3_rf) (fun _ _ => ?_)
  exact KE3_some je3_rf
theorem e3_B_X0_variables_17 {N : Nat} {R_17 : Int32 × CSt → Option ((Sum Nat Int32) × CSt)} {l1 : Int32} {u : CSt} (h_R_17 : ∀ a, KE3 (R_17 a) a.2) : KE3 (B_X0_variables_17 N R_17 l1 u) u := by
  unfold B_X0_variables_17
  refine KE3_if ?_ ?_
  · skip
    exact e3_B_X0_variables_53.tr je3_rf
  · skip
    refine KE3_bc (e3_F_X9_is.tr je3_rf) (fun _ _ => ?_)
    refine KE3_if ?_ ?_
    · skip
      exact e3_B_X0_variables_53.tr je3_rf
    · skip
      refine KE3_bc (e3_F_X9_next.tr je3_rf) (fun _ _ => ?_)
      refine KE3_bt (e3_F_X0_oneVariable.tr je3_rf) (fun _ _ => ?_)
      exact (h_R_17 _).tr je3_rf
theorem e3_LP_X0_variables_17 {N : Nat}  (n : Nat) : ∀ a : Int32 × CSt, KE3 (LP_X0_variables_17 N n a) a.2 := by
  induction n with
  | zero => exact fun a r z e => by have e : (none : Option _) = some (r, z) := e; cases e
  | succ n ih =>
    intro a
    show KE3 (B_X0_variables_17 N (LP_X0_variables_17 N n) a.1 a.2) a.2
    exact e3_B_X0_variables_17 ih
theorem e3_B_X0_variables_0 {N : Nat} {u : CSt}  : KE3 (B_X0_variables_0 N u) u := by
  unfold B_X0_variables_0
  refine KE3_bc (e3_F_X9_next.tr je3_rf) (fun _ _ => ?_)
  refine KE3_bt (e3_F_X0_kind.tr je3_rf) (fun _ _ => ?_)
  refine KE3_bt (e3_F_X0_oneVariable.tr je3_rf) (fun _ _ => ?_)
  exact (e3_LP_X0_variables_17  _ _).tr je3_rf
theorem e3_F_X0_variables {N : Nat} {u : CSt}  : KE3 (F_X0_variables N u) u := by
  unfold F_X0_variables
  exact e3_B_X0_variables_0.tr je3_rf
theorem e3_B_X0_placed_0 {N : Nat} {u : CSt}  : KE3 (B_X0_placed_0 N u) u := by
  unfold B_X0_placed_0
  refine KE3_bc (e3_F_X9_next.tr je3_rf) (fun _ _ => ?_)
  refine KE3_bt (e3_F_X0_kind.tr je3_rf) (fun _ _ => ?_)
  refine KE3_bt (e3_F_X9_take.tr je3_rf) (fun _ _ => ?_)
  refine KE3_bt (e3_F_X9_take.tr je3_rf) (fun _ _ => ?_)
  refine KE3_bt (e3_F_X9_take.tr je3_rf) (fun _ _ => ?_)
  refine KE3_bt (e3_F_X9_take.tr je3_rf) (fun _ _ => ?_)
  exact KE3_some je3_rf
theorem e3_F_X0_placed {N : Nat} {u : CSt}  : KE3 (F_X0_placed N u) u := by
  unfold F_X0_placed
  exact e3_B_X0_placed_0.tr je3_rf
theorem e3_B_X0_uses_71 {N : Nat} {u : CSt}  : KE3 (B_X0_uses_71 N u) u := by
  unfold B_X0_uses_71
  refine KE3_bt (e3_F_X9_take.tr je3_rf) (fun _ _ => ?_)
  exact KE3_some je3_rf
theorem e3_B_X0_uses_29 {N : Nat} {R_29 : Int32 × CSt → Option ((Sum Nat Int32) × CSt)} {l1 : Int32} {u : CSt} (h_R_29 : ∀ a, KE3 (R_29 a) a.2) : KE3 (B_X0_uses_29 N R_29 l1 u) u := by
  unfold B_X0_uses_29
  refine KE3_if ?_ ?_
  · skip
    exact e3_B_X0_uses_71.tr je3_rf
  · skip
    refine KE3_bc (e3_F_X9_is.tr je3_rf) (fun _ _ => ?_)
    refine KE3_if ?_ ?_
    · skip
      exact e3_B_X0_uses_71.tr je3_rf
    · skip
      refine KE3_bc (e3_F_X9_next.tr je3_rf) (fun _ _ => ?_)
      refine KE3_bt (e3_F_X9_take.tr je3_rf) (fun _ _ => ?_)
      exact (h_R_29 _).tr je3_rf
theorem e3_LP_X0_uses_29 {N : Nat}  (n : Nat) : ∀ a : Int32 × CSt, KE3 (LP_X0_uses_29 N n a) a.2 := by
  induction n with
  | zero => exact fun a r z e => by have e : (none : Option _) = some (r, z) := e; cases e
  | succ n ih =>
    intro a
    show KE3 (B_X0_uses_29 N (LP_X0_uses_29 N n) a.1 a.2) a.2
    exact e3_B_X0_uses_29 ih
theorem e3_B_X0_uses_0 {N : Nat} {u : CSt}  : KE3 (B_X0_uses_0 N u) u := by
  unfold B_X0_uses_0
  refine KE3_bc (e3_F_X9_next.tr je3_rf) (fun _ _ => ?_)
  refine KE3_bt (e3_F_X9_take.tr je3_rf) (fun _ _ => ?_)
  refine KE3_bt (e3_F_X9_take.tr je3_rf) (fun _ _ => ?_)
  exact (e3_LP_X0_uses_29  _ _).tr je3_rf
theorem e3_F_X0_uses {N : Nat} {u : CSt}  : KE3 (F_X0_uses N u) u := by
  unfold F_X0_uses
  exact e3_B_X0_uses_0.tr je3_rf
theorem e3_B_X0_label_0 {N : Nat} {u : CSt}  : KE3 (B_X0_label_0 N u) u := by
  unfold B_X0_label_0
  refine KE3_bt (e3_F_X0_constant.tr je3_rf) (fun _ _ => ?_)
  refine KE3_bc (e3_F_X9_is.tr je3_rf) (fun _ _ => ?_)
  refine KE3_if ?_ ?_
  · skip
    exact KE3_some je3_rf
  · skip
    refine KE3_bc (e3_F_X9_next.tr je3_rf) (fun _ _ => ?_)
    refine KE3_bt (e3_F_X0_constant.tr je3_rf) (fun _ _ => ?_)
    exact KE3_some je3_rf
theorem e3_F_X0_label {N : Nat} {u : CSt}  : KE3 (F_X0_label N u) u := by
  unfold F_X0_label
  exact e3_B_X0_label_0.tr je3_rf
theorem e3_B_X0_bit_0 {N : Nat} {u : CSt}  : KE3 (B_X0_bit_0 N u) u := by
  unfold B_X0_bit_0
  refine KE3_bc (e3_F_X9_is.tr je3_rf) (fun _ _ => ?_)
  refine KE3_if ?_ ?_
  · skip
    exact KE3_some je3_rf
  · skip
    refine KE3_bc (e3_F_X9_next.tr je3_rf) (fun _ _ => ?_)
    refine KE3_bt (e3_F_X9_take.tr je3_rf) (fun _ _ => ?_)
    exact KE3_some je3_rf
theorem e3_F_X0_bit {N : Nat} {u : CSt}  : KE3 (F_X0_bit N u) u := by
  unfold F_X0_bit
  exact e3_B_X0_bit_0.tr je3_rf
theorem e3_B_X0_expression_43 {N : Nat} {ro : Nat → Nat → Int32 → Int32 → CSt → Option (Sum Nat Int32 × CSt)} {u : CSt} (h_ro : ∀ q z a b u, KE3 (ro q z a b u) u) : KE3 (B_X0_expression_43 N ro u) u := by
  unfold B_X0_expression_43
  refine KE3_bc (e3_F_X9_is.tr je3_rf) (fun _ _ => ?_)
  refine KE3_if ?_ ?_
  · skip
    exact KE3_some je3_rf
  · skip
    refine KE3_bt (e3_F_X0_opens.tr je3_rf) (fun _ _ => ?_)
    refine KE3_bt ((h_ro _ _ _ _ _).tr je3_rf) (fun _ _ => ?_)
    refine KE3_bt (e3_F_X9_take.tr je3_rf) (fun _ _ => ?_)
    refine KE3_bt ((h_ro _ _ _ _ _).tr je3_rf) (fun _ _ => ?_)
    refine KE3_pc ?_
    exact KE3_some (fe3_xI (by decide) je3_rf)
theorem e3_B_X0_expression_6 {N : Nat} {ro : Nat → Nat → Int32 → Int32 → CSt → Option (Sum Nat Int32 × CSt)} {R_6 : Int32 × CSt → Option ((Sum Nat Int32) × CSt)} {l1 : Int32} {u : CSt} (h_ro : ∀ q z a b u, KE3 (ro q z a b u) u) (h_R_6 : ∀ a, KE3 (R_6 a) a.2) : KE3 (B_X0_expression_6 N ro R_6 l1 u) u := by
  unfold B_X0_expression_6
  refine KE3_if ?_ ?_
  · skip
    exact (e3_B_X0_expression_43 h_ro).tr je3_rf
  · skip
    refine KE3_bc (e3_F_X9_type.tr je3_rf) (fun _ _ => ?_)
    refine KE3_pb (fun _ => ?_)
    refine KE3_if ?_ ?_
    · skip
      exact (e3_B_X0_expression_43 h_ro).tr je3_rf
    · skip
      refine KE3_bc (e3_F_X9_next.tr je3_rf) (fun _ _ => ?_)
      refine KE3_bt ((h_ro _ _ _ _ _).tr je3_rf) (fun _ _ => ?_)
      exact (h_R_6 _).tr je3_rf
theorem e3_LP_X0_expression_6 {N : Nat} {ro : Nat → Nat → Int32 → Int32 → CSt → Option (Sum Nat Int32 × CSt)} (h_ro : ∀ q z a b u, KE3 (ro q z a b u) u) (n : Nat) : ∀ a : Int32 × CSt, KE3 (LP_X0_expression_6 N ro n a) a.2 := by
  induction n with
  | zero => exact fun a r z e => by have e : (none : Option _) = some (r, z) := e; cases e
  | succ n ih =>
    intro a
    show KE3 (B_X0_expression_6 N ro (LP_X0_expression_6 N ro n) a.1 a.2) a.2
    exact e3_B_X0_expression_6 h_ro ih
theorem e3_B_X0_expression_0 {N : Nat} {ro : Nat → Nat → Int32 → Int32 → CSt → Option (Sum Nat Int32 × CSt)} {u : CSt} (h_ro : ∀ q z a b u, KE3 (ro q z a b u) u) : KE3 (B_X0_expression_0 N ro u) u := by
  unfold B_X0_expression_0
  refine KE3_bt ((h_ro _ _ _ _ _).tr je3_rf) (fun _ _ => ?_)
  exact (e3_LP_X0_expression_6 h_ro _ _).tr je3_rf
theorem e3_F_X0_expression {N : Nat} {ro : Nat → Nat → Int32 → Int32 → CSt → Option (Sum Nat Int32 × CSt)} {u : CSt} (h_ro : ∀ q z a b u, KE3 (ro q z a b u) u) : KE3 (F_X0_expression N ro u) u := by
  unfold F_X0_expression
  exact (e3_B_X0_expression_0 h_ro).tr je3_rf
theorem e3_B_X0_operand_0 {N : Nat} {ro : Nat → Nat → Int32 → Int32 → CSt → Option (Sum Nat Int32 × CSt)} {u : CSt} (h_ro : ∀ q z a b u, KE3 (ro q z a b u) u) : KE3 (B_X0_operand_0 N ro u) u := by
  unfold B_X0_operand_0
  refine KE3_bc (e3_F_X9_type.tr je3_rf) (fun _ _ => ?_)
  refine KE3_if ?_ ?_
  · skip
    refine KE3_bc (e3_F_X9_next.tr je3_rf) (fun _ _ => ?_)
    exact KE3_some je3_rf
  · skip
    refine KE3_if ?_ ?_
    · skip
      refine KE3_bc (e3_F_X9_type.tr je3_rf) (fun _ _ => ?_)
      refine KE3_bt (e3_F_X0_opens.tr je3_rf) (fun _ _ => ?_)
      refine KE3_bt ((h_ro _ _ _ _ _).tr je3_rf) (fun _ _ => ?_)
      refine KE3_pc ?_
      exact KE3_some (fe3_xI (by decide) je3_rf)
    · skip
      refine KE3_if ?_ ?_
      · skip
        refine KE3_bt ((h_ro _ _ _ _ _).tr je3_rf) (fun _ _ => ?_)
        exact KE3_some je3_rf
      · skip
        refine KE3_if ?_ ?_
        · skip
          refine KE3_bc (e3_F_X9_type.tr je3_rf) (fun _ _ => ?_)
          refine KE3_bt (e3_F_X0_opens.tr je3_rf) (fun _ _ => ?_)
          refine KE3_bt ((h_ro _ _ _ _ _).tr je3_rf) (fun _ _ => ?_)
          refine KE3_pc ?_
          exact KE3_some (fe3_xI (by decide) je3_rf)
        · skip
          refine KE3_if ?_ ?_
          · skip
            refine KE3_bc (e3_F_X9_type.tr je3_rf) (fun _ _ => ?_)
            refine KE3_bt (e3_F_X0_opens.tr je3_rf) (fun _ _ => ?_)
            refine KE3_bt ((h_ro _ _ _ _ _).tr je3_rf) (fun _ _ => ?_)
            refine KE3_pc ?_
            exact KE3_some (fe3_xI (by decide) je3_rf)
          · skip
            refine KE3_if ?_ ?_
            · skip
              refine KE3_bt ((h_ro _ _ _ _ _).tr je3_rf) (fun _ _ => ?_)
              exact KE3_some je3_rf
            · skip
              refine KE3_if ?_ ?_
              · skip
                refine KE3_bc (e3_F_X9_next.tr je3_rf) (fun _ _ => ?_)
                exact KE3_some je3_rf
              · skip
                refine KE3_if ?_ ?_
                · skip
                  refine KE3_bc (e3_F_X9_next.tr je3_rf) (fun _ _ => ?_)
                  exact KE3_some je3_rf
                · skip
                  refine KE3_bt (e3_F_X9_refuseToken.tr je3_rf) (fun _ _ => ?_)
                  exact KE3_some je3_rf
theorem e3_F_X0_operand {N : Nat} {ro : Nat → Nat → Int32 → Int32 → CSt → Option (Sum Nat Int32 × CSt)} {u : CSt} (h_ro : ∀ q z a b u, KE3 (ro q z a b u) u) : KE3 (F_X0_operand N ro u) u := by
  unfold F_X0_operand
  exact (e3_B_X0_operand_0 h_ro).tr je3_rf
theorem e3_B_X0_bracket_0 {N : Nat} {ro : Nat → Nat → Int32 → Int32 → CSt → Option (Sum Nat Int32 × CSt)} {u : CSt} (h_ro : ∀ q z a b u, KE3 (ro q z a b u) u) : KE3 (B_X0_bracket_0 N ro u) u := by
  unfold B_X0_bracket_0
  refine KE3_bt (e3_F_X0_opens.tr je3_rf) (fun _ _ => ?_)
  refine KE3_bc (e3_F_X9_isKindWord.tr je3_rf) (fun _ _ => ?_)
  refine KE3_if ?_ ?_
  · skip
    refine KE3_bt ((h_ro _ _ _ _ _).tr je3_rf) (fun _ _ => ?_)
    refine KE3_bt (e3_F_X0_closes.tr je3_rf) (fun _ _ => ?_)
    exact KE3_some je3_rf
  · skip
    refine KE3_bc (e3_F_X9_next.tr je3_rf) (fun _ _ => ?_)
    refine KE3_bt (e3_F_X9_take.tr je3_rf) (fun _ _ => ?_)
    refine KE3_bt ((h_ro _ _ _ _ _).tr je3_rf) (fun _ _ => ?_)
    refine KE3_pc ?_
    exact KE3_some (fe3_xI (by decide) je3_rf)
theorem e3_F_X0_bracket {N : Nat} {ro : Nat → Nat → Int32 → Int32 → CSt → Option (Sum Nat Int32 × CSt)} {u : CSt} (h_ro : ∀ q z a b u, KE3 (ro q z a b u) u) : KE3 (F_X0_bracket N ro u) u := by
  unfold F_X0_bracket
  exact (e3_B_X0_bracket_0 h_ro).tr je3_rf
theorem e3_B_X0_namedOperand_73 {N : Nat} {ro : Nat → Nat → Int32 → Int32 → CSt → Option (Sum Nat Int32 × CSt)} {u : CSt} (h_ro : ∀ q z a b u, KE3 (ro q z a b u) u) : KE3 (B_X0_namedOperand_73 N ro u) u := by
  unfold B_X0_namedOperand_73
  refine KE3_bt ((h_ro _ _ _ _ _).tr je3_rf) (fun _ _ => ?_)
  refine KE3_bt (e3_F_X0_bit.tr je3_rf) (fun _ _ => ?_)
  exact KE3_some je3_rf
theorem e3_B_X0_namedOperand_0 {N : Nat} {ro : Nat → Nat → Int32 → Int32 → CSt → Option (Sum Nat Int32 × CSt)} {u : CSt} (h_ro : ∀ q z a b u, KE3 (ro q z a b u) u) : KE3 (B_X0_namedOperand_0 N ro u) u := by
  unfold B_X0_namedOperand_0
  refine KE3_bc (e3_F_X9_next.tr je3_rf) (fun _ _ => ?_)
  refine KE3_bc (e3_F_X9_is.tr je3_rf) (fun _ _ => ?_)
  refine KE3_if ?_ ?_
  · skip
    refine KE3_bc (e3_F_X9_is.tr je3_rf) (fun _ _ => ?_)
    refine KE3_if ?_ ?_
    · skip
      exact (e3_B_X0_namedOperand_73 h_ro).tr je3_rf
    · skip
      refine KE3_bc (e3_F_X9_typeAhead.tr je3_rf) (fun _ _ => ?_)
      refine KE3_if ?_ ?_
      · skip
        refine KE3_bc (e3_F_X9_next.tr je3_rf) (fun _ _ => ?_)
        refine KE3_bc (e3_F_X9_next.tr je3_rf) (fun _ _ => ?_)
        refine KE3_bt ((h_ro _ _ _ _ _).tr je3_rf) (fun _ _ => ?_)
        exact KE3_some je3_rf
      · skip
        exact (e3_B_X0_namedOperand_73 h_ro).tr je3_rf
  · skip
    refine KE3_bt ((h_ro _ _ _ _ _).tr je3_rf) (fun _ _ => ?_)
    exact KE3_some je3_rf
theorem e3_F_X0_namedOperand {N : Nat} {ro : Nat → Nat → Int32 → Int32 → CSt → Option (Sum Nat Int32 × CSt)} {u : CSt} (h_ro : ∀ q z a b u, KE3 (ro q z a b u) u) : KE3 (F_X0_namedOperand N ro u) u := by
  unfold F_X0_namedOperand
  exact (e3_B_X0_namedOperand_0 h_ro).tr je3_rf
theorem e3_B_X0_arguments_60 {N : Nat} {ro : Nat → Nat → Int32 → Int32 → CSt → Option (Sum Nat Int32 × CSt)} {u : CSt} (h_ro : ∀ q z a b u, KE3 (ro q z a b u) u) : KE3 (B_X0_arguments_60 N ro u) u := by
  unfold B_X0_arguments_60
  refine KE3_bt (e3_F_X0_closes.tr je3_rf) (fun _ _ => ?_)
  exact KE3_some je3_rf
theorem e3_B_X0_arguments_24 {N : Nat} {ro : Nat → Nat → Int32 → Int32 → CSt → Option (Sum Nat Int32 × CSt)} {R_24 : Int32 × CSt → Option ((Sum Nat Int32) × CSt)} {l1 : Int32} {u : CSt} (h_ro : ∀ q z a b u, KE3 (ro q z a b u) u) (h_R_24 : ∀ a, KE3 (R_24 a) a.2) : KE3 (B_X0_arguments_24 N ro R_24 l1 u) u := by
  unfold B_X0_arguments_24
  refine KE3_if ?_ ?_
  · skip
    exact (e3_B_X0_arguments_60 h_ro).tr je3_rf
  · skip
    refine KE3_bc (e3_F_X9_is.tr je3_rf) (fun _ _ => ?_)
    refine KE3_if ?_ ?_
    · skip
      exact (e3_B_X0_arguments_60 h_ro).tr je3_rf
    · skip
      refine KE3_bc (e3_F_X9_next.tr je3_rf) (fun _ _ => ?_)
      refine KE3_bt ((h_ro _ _ _ _ _).tr je3_rf) (fun _ _ => ?_)
      exact (h_R_24 _).tr je3_rf
theorem e3_LP_X0_arguments_24 {N : Nat} {ro : Nat → Nat → Int32 → Int32 → CSt → Option (Sum Nat Int32 × CSt)} (h_ro : ∀ q z a b u, KE3 (ro q z a b u) u) (n : Nat) : ∀ a : Int32 × CSt, KE3 (LP_X0_arguments_24 N ro n a) a.2 := by
  induction n with
  | zero => exact fun a r z e => by have e : (none : Option _) = some (r, z) := e; cases e
  | succ n ih =>
    intro a
    show KE3 (B_X0_arguments_24 N ro (LP_X0_arguments_24 N ro n) a.1 a.2) a.2
    exact e3_B_X0_arguments_24 h_ro ih
theorem e3_B_X0_arguments_22 {N : Nat} {ro : Nat → Nat → Int32 → Int32 → CSt → Option (Sum Nat Int32 × CSt)} {u : CSt} (h_ro : ∀ q z a b u, KE3 (ro q z a b u) u) : KE3 (B_X0_arguments_22 N ro u) u := by
  unfold B_X0_arguments_22
  exact (e3_LP_X0_arguments_24 h_ro _ _).tr je3_rf
theorem e3_B_X0_arguments_0 {N : Nat} {ro : Nat → Nat → Int32 → Int32 → CSt → Option (Sum Nat Int32 × CSt)} {u : CSt} (h_ro : ∀ q z a b u, KE3 (ro q z a b u) u) : KE3 (B_X0_arguments_0 N ro u) u := by
  unfold B_X0_arguments_0
  refine KE3_bt (e3_F_X0_opens.tr je3_rf) (fun _ _ => ?_)
  refine KE3_bc (e3_F_X9_is.tr je3_rf) (fun _ _ => ?_)
  refine KE3_if ?_ ?_
  · skip
    refine KE3_bt ((h_ro _ _ _ _ _).tr je3_rf) (fun _ _ => ?_)
    exact (e3_B_X0_arguments_22 h_ro).tr je3_rf
  · skip
    exact (e3_B_X0_arguments_22 h_ro).tr je3_rf
theorem e3_F_X0_arguments {N : Nat} {ro : Nat → Nat → Int32 → Int32 → CSt → Option (Sum Nat Int32 × CSt)} {u : CSt} (h_ro : ∀ q z a b u, KE3 (ro q z a b u) u) : KE3 (F_X0_arguments N ro u) u := by
  unfold F_X0_arguments
  exact (e3_B_X0_arguments_0 h_ro).tr je3_rf
theorem e3_B_X0_index_0 {N : Nat} {ro : Nat → Nat → Int32 → Int32 → CSt → Option (Sum Nat Int32 × CSt)} {u : CSt} (h_ro : ∀ q z a b u, KE3 (ro q z a b u) u) : KE3 (B_X0_index_0 N ro u) u := by
  unfold B_X0_index_0
  refine KE3_bc (e3_F_X9_is.tr je3_rf) (fun _ _ => ?_)
  refine KE3_if ?_ ?_
  · skip
    exact KE3_some je3_rf
  · skip
    refine KE3_bt (e3_F_X0_opens.tr je3_rf) (fun _ _ => ?_)
    refine KE3_bt ((h_ro _ _ _ _ _).tr je3_rf) (fun _ _ => ?_)
    refine KE3_bt (e3_F_X0_closes.tr je3_rf) (fun _ _ => ?_)
    exact KE3_some je3_rf
theorem e3_F_X0_index {N : Nat} {ro : Nat → Nat → Int32 → Int32 → CSt → Option (Sum Nat Int32 × CSt)} {u : CSt} (h_ro : ∀ q z a b u, KE3 (ro q z a b u) u) : KE3 (F_X0_index N ro u) u := by
  unfold F_X0_index
  exact (e3_B_X0_index_0 h_ro).tr je3_rf
theorem e3_FGE_ {N : Nat} : ∀ (d q z : Nat) (a b : Int32) (u : CSt), KE3 (FGE_ N d q z a b u) u := by
  intro d
  induction d with
  | zero => exact fun q z a b u => KE3_none
  | succ d ih =>
    intro q z a b u
    show KE3 (if q = 0 then F_X0_expression N (FGE_ N d) u else if q = 1 then F_X0_operand N (FGE_ N d) u else if q = 2 then F_X0_bracket N (FGE_ N d) u else if q = 3 then F_X0_namedOperand N (FGE_ N d) u else if q = 4 then F_X0_arguments N (FGE_ N d) u else if q = 5 then F_X0_index N (FGE_ N d) u else none) u
    refine KE3_if (e3_F_X0_expression ih) ?_
    refine KE3_if (e3_F_X0_operand ih) ?_
    refine KE3_if (e3_F_X0_bracket ih) ?_
    refine KE3_if (e3_F_X0_namedOperand ih) ?_
    refine KE3_if (e3_F_X0_arguments ih) ?_
    refine KE3_if (e3_F_X0_index ih) ?_
    exact KE3_none
theorem e3_G_X0_expression {N : Nat} {u : CSt} : KE3 (G_X0_expression N u) u := e3_FGE_ _ _ _ _ _ _
theorem e3_G_X0_arguments {N : Nat} {u : CSt} : KE3 (G_X0_arguments N u) u := e3_FGE_ _ _ _ _ _ _
theorem e3_G_X0_index {N : Nat} {u : CSt} : KE3 (G_X0_index N u) u := e3_FGE_ _ _ _ _ _ _
theorem e3_B_X0_named_108 {N : Nat} {u : CSt}  : KE3 (B_X0_named_108 N u) u := by
  unfold B_X0_named_108
  refine KE3_bt (e3_F_X9_take.tr je3_rf) (fun _ _ => ?_)
  exact KE3_some je3_rf
theorem e3_B_X0_named_63 {N : Nat} {u : CSt}  : KE3 (B_X0_named_63 N u) u := by
  unfold B_X0_named_63
  refine KE3_bc (e3_F_X9_next.tr je3_rf) (fun _ _ => ?_)
  refine KE3_bt (e3_G_X0_expression.tr je3_rf) (fun _ _ => ?_)
  exact e3_B_X0_named_108.tr je3_rf
theorem e3_B_X0_named_91 {N : Nat} {u : CSt}  : KE3 (B_X0_named_91 N u) u := by
  unfold B_X0_named_91
  refine KE3_bc (e3_F_X9_next.tr je3_rf) (fun _ _ => ?_)
  exact e3_B_X0_named_108.tr je3_rf
theorem e3_B_X0_named_0 {N : Nat} {u : CSt}  : KE3 (B_X0_named_0 N u) u := by
  unfold B_X0_named_0
  refine KE3_bc (e3_F_X9_next.tr je3_rf) (fun _ _ => ?_)
  refine KE3_bc (e3_F_X9_is.tr je3_rf) (fun _ _ => ?_)
  refine KE3_if ?_ ?_
  · skip
    refine KE3_bt (e3_G_X0_index.tr je3_rf) (fun _ _ => ?_)
    refine KE3_bt (e3_F_X0_bit.tr je3_rf) (fun _ _ => ?_)
    refine KE3_bc (e3_F_X9_type.tr je3_rf) (fun _ _ => ?_)
    refine KE3_if ?_ ?_
    · skip
      exact e3_B_X0_named_63.tr je3_rf
    · skip
      refine KE3_pb (fun _ => ?_)
      refine KE3_if ?_ ?_
      · skip
        refine KE3_if ?_ ?_
        · skip
          exact e3_B_X0_named_91.tr je3_rf
        · skip
          refine KE3_if ?_ ?_
          · skip
            exact e3_B_X0_named_91.tr je3_rf
          · skip
            refine KE3_bt (e3_F_X9_refuseToken.tr je3_rf) (fun _ _ => ?_)
            exact e3_B_X0_named_108.tr je3_rf
      · skip
        exact e3_B_X0_named_63.tr je3_rf
  · skip
    refine KE3_bt (e3_G_X0_arguments.tr je3_rf) (fun _ _ => ?_)
    refine KE3_bt (e3_F_X9_take.tr je3_rf) (fun _ _ => ?_)
    exact KE3_some je3_rf
theorem e3_F_X0_named {N : Nat} {u : CSt}  : KE3 (F_X0_named N u) u := by
  unfold F_X0_named
  exact e3_B_X0_named_0.tr je3_rf
theorem e3_B_X0_returned_23 {N : Nat} {u : CSt}  : KE3 (B_X0_returned_23 N u) u := by
  unfold B_X0_returned_23
  refine KE3_bt (e3_F_X9_take.tr je3_rf) (fun _ _ => ?_)
  exact KE3_some je3_rf
theorem e3_B_X0_returned_0 {N : Nat} {u : CSt}  : KE3 (B_X0_returned_0 N u) u := by
  unfold B_X0_returned_0
  refine KE3_bc (e3_F_X9_next.tr je3_rf) (fun _ _ => ?_)
  refine KE3_bc (e3_F_X9_is.tr je3_rf) (fun _ _ => ?_)
  refine KE3_if ?_ ?_
  · skip
    refine KE3_bt (e3_G_X0_expression.tr je3_rf) (fun _ _ => ?_)
    exact e3_B_X0_returned_23.tr je3_rf
  · skip
    exact e3_B_X0_returned_23.tr je3_rf
theorem e3_F_X0_returned {N : Nat} {u : CSt}  : KE3 (F_X0_returned N u) u := by
  unfold F_X0_returned
  exact e3_B_X0_returned_0.tr je3_rf
theorem e3_B_X0_body_0 {N : Nat} {ro : Nat → Nat → Int32 → Int32 → CSt → Option (Sum Nat Int32 × CSt)} {u : CSt} (h_ro : ∀ q z a b u, KE3 (ro q z a b u) u) : KE3 (B_X0_body_0 N ro u) u := by
  unfold B_X0_body_0
  refine KE3_bt (e3_F_X0_opens.tr je3_rf) (fun _ _ => ?_)
  refine KE3_bt ((h_ro _ _ _ _ _).tr je3_rf) (fun _ _ => ?_)
  exact KE3_some je3_rf
theorem e3_F_X0_body {N : Nat} {ro : Nat → Nat → Int32 → Int32 → CSt → Option (Sum Nat Int32 × CSt)} {u : CSt} (h_ro : ∀ q z a b u, KE3 (ro q z a b u) u) : KE3 (F_X0_body N ro u) u := by
  unfold F_X0_body
  exact (e3_B_X0_body_0 h_ro).tr je3_rf
theorem e3_B_X0_statements_31 {N : Nat} {ro : Nat → Nat → Int32 → Int32 → CSt → Option (Sum Nat Int32 × CSt)} {u : CSt} (h_ro : ∀ q z a b u, KE3 (ro q z a b u) u) : KE3 (B_X0_statements_31 N ro u) u := by
  unfold B_X0_statements_31
  refine KE3_bt (e3_F_X0_closes.tr je3_rf) (fun _ _ => ?_)
  exact KE3_some je3_rf
theorem e3_B_X0_statements_2 {N : Nat} {ro : Nat → Nat → Int32 → Int32 → CSt → Option (Sum Nat Int32 × CSt)} {R_2 : Int32 × CSt → Option ((Sum Nat Int32) × CSt)} {l1 : Int32} {u : CSt} (h_ro : ∀ q z a b u, KE3 (ro q z a b u) u) (h_R_2 : ∀ a, KE3 (R_2 a) a.2) : KE3 (B_X0_statements_2 N ro R_2 l1 u) u := by
  unfold B_X0_statements_2
  refine KE3_if ?_ ?_
  · skip
    exact (e3_B_X0_statements_31 h_ro).tr je3_rf
  · skip
    refine KE3_bc (e3_F_X9_is.tr je3_rf) (fun _ _ => ?_)
    refine KE3_if ?_ ?_
    · skip
      refine KE3_bt ((h_ro _ _ _ _ _).tr je3_rf) (fun _ _ => ?_)
      exact (h_R_2 _).tr je3_rf
    · skip
      exact (e3_B_X0_statements_31 h_ro).tr je3_rf
theorem e3_LP_X0_statements_2 {N : Nat} {ro : Nat → Nat → Int32 → Int32 → CSt → Option (Sum Nat Int32 × CSt)} (h_ro : ∀ q z a b u, KE3 (ro q z a b u) u) (n : Nat) : ∀ a : Int32 × CSt, KE3 (LP_X0_statements_2 N ro n a) a.2 := by
  induction n with
  | zero => exact fun a r z e => by have e : (none : Option _) = some (r, z) := e; cases e
  | succ n ih =>
    intro a
    show KE3 (B_X0_statements_2 N ro (LP_X0_statements_2 N ro n) a.1 a.2) a.2
    exact e3_B_X0_statements_2 h_ro ih
theorem e3_B_X0_statements_0 {N : Nat} {ro : Nat → Nat → Int32 → Int32 → CSt → Option (Sum Nat Int32 × CSt)} {u : CSt} (h_ro : ∀ q z a b u, KE3 (ro q z a b u) u) : KE3 (B_X0_statements_0 N ro u) u := by
  unfold B_X0_statements_0
  exact (e3_LP_X0_statements_2 h_ro _ _).tr je3_rf
theorem e3_F_X0_statements {N : Nat} {ro : Nat → Nat → Int32 → Int32 → CSt → Option (Sum Nat Int32 × CSt)} {u : CSt} (h_ro : ∀ q z a b u, KE3 (ro q z a b u) u) : KE3 (F_X0_statements N ro u) u := by
  unfold F_X0_statements
  exact (e3_B_X0_statements_0 h_ro).tr je3_rf
theorem e3_B_X0_statement_0 {N : Nat} {ro : Nat → Nat → Int32 → Int32 → CSt → Option (Sum Nat Int32 × CSt)} {u : CSt} (h_ro : ∀ q z a b u, KE3 (ro q z a b u) u) : KE3 (B_X0_statement_0 N ro u) u := by
  unfold B_X0_statement_0
  refine KE3_bc (e3_F_X9_type.tr je3_rf) (fun _ _ => ?_)
  refine KE3_if ?_ ?_
  · skip
    refine KE3_bt ((h_ro _ _ _ _ _).tr je3_rf) (fun _ _ => ?_)
    exact KE3_some je3_rf
  · skip
    refine KE3_if ?_ ?_
    · skip
      refine KE3_bc (e3_F_X9_next.tr je3_rf) (fun _ _ => ?_)
      refine KE3_bt (e3_G_X0_expression.tr je3_rf) (fun _ _ => ?_)
      refine KE3_bt ((h_ro _ _ _ _ _).tr je3_rf) (fun _ _ => ?_)
      exact KE3_some je3_rf
    · skip
      refine KE3_if ?_ ?_
      · skip
        refine KE3_bt ((h_ro _ _ _ _ _).tr je3_rf) (fun _ _ => ?_)
        exact KE3_some je3_rf
      · skip
        refine KE3_if ?_ ?_
        · skip
          refine KE3_bt ((h_ro _ _ _ _ _).tr je3_rf) (fun _ _ => ?_)
          exact KE3_some je3_rf
        · skip
          refine KE3_if ?_ ?_
          · skip
            refine KE3_bc (e3_F_X9_next.tr je3_rf) (fun _ _ => ?_)
            refine KE3_bt (e3_F_X9_take.tr je3_rf) (fun _ _ => ?_)
            exact KE3_some je3_rf
          · skip
            refine KE3_if ?_ ?_
            · skip
              refine KE3_bc (e3_F_X9_next.tr je3_rf) (fun _ _ => ?_)
              refine KE3_bt (e3_F_X9_take.tr je3_rf) (fun _ _ => ?_)
              exact KE3_some je3_rf
            · skip
              refine KE3_if ?_ ?_
              · skip
                refine KE3_bt (e3_F_X0_returned.tr je3_rf) (fun _ _ => ?_)
                exact KE3_some je3_rf
              · skip
                refine KE3_if ?_ ?_
                · skip
                  refine KE3_bc (e3_F_X9_next.tr je3_rf) (fun _ _ => ?_)
                  refine KE3_bt (e3_G_X0_expression.tr je3_rf) (fun _ _ => ?_)
                  refine KE3_bt (e3_F_X9_take.tr je3_rf) (fun _ _ => ?_)
                  exact KE3_some je3_rf
                · skip
                  refine KE3_if ?_ ?_
                  · skip
                    refine KE3_bt (e3_F_X0_named.tr je3_rf) (fun _ _ => ?_)
                    exact KE3_some je3_rf
                  · skip
                    refine KE3_bt (e3_F_X9_refuseToken.tr je3_rf) (fun _ _ => ?_)
                    exact KE3_some je3_rf
theorem e3_F_X0_statement {N : Nat} {ro : Nat → Nat → Int32 → Int32 → CSt → Option (Sum Nat Int32 × CSt)} {u : CSt} (h_ro : ∀ q z a b u, KE3 (ro q z a b u) u) : KE3 (F_X0_statement N ro u) u := by
  unfold F_X0_statement
  exact (e3_B_X0_statement_0 h_ro).tr je3_rf
theorem e3_B_X0_choice_57 {N : Nat} {ro : Nat → Nat → Int32 → Int32 → CSt → Option (Sum Nat Int32 × CSt)} {u : CSt} (h_ro : ∀ q z a b u, KE3 (ro q z a b u) u) : KE3 (B_X0_choice_57 N ro u) u := by
  unfold B_X0_choice_57
  refine KE3_bc (e3_F_X9_is.tr je3_rf) (fun _ _ => ?_)
  refine KE3_if ?_ ?_
  · skip
    exact KE3_some je3_rf
  · skip
    refine KE3_bc (e3_F_X9_next.tr je3_rf) (fun _ _ => ?_)
    refine KE3_bt ((h_ro _ _ _ _ _).tr je3_rf) (fun _ _ => ?_)
    exact KE3_some je3_rf
theorem e3_B_X0_choice_17 {N : Nat} {ro : Nat → Nat → Int32 → Int32 → CSt → Option (Sum Nat Int32 × CSt)} {R_17 : Int32 × CSt → Option ((Sum Nat Int32) × CSt)} {l1 : Int32} {u : CSt} (h_ro : ∀ q z a b u, KE3 (ro q z a b u) u) (h_R_17 : ∀ a, KE3 (R_17 a) a.2) : KE3 (B_X0_choice_17 N ro R_17 l1 u) u := by
  unfold B_X0_choice_17
  refine KE3_if ?_ ?_
  · skip
    exact (e3_B_X0_choice_57 h_ro).tr je3_rf
  · skip
    refine KE3_bc (e3_F_X9_is.tr je3_rf) (fun _ _ => ?_)
    refine KE3_if ?_ ?_
    · skip
      exact (e3_B_X0_choice_57 h_ro).tr je3_rf
    · skip
      refine KE3_bc (e3_F_X9_next.tr je3_rf) (fun _ _ => ?_)
      refine KE3_bt (e3_G_X0_expression.tr je3_rf) (fun _ _ => ?_)
      refine KE3_bt ((h_ro _ _ _ _ _).tr je3_rf) (fun _ _ => ?_)
      exact (h_R_17 _).tr je3_rf
theorem e3_LP_X0_choice_17 {N : Nat} {ro : Nat → Nat → Int32 → Int32 → CSt → Option (Sum Nat Int32 × CSt)} (h_ro : ∀ q z a b u, KE3 (ro q z a b u) u) (n : Nat) : ∀ a : Int32 × CSt, KE3 (LP_X0_choice_17 N ro n a) a.2 := by
  induction n with
  | zero => exact fun a r z e => by have e : (none : Option _) = some (r, z) := e; cases e
  | succ n ih =>
    intro a
    show KE3 (B_X0_choice_17 N ro (LP_X0_choice_17 N ro n) a.1 a.2) a.2
    exact e3_B_X0_choice_17 h_ro ih
theorem e3_B_X0_choice_0 {N : Nat} {ro : Nat → Nat → Int32 → Int32 → CSt → Option (Sum Nat Int32 × CSt)} {u : CSt} (h_ro : ∀ q z a b u, KE3 (ro q z a b u) u) : KE3 (B_X0_choice_0 N ro u) u := by
  unfold B_X0_choice_0
  refine KE3_bc (e3_F_X9_next.tr je3_rf) (fun _ _ => ?_)
  refine KE3_bt (e3_G_X0_expression.tr je3_rf) (fun _ _ => ?_)
  refine KE3_bt ((h_ro _ _ _ _ _).tr je3_rf) (fun _ _ => ?_)
  exact (e3_LP_X0_choice_17 h_ro _ _).tr je3_rf
theorem e3_F_X0_choice {N : Nat} {ro : Nat → Nat → Int32 → Int32 → CSt → Option (Sum Nat Int32 × CSt)} {u : CSt} (h_ro : ∀ q z a b u, KE3 (ro q z a b u) u) : KE3 (F_X0_choice N ro u) u := by
  unfold F_X0_choice
  exact (e3_B_X0_choice_0 h_ro).tr je3_rf
theorem e3_B_X0_counted_0 {N : Nat} {ro : Nat → Nat → Int32 → Int32 → CSt → Option (Sum Nat Int32 × CSt)} {u : CSt} (h_ro : ∀ q z a b u, KE3 (ro q z a b u) u) : KE3 (B_X0_counted_0 N ro u) u := by
  unfold B_X0_counted_0
  refine KE3_bc (e3_F_X9_next.tr je3_rf) (fun _ _ => ?_)
  refine KE3_bt (e3_F_X9_take.tr je3_rf) (fun _ _ => ?_)
  refine KE3_bt (e3_F_X9_take.tr je3_rf) (fun _ _ => ?_)
  refine KE3_bt (e3_G_X0_expression.tr je3_rf) (fun _ _ => ?_)
  refine KE3_bt (e3_F_X9_take.tr je3_rf) (fun _ _ => ?_)
  refine KE3_bt (e3_G_X0_expression.tr je3_rf) (fun _ _ => ?_)
  refine KE3_bt ((h_ro _ _ _ _ _).tr je3_rf) (fun _ _ => ?_)
  exact KE3_some je3_rf
theorem e3_F_X0_counted {N : Nat} {ro : Nat → Nat → Int32 → Int32 → CSt → Option (Sum Nat Int32 × CSt)} {u : CSt} (h_ro : ∀ q z a b u, KE3 (ro q z a b u) u) : KE3 (F_X0_counted N ro u) u := by
  unfold F_X0_counted
  exact (e3_B_X0_counted_0 h_ro).tr je3_rf
theorem e3_B_X0_cases_87 {N : Nat} {ro : Nat → Nat → Int32 → Int32 → CSt → Option (Sum Nat Int32 × CSt)} {R_19 : Int32 × CSt → Option ((Sum Nat Int32) × CSt)} {l1 : Int32} {u : CSt} (h_ro : ∀ q z a b u, KE3 (ro q z a b u) u) (h_R_19 : ∀ a, KE3 (R_19 a) a.2) : KE3 (B_X0_cases_87 N ro R_19 l1 u) u := by
  unfold B_X0_cases_87
  refine KE3_bt ((h_ro _ _ _ _ _).tr je3_rf) (fun _ _ => ?_)
  exact (h_R_19 _).tr je3_rf
theorem e3_B_X0_cases_51 {N : Nat} {ro : Nat → Nat → Int32 → Int32 → CSt → Option (Sum Nat Int32 × CSt)} {R_19 : Int32 × CSt → Option ((Sum Nat Int32) × CSt)} {R_51 : Int32 × Int32 × CSt → Option ((Sum Nat Int32) × CSt)} {l1 : Int32} {l2 : Int32} {u : CSt} (h_ro : ∀ q z a b u, KE3 (ro q z a b u) u) (h_R_19 : ∀ a, KE3 (R_19 a) a.2) (h_R_51 : ∀ a, KE3 (R_51 a) a.2.2) : KE3 (B_X0_cases_51 N ro R_19 R_51 l1 l2 u) u := by
  unfold B_X0_cases_51
  refine KE3_if ?_ ?_
  · skip
    exact (e3_B_X0_cases_87 h_ro h_R_19).tr je3_rf
  · skip
    refine KE3_bc (e3_F_X9_is.tr je3_rf) (fun _ _ => ?_)
    refine KE3_if ?_ ?_
    · skip
      exact (e3_B_X0_cases_87 h_ro h_R_19).tr je3_rf
    · skip
      refine KE3_bc (e3_F_X9_next.tr je3_rf) (fun _ _ => ?_)
      refine KE3_bt (e3_F_X0_label.tr je3_rf) (fun _ _ => ?_)
      exact (h_R_51 _).tr je3_rf
theorem e3_LP_X0_cases_51 {N : Nat} {ro : Nat → Nat → Int32 → Int32 → CSt → Option (Sum Nat Int32 × CSt)} {R_19 : Int32 × CSt → Option ((Sum Nat Int32) × CSt)} (h_ro : ∀ q z a b u, KE3 (ro q z a b u) u) (h_R_19 : ∀ a, KE3 (R_19 a) a.2) (n : Nat) : ∀ a : Int32 × Int32 × CSt, KE3 (LP_X0_cases_51 N ro R_19 n a) a.2.2 := by
  induction n with
  | zero => exact fun a r z e => by have e : (none : Option _) = some (r, z) := e; cases e
  | succ n ih =>
    intro a
    show KE3 (B_X0_cases_51 N ro R_19 (LP_X0_cases_51 N ro R_19 n) a.1 a.2.1 a.2.2) a.2.2
    exact e3_B_X0_cases_51 h_ro h_R_19 ih
theorem e3_B_X0_cases_120 {N : Nat} {ro : Nat → Nat → Int32 → Int32 → CSt → Option (Sum Nat Int32 × CSt)} {u : CSt} (h_ro : ∀ q z a b u, KE3 (ro q z a b u) u) : KE3 (B_X0_cases_120 N ro u) u := by
  unfold B_X0_cases_120
  refine KE3_bt (e3_F_X0_closes.tr je3_rf) (fun _ _ => ?_)
  exact KE3_some je3_rf
theorem e3_B_X0_cases_97 {N : Nat} {ro : Nat → Nat → Int32 → Int32 → CSt → Option (Sum Nat Int32 × CSt)} {u : CSt} (h_ro : ∀ q z a b u, KE3 (ro q z a b u) u) : KE3 (B_X0_cases_97 N ro u) u := by
  unfold B_X0_cases_97
  refine KE3_bc (e3_F_X9_is.tr je3_rf) (fun _ _ => ?_)
  refine KE3_if ?_ ?_
  · skip
    exact (e3_B_X0_cases_120 h_ro).tr je3_rf
  · skip
    refine KE3_bc (e3_F_X9_next.tr je3_rf) (fun _ _ => ?_)
    refine KE3_bt ((h_ro _ _ _ _ _).tr je3_rf) (fun _ _ => ?_)
    exact (e3_B_X0_cases_120 h_ro).tr je3_rf
theorem e3_B_X0_cases_19 {N : Nat} {ro : Nat → Nat → Int32 → Int32 → CSt → Option (Sum Nat Int32 × CSt)} {R_19 : Int32 × CSt → Option ((Sum Nat Int32) × CSt)} {l1 : Int32} {u : CSt} (h_ro : ∀ q z a b u, KE3 (ro q z a b u) u) (h_R_19 : ∀ a, KE3 (R_19 a) a.2) : KE3 (B_X0_cases_19 N ro R_19 l1 u) u := by
  unfold B_X0_cases_19
  refine KE3_if ?_ ?_
  · skip
    exact (e3_B_X0_cases_97 h_ro).tr je3_rf
  · skip
    refine KE3_bc (e3_F_X9_is.tr je3_rf) (fun _ _ => ?_)
    refine KE3_if ?_ ?_
    · skip
      exact (e3_B_X0_cases_97 h_ro).tr je3_rf
    · skip
      refine KE3_bc (e3_F_X9_next.tr je3_rf) (fun _ _ => ?_)
      refine KE3_bt (e3_F_X0_label.tr je3_rf) (fun _ _ => ?_)
      exact (e3_LP_X0_cases_51 h_ro h_R_19 _ _).tr je3_rf
theorem e3_LP_X0_cases_19 {N : Nat} {ro : Nat → Nat → Int32 → Int32 → CSt → Option (Sum Nat Int32 × CSt)} (h_ro : ∀ q z a b u, KE3 (ro q z a b u) u) (n : Nat) : ∀ a : Int32 × CSt, KE3 (LP_X0_cases_19 N ro n a) a.2 := by
  induction n with
  | zero => exact fun a r z e => by have e : (none : Option _) = some (r, z) := e; cases e
  | succ n ih =>
    intro a
    show KE3 (B_X0_cases_19 N ro (LP_X0_cases_19 N ro n) a.1 a.2) a.2
    exact e3_B_X0_cases_19 h_ro ih
theorem e3_B_X0_cases_0 {N : Nat} {ro : Nat → Nat → Int32 → Int32 → CSt → Option (Sum Nat Int32 × CSt)} {u : CSt} (h_ro : ∀ q z a b u, KE3 (ro q z a b u) u) : KE3 (B_X0_cases_0 N ro u) u := by
  unfold B_X0_cases_0
  refine KE3_bc (e3_F_X9_next.tr je3_rf) (fun _ _ => ?_)
  refine KE3_bt (e3_G_X0_expression.tr je3_rf) (fun _ _ => ?_)
  refine KE3_bt (e3_F_X0_opens.tr je3_rf) (fun _ _ => ?_)
  exact (e3_LP_X0_cases_19 h_ro _ _).tr je3_rf
theorem e3_F_X0_cases {N : Nat} {ro : Nat → Nat → Int32 → Int32 → CSt → Option (Sum Nat Int32 × CSt)} {u : CSt} (h_ro : ∀ q z a b u, KE3 (ro q z a b u) u) : KE3 (F_X0_cases N ro u) u := by
  unfold F_X0_cases
  exact (e3_B_X0_cases_0 h_ro).tr je3_rf
theorem e3_FGS_ {N : Nat} : ∀ (d q z : Nat) (a b : Int32) (u : CSt), KE3 (FGS_ N d q z a b u) u := by
  intro d
  induction d with
  | zero => exact fun q z a b u => KE3_none
  | succ d ih =>
    intro q z a b u
    show KE3 (if q = 0 then F_X0_body N (FGS_ N d) u else if q = 1 then F_X0_statements N (FGS_ N d) u else if q = 2 then F_X0_statement N (FGS_ N d) u else if q = 3 then F_X0_choice N (FGS_ N d) u else if q = 4 then F_X0_counted N (FGS_ N d) u else if q = 5 then F_X0_cases N (FGS_ N d) u else none) u
    refine KE3_if (e3_F_X0_body ih) ?_
    refine KE3_if (e3_F_X0_statements ih) ?_
    refine KE3_if (e3_F_X0_statement ih) ?_
    refine KE3_if (e3_F_X0_choice ih) ?_
    refine KE3_if (e3_F_X0_counted ih) ?_
    refine KE3_if (e3_F_X0_cases ih) ?_
    exact KE3_none
theorem e3_G_X0_body {N : Nat} {u : CSt} : KE3 (G_X0_body N u) u := e3_FGS_ _ _ _ _ _ _
theorem e3_G_X0_statements {N : Nat} {u : CSt} : KE3 (G_X0_statements N u) u := e3_FGS_ _ _ _ _ _ _
theorem e3_B_X0_routine_132 {N : Nat} {u : CSt}  : KE3 (B_X0_routine_132 N u) u := by
  unfold B_X0_routine_132
  refine KE3_bt (e3_G_X0_statements.tr je3_rf) (fun _ _ => ?_)
  exact KE3_some je3_rf
theorem e3_B_X0_routine_104 {N : Nat} {R_104 : Int32 × CSt → Option ((Sum Nat Int32) × CSt)} {l1 : Int32} {u : CSt} (h_R_104 : ∀ a, KE3 (R_104 a) a.2) : KE3 (B_X0_routine_104 N R_104 l1 u) u := by
  unfold B_X0_routine_104
  refine KE3_if ?_ ?_
  · skip
    exact e3_B_X0_routine_132.tr je3_rf
  · skip
    refine KE3_bc (e3_F_X9_is.tr je3_rf) (fun _ _ => ?_)
    refine KE3_if ?_ ?_
    · skip
      exact e3_B_X0_routine_132.tr je3_rf
    · skip
      refine KE3_bt (e3_F_X0_variables.tr je3_rf) (fun _ _ => ?_)
      exact (h_R_104 _).tr je3_rf
theorem e3_LP_X0_routine_104 {N : Nat}  (n : Nat) : ∀ a : Int32 × CSt, KE3 (LP_X0_routine_104 N n a) a.2 := by
  induction n with
  | zero => exact fun a r z e => by have e : (none : Option _) = some (r, z) := e; cases e
  | succ n ih =>
    intro a
    show KE3 (B_X0_routine_104 N (LP_X0_routine_104 N n) a.1 a.2) a.2
    exact e3_B_X0_routine_104 ih
theorem e3_B_X0_routine_90 {N : Nat} {u : CSt}  : KE3 (B_X0_routine_90 N u) u := by
  unfold B_X0_routine_90
  refine KE3_bt (e3_F_X0_closes.tr je3_rf) (fun _ _ => ?_)
  refine KE3_bt (e3_F_X0_opens.tr je3_rf) (fun _ _ => ?_)
  exact (e3_LP_X0_routine_104  _ _).tr je3_rf
theorem e3_B_X0_routine_44 {N : Nat} {R_44 : Int32 × CSt → Option ((Sum Nat Int32) × CSt)} {l1 : Int32} {u : CSt} (h_R_44 : ∀ a, KE3 (R_44 a) a.2) : KE3 (B_X0_routine_44 N R_44 l1 u) u := by
  unfold B_X0_routine_44
  refine KE3_if ?_ ?_
  · skip
    exact e3_B_X0_routine_90.tr je3_rf
  · skip
    refine KE3_bc (e3_F_X9_is.tr je3_rf) (fun _ _ => ?_)
    refine KE3_if ?_ ?_
    · skip
      exact e3_B_X0_routine_90.tr je3_rf
    · skip
      refine KE3_bc (e3_F_X9_next.tr je3_rf) (fun _ _ => ?_)
      refine KE3_bt (e3_F_X0_kind.tr je3_rf) (fun _ _ => ?_)
      refine KE3_bt (e3_F_X9_take.tr je3_rf) (fun _ _ => ?_)
      exact (h_R_44 _).tr je3_rf
theorem e3_LP_X0_routine_44 {N : Nat}  (n : Nat) : ∀ a : Int32 × CSt, KE3 (LP_X0_routine_44 N n a) a.2 := by
  induction n with
  | zero => exact fun a r z e => by have e : (none : Option _) = some (r, z) := e; cases e
  | succ n ih =>
    intro a
    show KE3 (B_X0_routine_44 N (LP_X0_routine_44 N n) a.1 a.2) a.2
    exact e3_B_X0_routine_44 ih
theorem e3_B_X0_routine_42 {N : Nat} {u : CSt}  : KE3 (B_X0_routine_42 N u) u := by
  unfold B_X0_routine_42
  exact (e3_LP_X0_routine_44  _ _).tr je3_rf
theorem e3_B_X0_routine_0 {N : Nat} {u : CSt}  : KE3 (B_X0_routine_0 N u) u := by
  unfold B_X0_routine_0
  refine KE3_bt (e3_F_X9_take.tr je3_rf) (fun _ _ => ?_)
  refine KE3_bt (e3_F_X0_opens.tr je3_rf) (fun _ _ => ?_)
  refine KE3_bc (e3_F_X9_is.tr je3_rf) (fun _ _ => ?_)
  refine KE3_if ?_ ?_
  · skip
    refine KE3_bt (e3_F_X0_kind.tr je3_rf) (fun _ _ => ?_)
    refine KE3_bt (e3_F_X9_take.tr je3_rf) (fun _ _ => ?_)
    exact e3_B_X0_routine_42.tr je3_rf
  · skip
    exact e3_B_X0_routine_42.tr je3_rf
theorem e3_F_X0_routine {N : Nat} {u : CSt}  : KE3 (F_X0_routine N u) u := by
  unfold F_X0_routine
  exact e3_B_X0_routine_0.tr je3_rf
theorem e3_B_X0_cyclic_65 {N : Nat} {u : CSt}  : KE3 (B_X0_cyclic_65 N u) u := by
  unfold B_X0_cyclic_65
  refine KE3_bt (e3_G_X0_body.tr je3_rf) (fun _ _ => ?_)
  exact KE3_some je3_rf
theorem e3_B_X0_cyclic_0 {N : Nat} {u : CSt}  : KE3 (B_X0_cyclic_0 N u) u := by
  unfold B_X0_cyclic_0
  refine KE3_bc (e3_F_X9_next.tr je3_rf) (fun _ _ => ?_)
  refine KE3_bt (e3_F_X9_take.tr je3_rf) (fun _ _ => ?_)
  refine KE3_bt (e3_F_X9_take.tr je3_rf) (fun _ _ => ?_)
  refine KE3_bt (e3_F_X9_take.tr je3_rf) (fun _ _ => ?_)
  refine KE3_bc (e3_F_X9_is.tr je3_rf) (fun _ _ => ?_)
  refine KE3_if ?_ ?_
  · skip
    exact e3_B_X0_cyclic_65.tr je3_rf
  · skip
    refine KE3_bc (e3_F_X9_next.tr je3_rf) (fun _ _ => ?_)
    refine KE3_bt (e3_F_X9_take.tr je3_rf) (fun _ _ => ?_)
    exact e3_B_X0_cyclic_65.tr je3_rf
theorem e3_F_X0_cyclic {N : Nat} {u : CSt}  : KE3 (F_X0_cyclic N u) u := by
  unfold F_X0_cyclic
  exact e3_B_X0_cyclic_0.tr je3_rf
theorem e3_B_X0_check_155 {N : Nat} {R_14 : Int32 × CSt → Option ((Sum Nat Int32) × CSt)} {l1 : Int32} {u : CSt} (h_R_14 : ∀ a, KE3 (R_14 a) a.2) : KE3 (B_X0_check_155 N R_14 l1 u) u := by
  unfold B_X0_check_155
  exact (h_R_14 _).tr je3_rf
theorem e3_B_X0_check_14 {N : Nat} {R_14 : Int32 × CSt → Option ((Sum Nat Int32) × CSt)} {l1 : Int32} {u : CSt} (h_R_14 : ∀ a, KE3 (R_14 a) a.2) : KE3 (B_X0_check_14 N R_14 l1 u) u := by
  unfold B_X0_check_14
  refine KE3_if ?_ ?_
  · skip
    exact KE3_some je3_rf
  · skip
    refine KE3_bc (e3_F_X9_is.tr je3_rf) (fun _ _ => ?_)
    refine KE3_if ?_ ?_
    · skip
      refine KE3_bc (e3_F_X9_type.tr je3_rf) (fun _ _ => ?_)
      refine KE3_if ?_ ?_
      · skip
        refine KE3_bt (e3_F_X0_variables.tr je3_rf) (fun _ _ => ?_)
        exact (e3_B_X0_check_155 h_R_14).tr je3_rf
      · skip
        refine KE3_if ?_ ?_
        · skip
          refine KE3_bt (e3_F_X0_variables.tr je3_rf) (fun _ _ => ?_)
          exact (e3_B_X0_check_155 h_R_14).tr je3_rf
        · skip
          refine KE3_if ?_ ?_
          · skip
            refine KE3_bt (e3_F_X0_placed.tr je3_rf) (fun _ _ => ?_)
            exact (e3_B_X0_check_155 h_R_14).tr je3_rf
          · skip
            refine KE3_if ?_ ?_
            · skip
              refine KE3_bt (e3_F_X0_placed.tr je3_rf) (fun _ _ => ?_)
              exact (e3_B_X0_check_155 h_R_14).tr je3_rf
            · skip
              refine KE3_if ?_ ?_
              · skip
                refine KE3_bc (e3_F_X9_next.tr je3_rf) (fun _ _ => ?_)
                refine KE3_bt (e3_F_X0_routine.tr je3_rf) (fun _ _ => ?_)
                exact (e3_B_X0_check_155 h_R_14).tr je3_rf
              · skip
                refine KE3_if ?_ ?_
                · skip
                  refine KE3_bt (e3_F_X0_uses.tr je3_rf) (fun _ _ => ?_)
                  exact (e3_B_X0_check_155 h_R_14).tr je3_rf
                · skip
                  refine KE3_if ?_ ?_
                  · skip
                    refine KE3_bc (e3_F_X9_next.tr je3_rf) (fun _ _ => ?_)
                    refine KE3_bt (e3_F_X0_kind.tr je3_rf) (fun _ _ => ?_)
                    refine KE3_bt (e3_F_X0_routine.tr je3_rf) (fun _ _ => ?_)
                    exact (e3_B_X0_check_155 h_R_14).tr je3_rf
                  · skip
                    refine KE3_if ?_ ?_
                    · skip
                      refine KE3_bt (e3_F_X0_cyclic.tr je3_rf) (fun _ _ => ?_)
                      exact (e3_B_X0_check_155 h_R_14).tr je3_rf
                    · skip
                      refine KE3_bt (e3_F_X9_refuseToken.tr je3_rf) (fun _ _ => ?_)
                      exact (e3_B_X0_check_155 h_R_14).tr je3_rf
    · skip
      exact KE3_some je3_rf
theorem e3_LP_X0_check_14 {N : Nat}  (n : Nat) : ∀ a : Int32 × CSt, KE3 (LP_X0_check_14 N n a) a.2 := by
  induction n with
  | zero => exact fun a r z e => by have e : (none : Option _) = some (r, z) := e; cases e
  | succ n ih =>
    intro a
    show KE3 (B_X0_check_14 N (LP_X0_check_14 N n) a.1 a.2) a.2
    exact e3_B_X0_check_14 ih
theorem e3_B_X0_check_0 {N : Nat} {u : CSt}  : KE3 (B_X0_check_0 N u) u := by
  unfold B_X0_check_0
  refine KE3_pc ?_
  refine KE3_bc (e3_F_X9_rewind.tr (fe3_xI (by decide) je3_rf)) (fun _ _ => ?_)
  exact (e3_LP_X0_check_14  _ _).tr je3_rf
theorem e3_F_X0_check {N : Nat} {u : CSt}  : KE3 (F_X0_check N u) u := by
  unfold F_X0_check
  exact e3_B_X0_check_0.tr je3_rf
theorem e3_B_X8_begin_0 {N : Nat} {l1 : Nat} {u : CSt}  : KE3 (B_X8_begin_0 N l1 u) u := by
  unfold B_X8_begin_0
  refine KE3_pc ?_
  refine KE3_pc ?_
  exact KE3_some (fe3_xI (by decide) (fe3_xR je3_rf))
theorem e3_F_X8_begin {N : Nat} {l1 : Nat} {u : CSt}  : KE3 (F_X8_begin N l1 u) u := by
  unfold F_X8_begin
  exact e3_B_X8_begin_0.tr je3_rf
theorem e3_B_X8_known_0 {N : Nat} {u : CSt}  : KE3 (B_X8_known_0 N u) u := by
  unfold B_X8_known_0
  refine KE3_bc (e3_F_X9_head.tr je3_rf) (fun _ _ => ?_)
  refine KE3_bc (e3_F_X9_tail.tr je3_rf) (fun _ _ => ?_)
  refine KE3_ok ?_
  refine KE3_bc (e3_F_X6_name.tr je3_rf) (fun _ _ => ?_)
  refine KE3_ok ?_
  refine KE3_bc (e3_F_X6_localCalled.tr je3_rf) (fun _ _ => ?_)
  refine KE3_ok ?_
  refine KE3_if ?_ ?_
  · skip
    refine KE3_ok ?_
    refine KE3_bc (e3_F_X6_ofText.tr je3_rf) (fun _ _ => ?_)
    refine KE3_ok ?_
    exact KE3_some je3_rf
  · skip
    exact KE3_some je3_rf
theorem e3_F_X8_known {N : Nat} {u : CSt}  : KE3 (F_X8_known N u) u := by
  unfold F_X8_known
  exact e3_B_X8_known_0.tr je3_rf
theorem e3_B_X8_placeName_63 {N : Nat} {l2 : Nat} {u : CSt}  : KE3 (B_X8_placeName_63 N l2 u) u := by
  unfold B_X8_placeName_63
  refine KE3_bc (e3_F_X9_here.tr je3_rf) (fun _ _ => ?_)
  refine KE3_bt (e3_F_X9_refuse.tr je3_rf) (fun _ _ => ?_)
  exact KE3_some je3_rf
theorem e3_B_X8_placeName_49 {N : Nat} {l1 : Int32} {l2 : Nat} {s0 : Int32} {s1 : Int32} {u : CSt}  : KE3 (B_X8_placeName_49 N l1 l2 s0 s1 u) u := by
  unfold B_X8_placeName_49
  refine KE3_if ?_ ?_
  · skip
    refine KE3_if ?_ ?_
    · skip
      exact KE3_some je3_rf
    · skip
      refine KE3_bc (e3_F_X4_isInput.tr je3_rf) (fun _ _ => ?_)
      refine KE3_if ?_ ?_
      · skip
        exact KE3_some je3_rf
      · skip
        exact e3_B_X8_placeName_63.tr je3_rf
  · skip
    exact e3_B_X8_placeName_63.tr je3_rf
theorem e3_B_X8_placeName_27 {N : Nat} {l1 : Int32} {l2 : Nat} {u : CSt}  : KE3 (B_X8_placeName_27 N l1 l2 u) u := by
  unfold B_X8_placeName_27
  refine KE3_bc (e3_F_X9_typeAhead.tr je3_rf) (fun _ _ => ?_)
  refine KE3_if ?_ ?_
  · skip
    exact e3_B_X8_placeName_49.tr je3_rf
  · skip
    exact e3_B_X8_placeName_49.tr je3_rf
theorem e3_B_X8_placeName_0 {N : Nat} {l1 : Int32} {u : CSt}  : KE3 (B_X8_placeName_0 N l1 u) u := by
  unfold B_X8_placeName_0
  refine KE3_bc (e3_F_X8_known.tr je3_rf) (fun _ _ => ?_)
  refine KE3_ok ?_
  refine KE3_bc (e3_F_X4_hasNumbers.tr je3_rf) (fun _ _ => ?_)
  refine KE3_if ?_ ?_
  · skip
    refine KE3_bc (e3_F_X9_here.tr je3_rf) (fun _ _ => ?_)
    refine KE3_bt (e3_F_X9_refuse.tr je3_rf) (fun _ _ => ?_)
    exact e3_B_X8_placeName_27.tr je3_rf
  · skip
    exact e3_B_X8_placeName_27.tr je3_rf
theorem e3_F_X8_placeName {N : Nat} {l1 : Int32} {u : CSt}  : KE3 (F_X8_placeName N l1 u) u := by
  unfold F_X8_placeName
  exact e3_B_X8_placeName_0.tr je3_rf
theorem e3_B_X8_isTooWide_26 {N : Nat} {u : CSt}  : KE3 (B_X8_isTooWide_26 N u) u := by
  unfold B_X8_isTooWide_26
  exact KE3_some je3_rf
theorem e3_B_X8_isTooWide_0 {N : Nat} {l1 : Int32} {l2 : Int32} {u : CSt}  : KE3 (B_X8_isTooWide_0 N l1 l2 u) u := by
  unfold B_X8_isTooWide_0
  refine KE3_if ?_ ?_
  · skip
    refine KE3_if ?_ ?_
    · skip
      exact e3_B_X8_isTooWide_26.tr je3_rf
    · skip
      refine KE3_if ?_ ?_
      · skip
        exact e3_B_X8_isTooWide_26.tr je3_rf
      · skip
        exact KE3_some je3_rf
  · skip
    exact KE3_some je3_rf
theorem e3_F_X8_isTooWide {N : Nat} {l1 : Int32} {l2 : Int32} {u : CSt}  : KE3 (F_X8_isTooWide N l1 l2 u) u := by
  unfold F_X8_isTooWide
  exact e3_B_X8_isTooWide_0.tr je3_rf
theorem e3_B_X8_combine_25 {N : Nat} {l4 : Int32} {l5 : Int32} {s0 : Nat} {s1 : Int32} {s2 : Int32} {s3 : Int32} {u : CSt}  : KE3 (B_X8_combine_25 N l4 l5 s0 s1 s2 s3 u) u := by
  unfold B_X8_combine_25
  refine KE3_bc (e3_F_X6_step.tr je3_rf) (fun _ _ => ?_)
  refine KE3_if ?_ ?_
  · skip
    exact KE3_some je3_rf
  · skip
    exact KE3_some je3_rf
theorem e3_B_X8_combine_0 {N : Nat} {l1 : Int32} {l2 : Int32} {l3 : Int32} {l4 : Int32} {u : CSt}  : KE3 (B_X8_combine_0 N l1 l2 l3 l4 u) u := by
  unfold B_X8_combine_0
  refine KE3_ok ?_
  refine KE3_if ?_ ?_
  · skip
    exact e3_B_X8_combine_25.tr je3_rf
  · skip
    exact e3_B_X8_combine_25.tr je3_rf
theorem e3_F_X8_combine {N : Nat} {l1 : Int32} {l2 : Int32} {l3 : Int32} {l4 : Int32} {u : CSt}  : KE3 (F_X8_combine N l1 l2 l3 l4 u) u := by
  unfold F_X8_combine
  exact e3_B_X8_combine_0.tr je3_rf
theorem e3_B_X8_defer_121 {N : Nat} {u : CSt}  : KE3 (B_X8_defer_121 N u) u := by
  unfold B_X8_defer_121
  refine KE3_bc (e3_F_X9_next.tr je3_rf) (fun _ _ => ?_)
  exact KE3_some je3_rf
theorem e3_B_X8_defer_41 {N : Nat} {l1 : Int32} {l2 : Int32} {l3 : Int32} {s0 : Int32} {u : CSt}  : KE3 (B_X8_defer_41 N l1 l2 l3 s0 u) u := by
  unfold B_X8_defer_41
  refine KE3_ok ?_
  refine KE3_bc (e3_F_X6_step.tr je3_rf) (fun _ _ => ?_)
  refine KE3_if ?_ ?_
  · skip
    exact e3_B_X8_defer_121.tr je3_rf
  · skip
    refine KE3_wc ?_
    refine KE3_wc ?_
    refine KE3_wc ?_
    refine KE3_wc ?_
    refine KE3_pc ?_
    exact e3_B_X8_defer_121.tr (fe3_xI (by decide) (fe3_xA (by decide) (fe3_xA (by decide) (fe3_xA (by decide) (fe3_xA (by decide) je3_rf)))))
theorem e3_B_X8_defer_0 {N : Nat} {l1 : Int32} {u : CSt}  : KE3 (B_X8_defer_0 N l1 u) u := by
  unfold B_X8_defer_0
  refine KE3_bc (e3_F_X9_type.tr je3_rf) (fun _ _ => ?_)
  refine KE3_bc (e3_F_X9_here.tr je3_rf) (fun _ _ => ?_)
  refine KE3_if ?_ ?_
  · skip
    exact e3_B_X8_defer_41.tr je3_rf
  · skip
    refine KE3_if ?_ ?_
    · skip
      exact e3_B_X8_defer_41.tr je3_rf
    · skip
      exact e3_B_X8_defer_41.tr je3_rf
theorem e3_F_X8_defer {N : Nat} {l1 : Int32} {u : CSt}  : KE3 (F_X8_defer N l1 u) u := by
  unfold F_X8_defer
  exact e3_B_X8_defer_0.tr je3_rf
theorem e3_B_X8_settle_171 {N : Nat} {R_3 : Int32 × Int32 × Int32 × CSt → Option (Int32 × CSt)} {l1 : Int32} {l2 : Int32} {l4 : Int32} {u : CSt} (h_R_3 : ∀ a, KE3 (R_3 a) a.2.2.2) : KE3 (B_X8_settle_171 N R_3 l1 l2 l4 u) u := by
  unfold B_X8_settle_171
  exact (h_R_3 _).tr je3_rf
theorem e3_B_X8_settle_84 {N : Nat} {R_3 : Int32 × Int32 × Int32 × CSt → Option (Int32 × CSt)} {l1 : Int32} {l2 : Int32} {l6 : Int32} {u : CSt} (h_R_3 : ∀ a, KE3 (R_3 a) a.2.2.2) : KE3 (B_X8_settle_84 N R_3 l1 l2 l6 u) u := by
  unfold B_X8_settle_84
  refine KE3_ok ?_
  refine KE3_bc (e3_F_X6_step.tr je3_rf) (fun _ _ => ?_)
  refine KE3_ok ?_
  refine KE3_rd (fun _ => ?_)
  refine KE3_bc (e3_F_X6_land.tr je3_rf) (fun _ _ => ?_)
  exact (e3_B_X8_settle_171 h_R_3).tr je3_rf
theorem e3_B_X8_settle_3 {N : Nat} {R_3 : Int32 × Int32 × Int32 × CSt → Option (Int32 × CSt)} {l1 : Int32} {l2 : Int32} {l4 : Int32} {u : CSt} (h_R_3 : ∀ a, KE3 (R_3 a) a.2.2.2) : KE3 (B_X8_settle_3 N R_3 l1 l2 l4 u) u := by
  unfold B_X8_settle_3
  refine KE3_if ?_ ?_
  · skip
    exact KE3_some je3_rf
  · skip
    refine KE3_rd (fun _ => ?_)
    refine KE3_pb (fun _ => ?_)
    refine KE3_if ?_ ?_
    · skip
      exact KE3_some je3_rf
    · skip
      refine KE3_pc ?_
      refine KE3_rd (fun _ => ?_)
      refine KE3_rd (fun _ => ?_)
      refine KE3_pb (fun _ => ?_)
      refine KE3_if ?_ ?_
      · skip
        exact (e3_B_X8_settle_84 h_R_3).tr (fe3_xI (by decide) je3_rf)
      · skip
        refine KE3_if ?_ ?_
        · skip
          exact (e3_B_X8_settle_84 h_R_3).tr (fe3_xI (by decide) je3_rf)
        · skip
          refine KE3_if ?_ ?_
          · skip
            refine KE3_pb (fun _ => ?_)
            refine KE3_rd (fun _ => ?_)
            refine KE3_bc (e3_F_X8_combine.tr (fe3_xI (by decide) je3_rf)) (fun _ _ => ?_)
            exact (e3_B_X8_settle_171 h_R_3).tr je3_rf
          · skip
            refine KE3_ok ?_
            refine KE3_bc (e3_F_X6_step.tr (fe3_xI (by decide) je3_rf)) (fun _ _ => ?_)
            exact (e3_B_X8_settle_171 h_R_3).tr je3_rf
theorem e3_LP_X8_settle_3 {N : Nat}  (n : Nat) : ∀ a : Int32 × Int32 × Int32 × CSt, KE3 (LP_X8_settle_3 N n a) a.2.2.2 := by
  induction n with
  | zero => exact fun a r z e => by have e : (none : Option _) = some (r, z) := e; cases e
  | succ n ih =>
    intro a
    show KE3 (B_X8_settle_3 N (LP_X8_settle_3 N n) a.1 a.2.1 a.2.2.1 a.2.2.2) a.2.2.2
    exact e3_B_X8_settle_3 ih
theorem e3_B_X8_settle_0 {N : Nat} {l1 : Int32} {l2 : Int32} {l3 : Int32} {u : CSt}  : KE3 (B_X8_settle_0 N l1 l2 l3 u) u := by
  unfold B_X8_settle_0
  exact (e3_LP_X8_settle_3  _ _).tr je3_rf
theorem e3_F_X8_settle {N : Nat} {l1 : Int32} {l2 : Int32} {l3 : Int32} {u : CSt}  : KE3 (F_X8_settle N l1 l2 l3 u) u := by
  unfold F_X8_settle
  exact e3_B_X8_settle_0.tr je3_rf
theorem e3_B_X8_number_15 {N : Nat} {l1 : Int32} {s0 : Int32} {u : CSt}  : KE3 (B_X8_number_15 N l1 s0 u) u := by
  unfold B_X8_number_15
  refine KE3_bt (e3_F_X9_takeNumber.tr je3_rf) (fun _ _ => ?_)
  refine KE3_pc ?_
  refine KE3_pc ?_
  refine KE3_ok ?_
  refine KE3_bc (e3_F_X6_constant.tr (fe3_xI (by decide) (fe3_xL je3_rf))) (fun _ _ => ?_)
  exact KE3_some je3_rf
theorem e3_B_X8_number_0 {N : Nat} {l1 : Int32} {u : CSt}  : KE3 (B_X8_number_0 N l1 u) u := by
  unfold B_X8_number_0
  refine KE3_bc (e3_F_X9_isWide.tr je3_rf) (fun _ _ => ?_)
  refine KE3_if ?_ ?_
  · skip
    exact e3_B_X8_number_15.tr je3_rf
  · skip
    exact e3_B_X8_number_15.tr je3_rf
theorem e3_F_X8_number {N : Nat} {l1 : Int32} {u : CSt}  : KE3 (F_X8_number N l1 u) u := by
  unfold F_X8_number
  exact e3_B_X8_number_0.tr je3_rf
theorem e3_B_X8_bit_0 {N : Nat} {l1 : Int32} {u : CSt}  : KE3 (B_X8_bit_0 N l1 u) u := by
  unfold B_X8_bit_0
  refine KE3_bc (e3_F_X9_next.tr je3_rf) (fun _ _ => ?_)
  refine KE3_rd (fun _ => ?_)
  refine KE3_bt (e3_F_X9_takeBounded.tr je3_rf) (fun _ _ => ?_)
  exact KE3_some je3_rf
theorem e3_F_X8_bit {N : Nat} {l1 : Int32} {u : CSt}  : KE3 (F_X8_bit N l1 u) u := by
  unfold F_X8_bit
  exact e3_B_X8_bit_0.tr je3_rf
theorem e3_B_X8_get_36 {N : Nat} {l1 : Nat} {l2 : Int32} {l3 : Int32} {l4 : Int32} {u : CSt}  : KE3 (B_X8_get_36 N l1 l2 l3 l4 u) u := by
  unfold B_X8_get_36
  refine KE3_ok ?_
  refine KE3_bc (e3_F_X6_step.tr je3_rf) (fun _ _ => ?_)
  exact KE3_some je3_rf
theorem e3_B_X8_get_34 {N : Nat} {l1 : Nat} {l2 : Int32} {l3 : Int32} {s0 : Int32} {u : CSt}  : KE3 (B_X8_get_34 N l1 l2 l3 s0 u) u := by
  unfold B_X8_get_34
  exact e3_B_X8_get_36.tr je3_rf
theorem e3_B_X8_get_12 {N : Nat} {l1 : Nat} {l2 : Int32} {l3 : Int32} {s0 : Int32} {u : CSt}  : KE3 (B_X8_get_12 N l1 l2 l3 s0 u) u := by
  unfold B_X8_get_12
  refine KE3_bc (e3_F_X4_isPlaced.tr je3_rf) (fun _ _ => ?_)
  refine KE3_if ?_ ?_
  · skip
    exact e3_B_X8_get_36.tr je3_rf
  · skip
    refine KE3_bc (e3_F_X4_isInput.tr je3_rf) (fun _ _ => ?_)
    refine KE3_if ?_ ?_
    · skip
      exact e3_B_X8_get_34.tr je3_rf
    · skip
      exact e3_B_X8_get_34.tr je3_rf
theorem e3_B_X8_get_0 {N : Nat} {l1 : Nat} {l2 : Int32} {l3 : Int32} {u : CSt}  : KE3 (B_X8_get_0 N l1 l2 l3 u) u := by
  unfold B_X8_get_0
  refine KE3_bc (e3_F_X4_isLocal.tr je3_rf) (fun _ _ => ?_)
  refine KE3_if ?_ ?_
  · skip
    exact e3_B_X8_get_12.tr je3_rf
  · skip
    exact e3_B_X8_get_12.tr je3_rf
theorem e3_F_X8_get {N : Nat} {l1 : Nat} {l2 : Int32} {l3 : Int32} {u : CSt}  : KE3 (F_X8_get N l1 l2 l3 u) u := by
  unfold F_X8_get
  exact e3_B_X8_get_0.tr je3_rf
theorem e3_B_X8_set_26 {N : Nat} {l1 : Nat} {l2 : Int32} {s0 : Int32} {u : CSt}  : KE3 (B_X8_set_26 N l1 l2 s0 u) u := by
  unfold B_X8_set_26
  refine KE3_ok ?_
  refine KE3_bc (e3_F_X6_step.tr je3_rf) (fun _ _ => ?_)
  exact KE3_some je3_rf
theorem e3_B_X8_set_0 {N : Nat} {l1 : Nat} {l2 : Int32} {u : CSt}  : KE3 (B_X8_set_0 N l1 l2 u) u := by
  unfold B_X8_set_0
  refine KE3_bc (e3_F_X4_isLocal.tr je3_rf) (fun _ _ => ?_)
  refine KE3_if ?_ ?_
  · skip
    refine KE3_bc (e3_F_X4_isPlaced.tr je3_rf) (fun _ _ => ?_)
    refine KE3_if ?_ ?_
    · skip
      exact e3_B_X8_set_26.tr je3_rf
    · skip
      exact e3_B_X8_set_26.tr je3_rf
  · skip
    exact e3_B_X8_set_26.tr je3_rf
theorem e3_F_X8_set {N : Nat} {l1 : Nat} {l2 : Int32} {u : CSt}  : KE3 (F_X8_set N l1 l2 u) u := by
  unfold F_X8_set
  exact e3_B_X8_set_0.tr je3_rf
theorem e3_B_X8_expression_0 {N : Nat} {ro : Nat → Nat → Int32 → Int32 → CSt → Option (Sum Nat Int32 × CSt)} {u : CSt} (h_ro : ∀ q z a b u, KE3 (ro q z a b u) u) : KE3 (B_X8_expression_0 N ro u) u := by
  unfold B_X8_expression_0
  refine KE3_bt ((h_ro _ _ _ _ _).tr je3_rf) (fun _ _ => ?_)
  refine KE3_bc (e3_F_X9_is.tr je3_rf) (fun _ _ => ?_)
  refine KE3_if ?_ ?_
  · skip
    exact KE3_some je3_rf
  · skip
    refine KE3_bc (e3_F_X9_here.tr je3_rf) (fun _ _ => ?_)
    refine KE3_ok ?_
    refine KE3_bc (e3_F_X6_step.tr je3_rf) (fun _ _ => ?_)
    refine KE3_bc (e3_F_X9_next.tr je3_rf) (fun _ _ => ?_)
    refine KE3_bt ((h_ro _ _ _ _ _).tr je3_rf) (fun _ _ => ?_)
    refine KE3_ok ?_
    refine KE3_bc (e3_F_X6_step.tr je3_rf) (fun _ _ => ?_)
    refine KE3_ok ?_
    refine KE3_bc (e3_F_X6_land.tr je3_rf) (fun _ _ => ?_)
    refine KE3_bc (e3_F_X9_next.tr je3_rf) (fun _ _ => ?_)
    refine KE3_bt ((h_ro _ _ _ _ _).tr je3_rf) (fun _ _ => ?_)
    refine KE3_ok ?_
    refine KE3_bc (e3_F_X6_land.tr je3_rf) (fun _ _ => ?_)
    refine KE3_pc ?_
    exact KE3_some (fe3_xI (by decide) je3_rf)
theorem e3_F_X8_expression {N : Nat} {ro : Nat → Nat → Int32 → Int32 → CSt → Option (Sum Nat Int32 × CSt)} {u : CSt} (h_ro : ∀ q z a b u, KE3 (ro q z a b u) u) : KE3 (F_X8_expression N ro u) u := by
  unfold F_X8_expression
  exact (e3_B_X8_expression_0 h_ro).tr je3_rf
theorem e3_B_X8_operators_76 {N : Nat} {ro : Nat → Nat → Int32 → Int32 → CSt → Option (Sum Nat Int32 × CSt)} {l1 : Int32} {l2 : Int32} {u : CSt} (h_ro : ∀ q z a b u, KE3 (ro q z a b u) u) : KE3 (B_X8_operators_76 N ro l1 l2 u) u := by
  unfold B_X8_operators_76
  refine KE3_bc (e3_F_X8_settle.tr je3_rf) (fun _ _ => ?_)
  exact KE3_some je3_rf
theorem e3_B_X8_operators_24 {N : Nat} {ro : Nat → Nat → Int32 → Int32 → CSt → Option (Sum Nat Int32 × CSt)} {R_24 : Int32 × Int32 × Int32 × Int32 × CSt → Option ((Sum Nat Int32) × CSt)} {l1 : Int32} {l2 : Int32} {l3 : Int32} {l4 : Int32} {u : CSt} (h_ro : ∀ q z a b u, KE3 (ro q z a b u) u) (h_R_24 : ∀ a, KE3 (R_24 a) a.2.2.2.2) : KE3 (B_X8_operators_24 N ro R_24 l1 l2 l3 l4 u) u := by
  unfold B_X8_operators_24
  refine KE3_if ?_ ?_
  · skip
    exact (e3_B_X8_operators_76 h_ro).tr je3_rf
  · skip
    refine KE3_if ?_ ?_
    · skip
      exact (e3_B_X8_operators_76 h_ro).tr je3_rf
    · skip
      refine KE3_bc (e3_F_X8_settle.tr je3_rf) (fun _ _ => ?_)
      refine KE3_bc (e3_F_X8_defer.tr je3_rf) (fun _ _ => ?_)
      refine KE3_bt ((h_ro _ _ _ _ _).tr je3_rf) (fun _ _ => ?_)
      refine KE3_pc ?_
      refine KE3_bc (e3_F_X9_type.tr (fe3_xI (by decide) je3_rf)) (fun _ _ => ?_)
      refine KE3_pb (fun _ => ?_)
      exact (h_R_24 _).tr je3_rf
theorem e3_LP_X8_operators_24 {N : Nat} {ro : Nat → Nat → Int32 → Int32 → CSt → Option (Sum Nat Int32 × CSt)} (h_ro : ∀ q z a b u, KE3 (ro q z a b u) u) (n : Nat) : ∀ a : Int32 × Int32 × Int32 × Int32 × CSt, KE3 (LP_X8_operators_24 N ro n a) a.2.2.2.2 := by
  induction n with
  | zero => exact fun a r z e => by have e : (none : Option _) = some (r, z) := e; cases e
  | succ n ih =>
    intro a
    show KE3 (B_X8_operators_24 N ro (LP_X8_operators_24 N ro n) a.1 a.2.1 a.2.2.1 a.2.2.2.1 a.2.2.2.2) a.2.2.2.2
    exact e3_B_X8_operators_24 h_ro ih
theorem e3_B_X8_operators_0 {N : Nat} {ro : Nat → Nat → Int32 → Int32 → CSt → Option (Sum Nat Int32 × CSt)} {u : CSt} (h_ro : ∀ q z a b u, KE3 (ro q z a b u) u) : KE3 (B_X8_operators_0 N ro u) u := by
  unfold B_X8_operators_0
  refine KE3_bt ((h_ro _ _ _ _ _).tr je3_rf) (fun _ _ => ?_)
  refine KE3_bc (e3_F_X9_type.tr je3_rf) (fun _ _ => ?_)
  refine KE3_pb (fun _ => ?_)
  exact (e3_LP_X8_operators_24 h_ro _ _).tr je3_rf
theorem e3_F_X8_operators {N : Nat} {ro : Nat → Nat → Int32 → Int32 → CSt → Option (Sum Nat Int32 × CSt)} {u : CSt} (h_ro : ∀ q z a b u, KE3 (ro q z a b u) u) : KE3 (F_X8_operators N ro u) u := by
  unfold F_X8_operators
  exact (e3_B_X8_operators_0 h_ro).tr je3_rf
theorem e3_B_X8_operand_0 {N : Nat} {ro : Nat → Nat → Int32 → Int32 → CSt → Option (Sum Nat Int32 × CSt)} {u : CSt} (h_ro : ∀ q z a b u, KE3 (ro q z a b u) u) : KE3 (B_X8_operand_0 N ro u) u := by
  unfold B_X8_operand_0
  refine KE3_bc (e3_F_X9_here.tr je3_rf) (fun _ _ => ?_)
  refine KE3_bc (e3_F_X9_type.tr je3_rf) (fun _ _ => ?_)
  refine KE3_if ?_ ?_
  · skip
    refine KE3_ok ?_
    refine KE3_bc (e3_F_X6_step.tr je3_rf) (fun _ _ => ?_)
    refine KE3_bc (e3_F_X9_next.tr je3_rf) (fun _ _ => ?_)
    refine KE3_pc ?_
    exact KE3_some (fe3_xI (by decide) je3_rf)
  · skip
    refine KE3_if ?_ ?_
    · skip
      refine KE3_bt ((h_ro _ _ _ _ _).tr je3_rf) (fun _ _ => ?_)
      exact KE3_some je3_rf
    · skip
      refine KE3_if ?_ ?_
      · skip
        refine KE3_bt ((h_ro _ _ _ _ _).tr je3_rf) (fun _ _ => ?_)
        exact KE3_some je3_rf
      · skip
        refine KE3_if ?_ ?_
        · skip
          refine KE3_bt ((h_ro _ _ _ _ _).tr je3_rf) (fun _ _ => ?_)
          exact KE3_some je3_rf
        · skip
          refine KE3_if ?_ ?_
          · skip
            refine KE3_bt ((h_ro _ _ _ _ _).tr je3_rf) (fun _ _ => ?_)
            exact KE3_some je3_rf
          · skip
            refine KE3_if ?_ ?_
            · skip
              refine KE3_bt (e3_F_X8_number.tr je3_rf) (fun _ _ => ?_)
              exact KE3_some je3_rf
            · skip
              refine KE3_if ?_ ?_
              · skip
                refine KE3_bt (e3_F_X8_number.tr je3_rf) (fun _ _ => ?_)
                exact KE3_some je3_rf
              · skip
                refine KE3_bt ((h_ro _ _ _ _ _).tr je3_rf) (fun _ _ => ?_)
                exact KE3_some je3_rf
theorem e3_F_X8_operand {N : Nat} {ro : Nat → Nat → Int32 → Int32 → CSt → Option (Sum Nat Int32 × CSt)} {u : CSt} (h_ro : ∀ q z a b u, KE3 (ro q z a b u) u) : KE3 (F_X8_operand N ro u) u := by
  unfold F_X8_operand
  exact (e3_B_X8_operand_0 h_ro).tr je3_rf
theorem e3_B_X8_signed_146 {N : Nat} {ro : Nat → Nat → Int32 → Int32 → CSt → Option (Sum Nat Int32 × CSt)} {l2 : Int32} {l4 : Int32} {s1 : Int32} {u : CSt} (h_ro : ∀ q z a b u, KE3 (ro q z a b u) u) : KE3 (B_X8_signed_146 N ro l2 l4 s1 u) u := by
  unfold B_X8_signed_146
  refine KE3_pc ?_
  refine KE3_if ?_ ?_
  · skip
    exact KE3_some (fe3_xL je3_rf)
  · skip
    exact KE3_some (fe3_xL je3_rf)
theorem e3_B_X8_signed_131 {N : Nat} {ro : Nat → Nat → Int32 → Int32 → CSt → Option (Sum Nat Int32 × CSt)} {l2 : Int32} {l4 : Int32} {s1 : Int32} {u : CSt} (h_ro : ∀ q z a b u, KE3 (ro q z a b u) u) : KE3 (B_X8_signed_131 N ro l2 l4 s1 u) u := by
  unfold B_X8_signed_131
  refine KE3_zr ?_
  refine KE3_pc ?_
  refine KE3_if ?_ ?_
  · skip
    exact (e3_B_X8_signed_146 h_ro).tr (fe3_xI (by decide) je3_rf)
  · skip
    exact (e3_B_X8_signed_146 h_ro).tr (fe3_xI (by decide) je3_rf)
theorem e3_B_X8_signed_130 {N : Nat} {ro : Nat → Nat → Int32 → Int32 → CSt → Option (Sum Nat Int32 × CSt)} {l2 : Int32} {l4 : Int32} {u : CSt} (h_ro : ∀ q z a b u, KE3 (ro q z a b u) u) : KE3 (B_X8_signed_130 N ro l2 l4 u) u := by
  unfold B_X8_signed_130
  exact (e3_B_X8_signed_131 h_ro).tr je3_rf
theorem e3_B_X8_signed_110 {N : Nat} {ro : Nat → Nat → Int32 → Int32 → CSt → Option (Sum Nat Int32 × CSt)} {l1 : Int32} {l2 : Int32} {l3 : Int32} {l4 : Int32} {s0 : Nat} {s1 : Int32} {s2 : Int32} {s3 : Int32} {u : CSt} (h_ro : ∀ q z a b u, KE3 (ro q z a b u) u) : KE3 (B_X8_signed_110 N ro l1 l2 l3 l4 s0 s1 s2 s3 u) u := by
  unfold B_X8_signed_110
  refine KE3_bc (e3_F_X6_step.tr je3_rf) (fun _ _ => ?_)
  refine KE3_if ?_ ?_
  · skip
    refine KE3_if ?_ ?_
    · skip
      exact (e3_B_X8_signed_130 h_ro).tr je3_rf
    · skip
      exact (e3_B_X8_signed_131 h_ro).tr je3_rf
  · skip
    exact (e3_B_X8_signed_130 h_ro).tr je3_rf
theorem e3_B_X8_signed_89 {N : Nat} {ro : Nat → Nat → Int32 → Int32 → CSt → Option (Sum Nat Int32 × CSt)} {l1 : Int32} {l2 : Int32} {l3 : Int32} {l4 : Int32} {s0 : Int32} {u : CSt} (h_ro : ∀ q z a b u, KE3 (ro q z a b u) u) : KE3 (B_X8_signed_89 N ro l1 l2 l3 l4 s0 u) u := by
  unfold B_X8_signed_89
  refine KE3_ok ?_
  refine KE3_if ?_ ?_
  · skip
    exact (e3_B_X8_signed_110 h_ro).tr je3_rf
  · skip
    exact (e3_B_X8_signed_110 h_ro).tr je3_rf
theorem e3_B_X8_signed_54 {N : Nat} {ro : Nat → Nat → Int32 → Int32 → CSt → Option (Sum Nat Int32 × CSt)} {l1 : Int32} {l2 : Int32} {s0 : Int32} {u : CSt} (h_ro : ∀ q z a b u, KE3 (ro q z a b u) u) : KE3 (B_X8_signed_54 N ro l1 l2 s0 u) u := by
  unfold B_X8_signed_54
  refine KE3_bt ((h_ro _ _ _ _ _).tr je3_rf) (fun _ _ => ?_)
  refine KE3_if ?_ ?_
  · skip
    exact (e3_B_X8_signed_89 h_ro).tr je3_rf
  · skip
    refine KE3_if ?_ ?_
    · skip
      exact (e3_B_X8_signed_89 h_ro).tr je3_rf
    · skip
      exact (e3_B_X8_signed_89 h_ro).tr je3_rf
theorem e3_B_X8_signed_49 {N : Nat} {ro : Nat → Nat → Int32 → Int32 → CSt → Option (Sum Nat Int32 × CSt)} {l1 : Int32} {l2 : Int32} {u : CSt} (h_ro : ∀ q z a b u, KE3 (ro q z a b u) u) : KE3 (B_X8_signed_49 N ro l1 l2 u) u := by
  unfold B_X8_signed_49
  exact (e3_B_X8_signed_54 h_ro).tr je3_rf
theorem e3_B_X8_signed_0 {N : Nat} {ro : Nat → Nat → Int32 → Int32 → CSt → Option (Sum Nat Int32 × CSt)} {l1 : Int32} {u : CSt} (h_ro : ∀ q z a b u, KE3 (ro q z a b u) u) : KE3 (B_X8_signed_0 N ro l1 u) u := by
  unfold B_X8_signed_0
  refine KE3_bc (e3_F_X9_type.tr je3_rf) (fun _ _ => ?_)
  refine KE3_ok ?_
  refine KE3_bc (e3_F_X6_cost.tr je3_rf) (fun _ _ => ?_)
  refine KE3_bc (e3_F_X9_next.tr je3_rf) (fun _ _ => ?_)
  refine KE3_bc (e3_F_X9_is.tr je3_rf) (fun _ _ => ?_)
  refine KE3_if ?_ ?_
  · skip
    refine KE3_bc (e3_F_X9_is.tr je3_rf) (fun _ _ => ?_)
    refine KE3_if ?_ ?_
    · skip
      exact (e3_B_X8_signed_54 h_ro).tr je3_rf
    · skip
      exact (e3_B_X8_signed_49 h_ro).tr je3_rf
  · skip
    exact (e3_B_X8_signed_49 h_ro).tr je3_rf
theorem e3_F_X8_signed {N : Nat} {ro : Nat → Nat → Int32 → Int32 → CSt → Option (Sum Nat Int32 × CSt)} {l1 : Int32} {u : CSt} (h_ro : ∀ q z a b u, KE3 (ro q z a b u) u) : KE3 (F_X8_signed N ro l1 u) u := by
  unfold F_X8_signed
  exact (e3_B_X8_signed_0 h_ro).tr je3_rf
theorem e3_B_X8_bracket_0 {N : Nat} {ro : Nat → Nat → Int32 → Int32 → CSt → Option (Sum Nat Int32 × CSt)} {l1 : Int32} {u : CSt} (h_ro : ∀ q z a b u, KE3 (ro q z a b u) u) : KE3 (B_X8_bracket_0 N ro l1 u) u := by
  unfold B_X8_bracket_0
  refine KE3_bc (e3_F_X9_next.tr je3_rf) (fun _ _ => ?_)
  refine KE3_bc (e3_F_X9_isKindWord.tr je3_rf) (fun _ _ => ?_)
  refine KE3_if ?_ ?_
  · skip
    refine KE3_bt ((h_ro _ _ _ _ _).tr je3_rf) (fun _ _ => ?_)
    refine KE3_bc (e3_F_X9_next.tr je3_rf) (fun _ _ => ?_)
    exact KE3_some je3_rf
  · skip
    refine KE3_bc (e3_F_X9_takeKind.tr je3_rf) (fun _ _ => ?_)
    refine KE3_bc (e3_F_X9_next.tr je3_rf) (fun _ _ => ?_)
    refine KE3_ok ?_
    refine KE3_bc (e3_F_X6_cost.tr je3_rf) (fun _ _ => ?_)
    refine KE3_bt ((h_ro _ _ _ _ _).tr je3_rf) (fun _ _ => ?_)
    refine KE3_ok ?_
    refine KE3_bc (e3_F_X6_step.tr je3_rf) (fun _ _ => ?_)
    refine KE3_pc ?_
    exact KE3_some (fe3_xI (by decide) je3_rf)
theorem e3_F_X8_bracket {N : Nat} {ro : Nat → Nat → Int32 → Int32 → CSt → Option (Sum Nat Int32 × CSt)} {l1 : Int32} {u : CSt} (h_ro : ∀ q z a b u, KE3 (ro q z a b u) u) : KE3 (F_X8_bracket N ro l1 u) u := by
  unfold F_X8_bracket
  exact (e3_B_X8_bracket_0 h_ro).tr je3_rf
theorem e3_B_X8_named_58 {N : Nat} {ro : Nat → Nat → Int32 → Int32 → CSt → Option (Sum Nat Int32 × CSt)} {l1 : Int32} {u : CSt} (h_ro : ∀ q z a b u, KE3 (ro q z a b u) u) : KE3 (B_X8_named_58 N ro l1 u) u := by
  unfold B_X8_named_58
  refine KE3_bt ((h_ro _ _ _ _ _).tr je3_rf) (fun _ _ => ?_)
  refine KE3_pc ?_
  exact KE3_some (fe3_xI (by decide) je3_rf)
theorem e3_B_X8_named_0 {N : Nat} {ro : Nat → Nat → Int32 → Int32 → CSt → Option (Sum Nat Int32 × CSt)} {l1 : Int32} {u : CSt} (h_ro : ∀ q z a b u, KE3 (ro q z a b u) u) : KE3 (B_X8_named_0 N ro l1 u) u := by
  unfold B_X8_named_0
  refine KE3_bc (e3_F_X9_typeAhead.tr je3_rf) (fun _ _ => ?_)
  refine KE3_if ?_ ?_
  · skip
    refine KE3_bt ((h_ro _ _ _ _ _).tr je3_rf) (fun _ _ => ?_)
    refine KE3_pc ?_
    exact KE3_some (fe3_xI (by decide) je3_rf)
  · skip
    refine KE3_bc (e3_F_X9_typeAhead.tr je3_rf) (fun _ _ => ?_)
    refine KE3_if ?_ ?_
    · skip
      refine KE3_bc (e3_F_X9_typeAhead.tr je3_rf) (fun _ _ => ?_)
      refine KE3_if ?_ ?_
      · skip
        refine KE3_bt ((h_ro _ _ _ _ _).tr je3_rf) (fun _ _ => ?_)
        refine KE3_pc ?_
        exact KE3_some (fe3_xI (by decide) je3_rf)
      · skip
        exact (e3_B_X8_named_58 h_ro).tr je3_rf
    · skip
      exact (e3_B_X8_named_58 h_ro).tr je3_rf
theorem e3_F_X8_named {N : Nat} {ro : Nat → Nat → Int32 → Int32 → CSt → Option (Sum Nat Int32 × CSt)} {l1 : Int32} {u : CSt} (h_ro : ∀ q z a b u, KE3 (ro q z a b u) u) : KE3 (F_X8_named N ro l1 u) u := by
  unfold F_X8_named
  exact (e3_B_X8_named_0 h_ro).tr je3_rf
theorem e3_B_X8_ofPlace_58 {N : Nat} {ro : Nat → Nat → Int32 → Int32 → CSt → Option (Sum Nat Int32 × CSt)} {l1 : Int32} {l2 : Nat} {u : CSt} (h_ro : ∀ q z a b u, KE3 (ro q z a b u) u) : KE3 (B_X8_ofPlace_58 N ro l1 l2 u) u := by
  unfold B_X8_ofPlace_58
  refine KE3_bc (e3_F_X9_is.tr je3_rf) (fun _ _ => ?_)
  refine KE3_if ?_ ?_
  · skip
    exact KE3_some je3_rf
  · skip
    refine KE3_ok ?_
    refine KE3_bt (e3_F_X8_bit.tr je3_rf) (fun _ _ => ?_)
    refine KE3_bc (e3_F_X6_step.tr je3_rf) (fun _ _ => ?_)
    exact KE3_some je3_rf
theorem e3_B_X8_ofPlace_0 {N : Nat} {ro : Nat → Nat → Int32 → Int32 → CSt → Option (Sum Nat Int32 × CSt)} {l1 : Int32} {u : CSt} (h_ro : ∀ q z a b u, KE3 (ro q z a b u) u) : KE3 (B_X8_ofPlace_0 N ro l1 u) u := by
  unfold B_X8_ofPlace_0
  refine KE3_bt (e3_F_X8_placeName.tr je3_rf) (fun _ _ => ?_)
  refine KE3_ok ?_
  refine KE3_bc (e3_F_X9_next.tr je3_rf) (fun _ _ => ?_)
  refine KE3_if ?_ ?_
  · skip
    refine KE3_bc (e3_F_X8_get.tr je3_rf) (fun _ _ => ?_)
    exact (e3_B_X8_ofPlace_58 h_ro).tr je3_rf
  · skip
    refine KE3_ok ?_
    refine KE3_bc (e3_F_X6_cost.tr je3_rf) (fun _ _ => ?_)
    refine KE3_bt ((h_ro _ _ _ _ _).tr je3_rf) (fun _ _ => ?_)
    refine KE3_ok ?_
    refine KE3_bc (e3_F_X6_step.tr je3_rf) (fun _ _ => ?_)
    exact (e3_B_X8_ofPlace_58 h_ro).tr je3_rf
theorem e3_F_X8_ofPlace {N : Nat} {ro : Nat → Nat → Int32 → Int32 → CSt → Option (Sum Nat Int32 × CSt)} {l1 : Int32} {u : CSt} (h_ro : ∀ q z a b u, KE3 (ro q z a b u) u) : KE3 (F_X8_ofPlace N ro l1 u) u := by
  unfold F_X8_ofPlace
  exact (e3_B_X8_ofPlace_0 h_ro).tr je3_rf
theorem e3_B_X8_ofInstance_132 {N : Nat} {ro : Nat → Nat → Int32 → Int32 → CSt → Option (Sum Nat Int32 × CSt)} {l2 : Nat} {l3 : Int32} {l4 : Nat} {u : CSt} (h_ro : ∀ q z a b u, KE3 (ro q z a b u) u) : KE3 (B_X8_ofInstance_132 N ro l2 l3 l4 u) u := by
  unfold B_X8_ofInstance_132
  refine KE3_bc (e3_F_X9_next.tr je3_rf) (fun _ _ => ?_)
  refine KE3_if ?_ ?_
  · skip
    refine KE3_ok ?_
    refine KE3_bc (e3_F_X6_step.tr je3_rf) (fun _ _ => ?_)
    exact KE3_some je3_rf
  · skip
    refine KE3_ok ?_
    refine KE3_bc (e3_F_X6_cost.tr je3_rf) (fun _ _ => ?_)
    refine KE3_bt ((h_ro _ _ _ _ _).tr je3_rf) (fun _ _ => ?_)
    refine KE3_ok ?_
    refine KE3_bc (e3_F_X6_step.tr je3_rf) (fun _ _ => ?_)
    refine KE3_ok ?_
    refine KE3_bc (e3_F_X6_step.tr je3_rf) (fun _ _ => ?_)
    exact KE3_some je3_rf
theorem e3_B_X8_ofInstance_120 {N : Nat} {ro : Nat → Nat → Int32 → Int32 → CSt → Option (Sum Nat Int32 × CSt)} {l2 : Nat} {l3 : Int32} {l4 : Nat} {s0 : Int32} {s1 : Int32} {u : CSt} (h_ro : ∀ q z a b u, KE3 (ro q z a b u) u) : KE3 (B_X8_ofInstance_120 N ro l2 l3 l4 s0 s1 u) u := by
  unfold B_X8_ofInstance_120
  refine KE3_if ?_ ?_
  · skip
    exact (e3_B_X8_ofInstance_132 h_ro).tr je3_rf
  · skip
    refine KE3_bt (e3_F_X9_refuse.tr je3_rf) (fun _ _ => ?_)
    exact (e3_B_X8_ofInstance_132 h_ro).tr je3_rf
theorem e3_B_X8_ofInstance_97 {N : Nat} {ro : Nat → Nat → Int32 → Int32 → CSt → Option (Sum Nat Int32 × CSt)} {l2 : Nat} {l3 : Int32} {l4 : Nat} {u : CSt} (h_ro : ∀ q z a b u, KE3 (ro q z a b u) u) : KE3 (B_X8_ofInstance_97 N ro l2 l3 l4 u) u := by
  unfold B_X8_ofInstance_97
  refine KE3_bc (e3_F_X9_typeAhead.tr je3_rf) (fun _ _ => ?_)
  refine KE3_if ?_ ?_
  · skip
    exact (e3_B_X8_ofInstance_120 h_ro).tr je3_rf
  · skip
    exact (e3_B_X8_ofInstance_120 h_ro).tr je3_rf
theorem e3_B_X8_ofInstance_22 {N : Nat} {ro : Nat → Nat → Int32 → Int32 → CSt → Option (Sum Nat Int32 × CSt)} {l2 : Nat} {u : CSt} (h_ro : ∀ q z a b u, KE3 (ro q z a b u) u) : KE3 (B_X8_ofInstance_22 N ro l2 u) u := by
  unfold B_X8_ofInstance_22
  refine KE3_bc (e3_F_X9_next.tr je3_rf) (fun _ _ => ?_)
  refine KE3_bc (e3_F_X9_next.tr je3_rf) (fun _ _ => ?_)
  refine KE3_bc (e3_F_X9_here.tr je3_rf) (fun _ _ => ?_)
  refine KE3_ok ?_
  refine KE3_bc (e3_F_X6_name.tr je3_rf) (fun _ _ => ?_)
  refine KE3_ok ?_
  refine KE3_bc (e3_F_X9_head.tr je3_rf) (fun _ _ => ?_)
  refine KE3_bc (e3_F_X9_tail.tr je3_rf) (fun _ _ => ?_)
  refine KE3_bc (e3_F_X6_localCalled.tr je3_rf) (fun _ _ => ?_)
  refine KE3_ok ?_
  refine KE3_if ?_ ?_
  · skip
    refine KE3_bt (e3_F_X9_refuse.tr je3_rf) (fun _ _ => ?_)
    exact (e3_B_X8_ofInstance_97 h_ro).tr je3_rf
  · skip
    exact (e3_B_X8_ofInstance_97 h_ro).tr je3_rf
theorem e3_B_X8_ofInstance_0 {N : Nat} {ro : Nat → Nat → Int32 → Int32 → CSt → Option (Sum Nat Int32 × CSt)} {l1 : Int32} {u : CSt} (h_ro : ∀ q z a b u, KE3 (ro q z a b u) u) : KE3 (B_X8_ofInstance_0 N ro l1 u) u := by
  unfold B_X8_ofInstance_0
  refine KE3_bc (e3_F_X8_known.tr je3_rf) (fun _ _ => ?_)
  refine KE3_ok ?_
  refine KE3_if ?_ ?_
  · skip
    exact (e3_B_X8_ofInstance_22 h_ro).tr je3_rf
  · skip
    refine KE3_bt (e3_F_X9_refuse.tr je3_rf) (fun _ _ => ?_)
    exact (e3_B_X8_ofInstance_22 h_ro).tr je3_rf
theorem e3_F_X8_ofInstance {N : Nat} {ro : Nat → Nat → Int32 → Int32 → CSt → Option (Sum Nat Int32 × CSt)} {l1 : Int32} {u : CSt} (h_ro : ∀ q z a b u, KE3 (ro q z a b u) u) : KE3 (F_X8_ofInstance N ro l1 u) u := by
  unfold F_X8_ofInstance
  exact (e3_B_X8_ofInstance_0 h_ro).tr je3_rf
theorem e3_B_X8_called_31 {N : Nat} {ro : Nat → Nat → Int32 → Int32 → CSt → Option (Sum Nat Int32 × CSt)} {l1 : Int32} {l2 : Nat} {u : CSt} (h_ro : ∀ q z a b u, KE3 (ro q z a b u) u) : KE3 (B_X8_called_31 N ro l1 l2 u) u := by
  unfold B_X8_called_31
  refine KE3_ok ?_
  refine KE3_bc (e3_F_X6_cost.tr je3_rf) (fun _ _ => ?_)
  refine KE3_if ?_ ?_
  · skip
    refine KE3_bt ((h_ro _ _ _ _ _).tr je3_rf) (fun _ _ => ?_)
    exact KE3_some je3_rf
  · skip
    refine KE3_bt ((h_ro _ _ _ _ _).tr je3_rf) (fun _ _ => ?_)
    refine KE3_ok ?_
    refine KE3_bc (e3_F_X6_step.tr je3_rf) (fun _ _ => ?_)
    exact KE3_some je3_rf
theorem e3_B_X8_called_0 {N : Nat} {ro : Nat → Nat → Int32 → Int32 → CSt → Option (Sum Nat Int32 × CSt)} {l1 : Int32} {u : CSt} (h_ro : ∀ q z a b u, KE3 (ro q z a b u) u) : KE3 (B_X8_called_0 N ro l1 u) u := by
  unfold B_X8_called_0
  refine KE3_bc (e3_F_X8_known.tr je3_rf) (fun _ _ => ?_)
  refine KE3_ok ?_
  refine KE3_if ?_ ?_
  · skip
    exact (e3_B_X8_called_31 h_ro).tr je3_rf
  · skip
    refine KE3_if ?_ ?_
    · skip
      exact (e3_B_X8_called_31 h_ro).tr je3_rf
    · skip
      refine KE3_bt (e3_F_X9_refuse.tr je3_rf) (fun _ _ => ?_)
      exact (e3_B_X8_called_31 h_ro).tr je3_rf
theorem e3_F_X8_called {N : Nat} {ro : Nat → Nat → Int32 → Int32 → CSt → Option (Sum Nat Int32 × CSt)} {l1 : Int32} {u : CSt} (h_ro : ∀ q z a b u, KE3 (ro q z a b u) u) : KE3 (F_X8_called N ro l1 u) u := by
  unfold F_X8_called
  exact (e3_B_X8_called_0 h_ro).tr je3_rf
theorem e3_B_X8_builtIn_71 {N : Nat} {ro : Nat → Nat → Int32 → Int32 → CSt → Option (Sum Nat Int32 × CSt)} {R_22 : Nat × Int32 × Int32 × Int32 × Int32 × CSt → Option ((Sum Nat Int32) × CSt)} {l1 : Nat} {l2 : Int32} {l4 : Int32} {l5 : Int32} {l6 : Int32} {s0 : Int32} {u : CSt} (h_ro : ∀ q z a b u, KE3 (ro q z a b u) u) (h_R_22 : ∀ a, KE3 (R_22 a) a.2.2.2.2.2) : KE3 (B_X8_builtIn_71 N ro R_22 l1 l2 l4 l5 l6 s0 u) u := by
  unfold B_X8_builtIn_71
  exact (h_R_22 _).tr je3_rf
theorem e3_B_X8_builtIn_54 {N : Nat} {ro : Nat → Nat → Int32 → Int32 → CSt → Option (Sum Nat Int32 × CSt)} {R_22 : Nat × Int32 × Int32 × Int32 × Int32 × CSt → Option ((Sum Nat Int32) × CSt)} {l1 : Nat} {l2 : Int32} {l3 : Int32} {l4 : Int32} {l5 : Int32} {u : CSt} (h_ro : ∀ q z a b u, KE3 (ro q z a b u) u) (h_R_22 : ∀ a, KE3 (R_22 a) a.2.2.2.2.2) : KE3 (B_X8_builtIn_54 N ro R_22 l1 l2 l3 l4 l5 u) u := by
  unfold B_X8_builtIn_54
  refine KE3_bt ((h_ro _ _ _ _ _).tr je3_rf) (fun _ _ => ?_)
  refine KE3_if ?_ ?_
  · skip
    exact (e3_B_X8_builtIn_71 h_ro h_R_22).tr je3_rf
  · skip
    exact (e3_B_X8_builtIn_71 h_ro h_R_22).tr je3_rf
theorem e3_B_X8_builtIn_215 {N : Nat} {ro : Nat → Nat → Int32 → Int32 → CSt → Option (Sum Nat Int32 × CSt)} {u : CSt} (h_ro : ∀ q z a b u, KE3 (ro q z a b u) u) : KE3 (B_X8_builtIn_215 N ro u) u := by
  unfold B_X8_builtIn_215
  exact KE3_some je3_rf
theorem e3_B_X8_builtIn_192 {N : Nat} {ro : Nat → Nat → Int32 → Int32 → CSt → Option (Sum Nat Int32 × CSt)} {l1 : Nat} {l2 : Int32} {l7 : Int32} {s0 : Nat} {s1 : Int32} {s2 : Int32} {s3 : Int32} {u : CSt} (h_ro : ∀ q z a b u, KE3 (ro q z a b u) u) : KE3 (B_X8_builtIn_192 N ro l1 l2 l7 s0 s1 s2 s3 u) u := by
  unfold B_X8_builtIn_192
  refine KE3_bc (e3_F_X6_step.tr je3_rf) (fun _ _ => ?_)
  refine KE3_if ?_ ?_
  · skip
    exact (e3_B_X8_builtIn_215 h_ro).tr je3_rf
  · skip
    refine KE3_if ?_ ?_
    · skip
      exact (e3_B_X8_builtIn_215 h_ro).tr je3_rf
    · skip
      exact KE3_some je3_rf
theorem e3_B_X8_builtIn_169 {N : Nat} {ro : Nat → Nat → Int32 → Int32 → CSt → Option (Sum Nat Int32 × CSt)} {l1 : Nat} {l2 : Int32} {l7 : Int32} {s0 : Int32} {u : CSt} (h_ro : ∀ q z a b u, KE3 (ro q z a b u) u) : KE3 (B_X8_builtIn_169 N ro l1 l2 l7 s0 u) u := by
  unfold B_X8_builtIn_169
  refine KE3_ok ?_
  refine KE3_if ?_ ?_
  · skip
    exact (e3_B_X8_builtIn_192 h_ro).tr je3_rf
  · skip
    exact (e3_B_X8_builtIn_192 h_ro).tr je3_rf
theorem e3_B_X8_builtIn_152 {N : Nat} {ro : Nat → Nat → Int32 → Int32 → CSt → Option (Sum Nat Int32 × CSt)} {l1 : Nat} {l2 : Int32} {s0 : Int32} {u : CSt} (h_ro : ∀ q z a b u, KE3 (ro q z a b u) u) : KE3 (B_X8_builtIn_152 N ro l1 l2 s0 u) u := by
  unfold B_X8_builtIn_152
  refine KE3_if ?_ ?_
  · skip
    exact (e3_B_X8_builtIn_169 h_ro).tr je3_rf
  · skip
    exact (e3_B_X8_builtIn_169 h_ro).tr je3_rf
theorem e3_B_X8_builtIn_135 {N : Nat} {ro : Nat → Nat → Int32 → Int32 → CSt → Option (Sum Nat Int32 × CSt)} {l1 : Nat} {l2 : Int32} {l3 : Int32} {l4 : Int32} {s0 : Int32} {u : CSt} (h_ro : ∀ q z a b u, KE3 (ro q z a b u) u) : KE3 (B_X8_builtIn_135 N ro l1 l2 l3 l4 s0 u) u := by
  unfold B_X8_builtIn_135
  refine KE3_if ?_ ?_
  · skip
    exact (e3_B_X8_builtIn_152 h_ro).tr je3_rf
  · skip
    exact (e3_B_X8_builtIn_152 h_ro).tr je3_rf
theorem e3_B_X8_builtIn_130 {N : Nat} {ro : Nat → Nat → Int32 → Int32 → CSt → Option (Sum Nat Int32 × CSt)} {l1 : Nat} {l2 : Int32} {l3 : Int32} {l4 : Int32} {u : CSt} (h_ro : ∀ q z a b u, KE3 (ro q z a b u) u) : KE3 (B_X8_builtIn_130 N ro l1 l2 l3 l4 u) u := by
  unfold B_X8_builtIn_130
  exact (e3_B_X8_builtIn_135 h_ro).tr je3_rf
theorem e3_B_X8_builtIn_112 {N : Nat} {ro : Nat → Nat → Int32 → Int32 → CSt → Option (Sum Nat Int32 × CSt)} {l1 : Nat} {l2 : Int32} {l3 : Int32} {l4 : Int32} {u : CSt} (h_ro : ∀ q z a b u, KE3 (ro q z a b u) u) : KE3 (B_X8_builtIn_112 N ro l1 l2 l3 l4 u) u := by
  unfold B_X8_builtIn_112
  refine KE3_if ?_ ?_
  · skip
    exact (e3_B_X8_builtIn_130 h_ro).tr je3_rf
  · skip
    refine KE3_if ?_ ?_
    · skip
      exact (e3_B_X8_builtIn_130 h_ro).tr je3_rf
    · skip
      exact (e3_B_X8_builtIn_135 h_ro).tr je3_rf
theorem e3_B_X8_builtIn_87 {N : Nat} {ro : Nat → Nat → Int32 → Int32 → CSt → Option (Sum Nat Int32 × CSt)} {l1 : Nat} {l2 : Int32} {l3 : Int32} {l4 : Int32} {l5 : Int32} {u : CSt} (h_ro : ∀ q z a b u, KE3 (ro q z a b u) u) : KE3 (B_X8_builtIn_87 N ro l1 l2 l3 l4 l5 u) u := by
  unfold B_X8_builtIn_87
  refine KE3_bc (e3_F_X9_next.tr je3_rf) (fun _ _ => ?_)
  refine KE3_if ?_ ?_
  · skip
    exact (e3_B_X8_builtIn_112 h_ro).tr je3_rf
  · skip
    refine KE3_bt (e3_F_X9_refuse.tr je3_rf) (fun _ _ => ?_)
    exact (e3_B_X8_builtIn_112 h_ro).tr je3_rf
theorem e3_B_X8_builtIn_22 {N : Nat} {ro : Nat → Nat → Int32 → Int32 → CSt → Option (Sum Nat Int32 × CSt)} {R_22 : Nat × Int32 × Int32 × Int32 × Int32 × CSt → Option ((Sum Nat Int32) × CSt)} {l1 : Nat} {l2 : Int32} {l3 : Int32} {l4 : Int32} {l5 : Int32} {u : CSt} (h_ro : ∀ q z a b u, KE3 (ro q z a b u) u) (h_R_22 : ∀ a, KE3 (R_22 a) a.2.2.2.2.2) : KE3 (B_X8_builtIn_22 N ro R_22 l1 l2 l3 l4 l5 u) u := by
  unfold B_X8_builtIn_22
  refine KE3_if ?_ ?_
  · skip
    exact (e3_B_X8_builtIn_87 h_ro).tr je3_rf
  · skip
    refine KE3_bc (e3_F_X9_is.tr je3_rf) (fun _ _ => ?_)
    refine KE3_if ?_ ?_
    · skip
      refine KE3_if ?_ ?_
      · skip
        exact (e3_B_X8_builtIn_54 h_ro h_R_22).tr je3_rf
      · skip
        refine KE3_bc (e3_F_X9_next.tr je3_rf) (fun _ _ => ?_)
        exact (e3_B_X8_builtIn_54 h_ro h_R_22).tr je3_rf
    · skip
      exact (e3_B_X8_builtIn_87 h_ro).tr je3_rf
theorem e3_LP_X8_builtIn_22 {N : Nat} {ro : Nat → Nat → Int32 → Int32 → CSt → Option (Sum Nat Int32 × CSt)} (h_ro : ∀ q z a b u, KE3 (ro q z a b u) u) (n : Nat) : ∀ a : Nat × Int32 × Int32 × Int32 × Int32 × CSt, KE3 (LP_X8_builtIn_22 N ro n a) a.2.2.2.2.2 := by
  induction n with
  | zero => exact fun a r z e => by have e : (none : Option _) = some (r, z) := e; cases e
  | succ n ih =>
    intro a
    show KE3 (B_X8_builtIn_22 N ro (LP_X8_builtIn_22 N ro n) a.1 a.2.1 a.2.2.1 a.2.2.2.1 a.2.2.2.2.1 a.2.2.2.2.2) a.2.2.2.2.2
    exact e3_B_X8_builtIn_22 h_ro ih
theorem e3_B_X8_builtIn_0 {N : Nat} {ro : Nat → Nat → Int32 → Int32 → CSt → Option (Sum Nat Int32 × CSt)} {l1 : Nat} {l2 : Int32} {u : CSt} (h_ro : ∀ q z a b u, KE3 (ro q z a b u) u) : KE3 (B_X8_builtIn_0 N ro l1 l2 u) u := by
  unfold B_X8_builtIn_0
  refine KE3_bc (e3_F_X9_next.tr je3_rf) (fun _ _ => ?_)
  refine KE3_bc (e3_F_X9_next.tr je3_rf) (fun _ _ => ?_)
  exact (e3_LP_X8_builtIn_22 h_ro _ _).tr je3_rf
theorem e3_F_X8_builtIn {N : Nat} {ro : Nat → Nat → Int32 → Int32 → CSt → Option (Sum Nat Int32 × CSt)} {l1 : Nat} {l2 : Int32} {u : CSt} (h_ro : ∀ q z a b u, KE3 (ro q z a b u) u) : KE3 (F_X8_builtIn N ro l1 l2 u) u := by
  unfold F_X8_builtIn
  exact (e3_B_X8_builtIn_0 h_ro).tr je3_rf
theorem e3_B_X8_arguments_147 {N : Nat} {ro : Nat → Nat → Int32 → Int32 → CSt → Option (Sum Nat Int32 × CSt)} {R_17 : Nat × Int32 × Int32 × Int32 × CSt → Option ((Sum Nat Int32) × CSt)} {l1 : Nat} {l2 : Int32} {l3 : Int32} {l4 : Int32} {u : CSt} (h_ro : ∀ q z a b u, KE3 (ro q z a b u) u) (h_R_17 : ∀ a, KE3 (R_17 a) a.2.2.2.2) : KE3 (B_X8_arguments_147 N ro R_17 l1 l2 l3 l4 u) u := by
  unfold B_X8_arguments_147
  exact (h_R_17 _).tr je3_rf
theorem e3_B_X8_arguments_109 {N : Nat} {ro : Nat → Nat → Int32 → Int32 → CSt → Option (Sum Nat Int32 × CSt)} {R_17 : Nat × Int32 × Int32 × Int32 × CSt → Option ((Sum Nat Int32) × CSt)} {l1 : Nat} {l2 : Int32} {l3 : Int32} {l4 : Int32} {l5 : Int32} {l7 : Nat} {u : CSt} (h_ro : ∀ q z a b u, KE3 (ro q z a b u) u) (h_R_17 : ∀ a, KE3 (R_17 a) a.2.2.2.2) : KE3 (B_X8_arguments_109 N ro R_17 l1 l2 l3 l4 l5 l7 u) u := by
  unfold B_X8_arguments_109
  refine KE3_if ?_ ?_
  · skip
    refine KE3_if ?_ ?_
    · skip
      exact (e3_B_X8_arguments_147 h_ro h_R_17).tr je3_rf
    · skip
      refine KE3_ok ?_
      refine KE3_bc (e3_F_X6_step.tr je3_rf) (fun _ _ => ?_)
      exact (e3_B_X8_arguments_147 h_ro h_R_17).tr je3_rf
  · skip
    exact (e3_B_X8_arguments_147 h_ro h_R_17).tr je3_rf
theorem e3_B_X8_arguments_49 {N : Nat} {ro : Nat → Nat → Int32 → Int32 → CSt → Option (Sum Nat Int32 × CSt)} {R_17 : Nat × Int32 × Int32 × Int32 × CSt → Option ((Sum Nat Int32) × CSt)} {l1 : Nat} {l2 : Int32} {l3 : Int32} {l4 : Int32} {u : CSt} (h_ro : ∀ q z a b u, KE3 (ro q z a b u) u) (h_R_17 : ∀ a, KE3 (R_17 a) a.2.2.2.2) : KE3 (B_X8_arguments_49 N ro R_17 l1 l2 l3 l4 u) u := by
  unfold B_X8_arguments_49
  refine KE3_bc (e3_F_X9_here.tr je3_rf) (fun _ _ => ?_)
  refine KE3_bt ((h_ro _ _ _ _ _).tr je3_rf) (fun _ _ => ?_)
  refine KE3_ok ?_
  refine KE3_bc (e3_F_X6_local.tr je3_rf) (fun _ _ => ?_)
  refine KE3_ok ?_
  refine KE3_if ?_ ?_
  · skip
    refine KE3_bc (e3_F_X8_isTooWide.tr je3_rf) (fun _ _ => ?_)
    refine KE3_if ?_ ?_
    · skip
      exact (e3_B_X8_arguments_109 h_ro h_R_17).tr je3_rf
    · skip
      refine KE3_bt (e3_F_X9_refuse.tr je3_rf) (fun _ _ => ?_)
      exact (e3_B_X8_arguments_109 h_ro h_R_17).tr je3_rf
  · skip
    exact (e3_B_X8_arguments_109 h_ro h_R_17).tr je3_rf
theorem e3_B_X8_arguments_153 {N : Nat} {ro : Nat → Nat → Int32 → Int32 → CSt → Option (Sum Nat Int32 × CSt)} {l1 : Nat} {l3 : Int32} {l4 : Int32} {u : CSt} (h_ro : ∀ q z a b u, KE3 (ro q z a b u) u) : KE3 (B_X8_arguments_153 N ro l1 l3 l4 u) u := by
  unfold B_X8_arguments_153
  refine KE3_bc (e3_F_X9_next.tr je3_rf) (fun _ _ => ?_)
  refine KE3_if ?_ ?_
  · skip
    exact KE3_some je3_rf
  · skip
    refine KE3_bt (e3_F_X9_refuse.tr je3_rf) (fun _ _ => ?_)
    exact KE3_some je3_rf
theorem e3_B_X8_arguments_17 {N : Nat} {ro : Nat → Nat → Int32 → Int32 → CSt → Option (Sum Nat Int32 × CSt)} {R_17 : Nat × Int32 × Int32 × Int32 × CSt → Option ((Sum Nat Int32) × CSt)} {l1 : Nat} {l2 : Int32} {l3 : Int32} {l4 : Int32} {u : CSt} (h_ro : ∀ q z a b u, KE3 (ro q z a b u) u) (h_R_17 : ∀ a, KE3 (R_17 a) a.2.2.2.2) : KE3 (B_X8_arguments_17 N ro R_17 l1 l2 l3 l4 u) u := by
  unfold B_X8_arguments_17
  refine KE3_if ?_ ?_
  · skip
    exact (e3_B_X8_arguments_153 h_ro).tr je3_rf
  · skip
    refine KE3_bc (e3_F_X9_is.tr je3_rf) (fun _ _ => ?_)
    refine KE3_if ?_ ?_
    · skip
      refine KE3_if ?_ ?_
      · skip
        exact (e3_B_X8_arguments_49 h_ro h_R_17).tr je3_rf
      · skip
        refine KE3_bc (e3_F_X9_next.tr je3_rf) (fun _ _ => ?_)
        exact (e3_B_X8_arguments_49 h_ro h_R_17).tr je3_rf
    · skip
      exact (e3_B_X8_arguments_153 h_ro).tr je3_rf
theorem e3_LP_X8_arguments_17 {N : Nat} {ro : Nat → Nat → Int32 → Int32 → CSt → Option (Sum Nat Int32 × CSt)} (h_ro : ∀ q z a b u, KE3 (ro q z a b u) u) (n : Nat) : ∀ a : Nat × Int32 × Int32 × Int32 × CSt, KE3 (LP_X8_arguments_17 N ro n a) a.2.2.2.2 := by
  induction n with
  | zero => exact fun a r z e => by have e : (none : Option _) = some (r, z) := e; cases e
  | succ n ih =>
    intro a
    show KE3 (B_X8_arguments_17 N ro (LP_X8_arguments_17 N ro n) a.1 a.2.1 a.2.2.1 a.2.2.2.1 a.2.2.2.2) a.2.2.2.2
    exact e3_B_X8_arguments_17 h_ro ih
theorem e3_B_X8_arguments_0 {N : Nat} {ro : Nat → Nat → Int32 → Int32 → CSt → Option (Sum Nat Int32 × CSt)} {l1 : Nat} {l2 : Int32} {l3 : Int32} {u : CSt} (h_ro : ∀ q z a b u, KE3 (ro q z a b u) u) : KE3 (B_X8_arguments_0 N ro l1 l2 l3 u) u := by
  unfold B_X8_arguments_0
  refine KE3_bc (e3_F_X9_next.tr je3_rf) (fun _ _ => ?_)
  refine KE3_bc (e3_F_X9_next.tr je3_rf) (fun _ _ => ?_)
  exact (e3_LP_X8_arguments_17 h_ro _ _).tr je3_rf
theorem e3_F_X8_arguments {N : Nat} {ro : Nat → Nat → Int32 → Int32 → CSt → Option (Sum Nat Int32 × CSt)} {l1 : Nat} {l2 : Int32} {l3 : Int32} {u : CSt} (h_ro : ∀ q z a b u, KE3 (ro q z a b u) u) : KE3 (F_X8_arguments N ro l1 l2 l3 u) u := by
  unfold F_X8_arguments
  exact (e3_B_X8_arguments_0 h_ro).tr je3_rf
theorem e3_B_X8_index_22 {N : Nat} {ro : Nat → Nat → Int32 → Int32 → CSt → Option (Sum Nat Int32 × CSt)} {l1 : Nat} {l2 : Int32} {s0 : Nat} {s1 : Int32} {u : CSt} (h_ro : ∀ q z a b u, KE3 (ro q z a b u) u) : KE3 (B_X8_index_22 N ro l1 l2 s0 s1 u) u := by
  unfold B_X8_index_22
  refine KE3_bc (e3_F_X6_step.tr je3_rf) (fun _ _ => ?_)
  exact KE3_some je3_rf
theorem e3_B_X8_index_0 {N : Nat} {ro : Nat → Nat → Int32 → Int32 → CSt → Option (Sum Nat Int32 × CSt)} {l1 : Nat} {l2 : Int32} {u : CSt} (h_ro : ∀ q z a b u, KE3 (ro q z a b u) u) : KE3 (B_X8_index_0 N ro l1 l2 u) u := by
  unfold B_X8_index_0
  refine KE3_bt ((h_ro _ _ _ _ _).tr je3_rf) (fun _ _ => ?_)
  refine KE3_ok ?_
  refine KE3_bc (e3_F_X4_isLocal.tr je3_rf) (fun _ _ => ?_)
  refine KE3_if ?_ ?_
  · skip
    exact (e3_B_X8_index_22 h_ro).tr je3_rf
  · skip
    exact (e3_B_X8_index_22 h_ro).tr je3_rf
theorem e3_F_X8_index {N : Nat} {ro : Nat → Nat → Int32 → Int32 → CSt → Option (Sum Nat Int32 × CSt)} {l1 : Nat} {l2 : Int32} {u : CSt} (h_ro : ∀ q z a b u, KE3 (ro q z a b u) u) : KE3 (F_X8_index N ro l1 l2 u) u := by
  unfold F_X8_index
  exact (e3_B_X8_index_0 h_ro).tr je3_rf
theorem e3_B_X8_indexNumber_32 {N : Nat} {ro : Nat → Nat → Int32 → Int32 → CSt → Option (Sum Nat Int32 × CSt)} {u : CSt} (h_ro : ∀ q z a b u, KE3 (ro q z a b u) u) : KE3 (B_X8_indexNumber_32 N ro u) u := by
  unfold B_X8_indexNumber_32
  refine KE3_bc (e3_F_X9_next.tr je3_rf) (fun _ _ => ?_)
  exact KE3_some je3_rf
theorem e3_B_X8_indexNumber_0 {N : Nat} {ro : Nat → Nat → Int32 → Int32 → CSt → Option (Sum Nat Int32 × CSt)} {u : CSt} (h_ro : ∀ q z a b u, KE3 (ro q z a b u) u) : KE3 (B_X8_indexNumber_0 N ro u) u := by
  unfold B_X8_indexNumber_0
  refine KE3_bc (e3_F_X9_next.tr je3_rf) (fun _ _ => ?_)
  refine KE3_bc (e3_F_X9_here.tr je3_rf) (fun _ _ => ?_)
  refine KE3_bt ((h_ro _ _ _ _ _).tr je3_rf) (fun _ _ => ?_)
  refine KE3_if ?_ ?_
  · skip
    refine KE3_bt (e3_F_X9_refuse.tr je3_rf) (fun _ _ => ?_)
    exact (e3_B_X8_indexNumber_32 h_ro).tr je3_rf
  · skip
    exact (e3_B_X8_indexNumber_32 h_ro).tr je3_rf
theorem e3_F_X8_indexNumber {N : Nat} {ro : Nat → Nat → Int32 → Int32 → CSt → Option (Sum Nat Int32 × CSt)} {u : CSt} (h_ro : ∀ q z a b u, KE3 (ro q z a b u) u) : KE3 (F_X8_indexNumber N ro u) u := by
  unfold F_X8_indexNumber
  exact (e3_B_X8_indexNumber_0 h_ro).tr je3_rf
theorem e3_FTE_ {N : Nat} : ∀ (d q z : Nat) (a b : Int32) (u : CSt), KE3 (FTE_ N d q z a b u) u := by
  intro d
  induction d with
  | zero => exact fun q z a b u => KE3_none
  | succ d ih =>
    intro q z a b u
    show KE3 (if q = 0 then F_X8_expression N (FTE_ N d) u else if q = 1 then F_X8_operators N (FTE_ N d) u else if q = 2 then F_X8_operand N (FTE_ N d) u else if q = 3 then F_X8_signed N (FTE_ N d) a u else if q = 4 then F_X8_bracket N (FTE_ N d) a u else if q = 5 then F_X8_named N (FTE_ N d) a u else if q = 6 then F_X8_ofPlace N (FTE_ N d) a u else if q = 7 then F_X8_ofInstance N (FTE_ N d) a u else if q = 8 then F_X8_called N (FTE_ N d) a u else if q = 9 then F_X8_builtIn N (FTE_ N d) z a u else if q = 10 then F_X8_arguments N (FTE_ N d) z a b u else if q = 11 then F_X8_index N (FTE_ N d) z a u else if q = 12 then F_X8_indexNumber N (FTE_ N d) u else none) u
    refine KE3_if (e3_F_X8_expression ih) ?_
    refine KE3_if (e3_F_X8_operators ih) ?_
    refine KE3_if (e3_F_X8_operand ih) ?_
    refine KE3_if (e3_F_X8_signed ih) ?_
    refine KE3_if (e3_F_X8_bracket ih) ?_
    refine KE3_if (e3_F_X8_named ih) ?_
    refine KE3_if (e3_F_X8_ofPlace ih) ?_
    refine KE3_if (e3_F_X8_ofInstance ih) ?_
    refine KE3_if (e3_F_X8_called ih) ?_
    refine KE3_if (e3_F_X8_builtIn ih) ?_
    refine KE3_if (e3_F_X8_arguments ih) ?_
    refine KE3_if (e3_F_X8_index ih) ?_
    refine KE3_if (e3_F_X8_indexNumber ih) ?_
    exact KE3_none
theorem e3_G_X8_expression {N : Nat} {u : CSt} : KE3 (G_X8_expression N u) u := e3_FTE_ _ _ _ _ _ _
theorem e3_G_X8_arguments {N : Nat} {l1 : Nat} {l2 : Int32} {l3 : Int32} {u : CSt} : KE3 (G_X8_arguments N l1 l2 l3 u) u := e3_FTE_ _ _ _ _ _ _
theorem e3_G_X8_index {N : Nat} {l1 : Nat} {l2 : Int32} {u : CSt} : KE3 (G_X8_index N l1 l2 u) u := e3_FTE_ _ _ _ _ _ _
theorem e3_B_X3_newName_108 {N : Nat} {l1 : Int32} {l3 : Int64} {l5 : Int32} {u : CSt}  : KE3 (B_X3_newName_108 N l1 l3 l5 u) u := by
  unfold B_X3_newName_108
  refine KE3_bc (e3_F_X9_next.tr je3_rf) (fun _ _ => ?_)
  refine KE3_ok ?_
  refine KE3_bc (e3_F_X6_add.tr je3_rf) (fun _ _ => ?_)
  refine KE3_ok ?_
  exact KE3_some je3_rf
theorem e3_B_X3_newName_88 {N : Nat} {l1 : Int32} {l2 : Int32} {l3 : Int64} {l5 : Int32} {u : CSt}  : KE3 (B_X3_newName_88 N l1 l2 l3 l5 u) u := by
  unfold B_X3_newName_88
  refine KE3_ok ?_
  refine KE3_bc (e3_F_X6_hasRoomFor.tr je3_rf) (fun _ _ => ?_)
  refine KE3_if ?_ ?_
  · skip
    refine KE3_bt (e3_F_X9_refuse.tr je3_rf) (fun _ _ => ?_)
    exact e3_B_X3_newName_108.tr je3_rf
  · skip
    exact e3_B_X3_newName_108.tr je3_rf
theorem e3_B_X3_newName_67 {N : Nat} {l1 : Int32} {l2 : Int32} {l3 : Int64} {l5 : Int32} {s0 : Nat} {u : CSt}  : KE3 (B_X3_newName_67 N l1 l2 l3 l5 s0 u) u := by
  unfold B_X3_newName_67
  refine KE3_if ?_ ?_
  · skip
    exact e3_B_X3_newName_88.tr je3_rf
  · skip
    refine KE3_bt (e3_F_X9_refuse.tr je3_rf) (fun _ _ => ?_)
    exact e3_B_X3_newName_88.tr je3_rf
theorem e3_B_X3_newName_0 {N : Nat} {l1 : Int32} {u : CSt}  : KE3 (B_X3_newName_0 N l1 u) u := by
  unfold B_X3_newName_0
  refine KE3_bc (e3_F_X9_here.tr je3_rf) (fun _ _ => ?_)
  refine KE3_bc (e3_F_X9_head.tr je3_rf) (fun _ _ => ?_)
  refine KE3_bc (e3_F_X9_tail.tr je3_rf) (fun _ _ => ?_)
  refine KE3_if ?_ ?_
  · skip
    refine KE3_ok ?_
    refine KE3_bc (e3_F_X6_name.tr je3_rf) (fun _ _ => ?_)
    refine KE3_ok ?_
    refine KE3_bc (e3_F_X6_localCalled.tr je3_rf) (fun _ _ => ?_)
    refine KE3_ok ?_
    exact e3_B_X3_newName_67.tr je3_rf
  · skip
    refine KE3_ok ?_
    refine KE3_bc (e3_F_X6_ofText.tr je3_rf) (fun _ _ => ?_)
    refine KE3_ok ?_
    exact e3_B_X3_newName_67.tr je3_rf
theorem e3_F_X3_newName {N : Nat} {l1 : Int32} {u : CSt}  : KE3 (F_X3_newName N l1 u) u := by
  unfold F_X3_newName
  exact e3_B_X3_newName_0.tr je3_rf
theorem e3_B_X3_allot_0 {N : Nat} {l1 : Int32} {l2 : Int32} {l3 : Int32} {u : CSt}  : KE3 (B_X3_allot_0 N l1 l2 l3 u) u := by
  unfold B_X3_allot_0
  refine KE3_rd (fun _ => ?_)
  refine KE3_wc ?_
  refine KE3_pc ?_
  refine KE3_rd (fun _ => ?_)
  refine KE3_if ?_ ?_
  · skip
    exact KE3_some (fe3_xI (by decide) (fe3_xA (by decide) je3_rf))
  · skip
    refine KE3_bt (e3_F_X9_refuse.tr (fe3_xI (by decide) (fe3_xA (by decide) je3_rf))) (fun _ _ => ?_)
    exact KE3_some je3_rf
theorem e3_F_X3_allot {N : Nat} {l1 : Int32} {l2 : Int32} {l3 : Int32} {u : CSt}  : KE3 (F_X3_allot N l1 l2 l3 u) u := by
  unfold F_X3_allot
  exact e3_B_X3_allot_0.tr je3_rf
theorem e3_B_X3_join_64 {N : Nat} {l2 : Int32} {l3 : Nat} {s0 : Nat} {s1 : Int32} {s2 : Int32} {u : CSt}  : KE3 (B_X3_join_64 N l2 l3 s0 s1 s2 u) u := by
  unfold B_X3_join_64
  refine KE3_pc ?_
  refine KE3_if ?_ ?_
  · skip
    exact KE3_some (fe3_xmI je3_rf)
  · skip
    refine KE3_bt (e3_F_X9_refuse.tr (fe3_xmI je3_rf)) (fun _ _ => ?_)
    exact KE3_some je3_rf
theorem e3_B_X3_join_0 {N : Nat} {l1 : Nat} {l2 : Int32} {u : CSt}  : KE3 (B_X3_join_0 N l1 l2 u) u := by
  unfold B_X3_join_0
  refine KE3_ok ?_
  refine KE3_bc (e3_F_X6_name.tr je3_rf) (fun _ _ => ?_)
  refine KE3_ok ?_
  refine KE3_pc ?_
  refine KE3_pc ?_
  refine KE3_pc ?_
  refine KE3_if ?_ ?_
  · skip
    exact e3_B_X3_join_64.tr (fe3_xmI (fe3_xmI (fe3_xmI je3_rf)))
  · skip
    exact e3_B_X3_join_64.tr (fe3_xmI (fe3_xmI (fe3_xmI je3_rf)))
theorem e3_F_X3_join {N : Nat} {l1 : Nat} {l2 : Int32} {u : CSt}  : KE3 (F_X3_join N l1 l2 u) u := by
  unfold F_X3_join
  exact e3_B_X3_join_0.tr je3_rf
theorem e3_B_X3_constant_60 {N : Nat} {l1 : Int32} {l3 : Int32} {l5 : Int64} {u : CSt}  : KE3 (B_X3_constant_60 N l1 l3 l5 u) u := by
  unfold B_X3_constant_60
  refine KE3_if ?_ ?_
  · skip
    refine KE3_bt (e3_F_X9_refuse.tr je3_rf) (fun _ _ => ?_)
    exact KE3_some je3_rf
  · skip
    exact KE3_some je3_rf
theorem e3_B_X3_constant_21 {N : Nat} {l1 : Int32} {l2 : Int32} {u : CSt}  : KE3 (B_X3_constant_21 N l1 l2 u) u := by
  unfold B_X3_constant_21
  refine KE3_bc (e3_F_X9_here.tr je3_rf) (fun _ _ => ?_)
  refine KE3_bc (e3_F_X9_isWide.tr je3_rf) (fun _ _ => ?_)
  refine KE3_bt (e3_F_X9_takeNumber.tr je3_rf) (fun _ _ => ?_)
  refine KE3_if ?_ ?_
  · skip
    exact e3_B_X3_constant_60.tr je3_rf
  · skip
    exact e3_B_X3_constant_60.tr je3_rf
theorem e3_B_X3_constant_0 {N : Nat} {l1 : Int32} {u : CSt}  : KE3 (B_X3_constant_0 N l1 u) u := by
  unfold B_X3_constant_0
  refine KE3_bc (e3_F_X9_is.tr je3_rf) (fun _ _ => ?_)
  refine KE3_if ?_ ?_
  · skip
    exact e3_B_X3_constant_21.tr je3_rf
  · skip
    refine KE3_bc (e3_F_X9_next.tr je3_rf) (fun _ _ => ?_)
    exact e3_B_X3_constant_21.tr je3_rf
theorem e3_F_X3_constant {N : Nat} {l1 : Int32} {u : CSt}  : KE3 (F_X3_constant N l1 u) u := by
  unfold F_X3_constant
  exact e3_B_X3_constant_0.tr je3_rf
theorem e3_B_X3_oneVariable_112 {N : Nat} {l1 : Int32} {l3 : Int32} {l4 : Int32} {l5 : Nat} {u : CSt}  : KE3 (B_X3_oneVariable_112 N l1 l3 l4 l5 u) u := by
  unfold B_X3_oneVariable_112
  refine KE3_if ?_ ?_
  · skip
    refine KE3_pc ?_
    refine KE3_bt (e3_F_X3_allot.tr (fe3_xmI je3_rf)) (fun _ _ => ?_)
    exact KE3_some je3_rf
  · skip
    refine KE3_bt (e3_F_X3_join.tr je3_rf) (fun _ _ => ?_)
    exact KE3_some je3_rf
theorem e3_B_X3_oneVariable_83 {N : Nat} {l1 : Int32} {l3 : Int32} {l4 : Int32} {l5 : Nat} {u : CSt}  : KE3 (B_X3_oneVariable_83 N l1 l3 l4 l5 u) u := by
  unfold B_X3_oneVariable_83
  refine KE3_bc (e3_F_X9_is.tr je3_rf) (fun _ _ => ?_)
  refine KE3_if ?_ ?_
  · skip
    exact e3_B_X3_oneVariable_112.tr je3_rf
  · skip
    refine KE3_bc (e3_F_X9_next.tr je3_rf) (fun _ _ => ?_)
    refine KE3_bt (e3_F_X3_constant.tr je3_rf) (fun _ _ => ?_)
    refine KE3_pc ?_
    exact e3_B_X3_oneVariable_112.tr (fe3_xmL je3_rf)
theorem e3_B_X3_oneVariable_0 {N : Nat} {l1 : Int32} {l2 : Int32} {l3 : Int32} {u : CSt}  : KE3 (B_X3_oneVariable_0 N l1 l2 l3 u) u := by
  unfold B_X3_oneVariable_0
  refine KE3_bc (e3_F_X9_here.tr je3_rf) (fun _ _ => ?_)
  refine KE3_bt (e3_F_X3_newName.tr je3_rf) (fun _ _ => ?_)
  refine KE3_ok ?_
  refine KE3_pc ?_
  refine KE3_pc ?_
  refine KE3_pc ?_
  refine KE3_bc (e3_F_X9_is.tr (fe3_xmI (fe3_xmI (fe3_xmI je3_rf)))) (fun _ _ => ?_)
  refine KE3_if ?_ ?_
  · skip
    exact e3_B_X3_oneVariable_83.tr je3_rf
  · skip
    refine KE3_bc (e3_F_X9_next.tr je3_rf) (fun _ _ => ?_)
    refine KE3_pc ?_
    refine KE3_bt (e3_F_X9_takeBounded.tr (fe3_xmI je3_rf)) (fun _ _ => ?_)
    refine KE3_pc ?_
    refine KE3_bc (e3_F_X9_next.tr (fe3_xmI je3_rf)) (fun _ _ => ?_)
    exact e3_B_X3_oneVariable_83.tr je3_rf
theorem e3_F_X3_oneVariable {N : Nat} {l1 : Int32} {l2 : Int32} {l3 : Int32} {u : CSt}  : KE3 (F_X3_oneVariable N l1 l2 l3 u) u := by
  unfold F_X3_oneVariable
  exact e3_B_X3_oneVariable_0.tr je3_rf
theorem e3_B_X3_variables_58 {N : Nat} {u : CSt}  : KE3 (B_X3_variables_58 N u) u := by
  unfold B_X3_variables_58
  refine KE3_bc (e3_F_X9_next.tr je3_rf) (fun _ _ => ?_)
  exact KE3_some je3_rf
theorem e3_B_X3_variables_18 {N : Nat} {R_18 : Int32 × Int32 × Int32 × Int32 × CSt → Option ((Sum Nat Int32) × CSt)} {l1 : Int32} {l2 : Int32} {l3 : Int32} {l4 : Int32} {u : CSt} (h_R_18 : ∀ a, KE3 (R_18 a) a.2.2.2.2) : KE3 (B_X3_variables_18 N R_18 l1 l2 l3 l4 u) u := by
  unfold B_X3_variables_18
  refine KE3_if ?_ ?_
  · skip
    exact e3_B_X3_variables_58.tr je3_rf
  · skip
    refine KE3_bc (e3_F_X9_is.tr je3_rf) (fun _ _ => ?_)
    refine KE3_if ?_ ?_
    · skip
      exact e3_B_X3_variables_58.tr je3_rf
    · skip
      refine KE3_bc (e3_F_X9_next.tr je3_rf) (fun _ _ => ?_)
      refine KE3_bt (e3_F_X3_oneVariable.tr je3_rf) (fun _ _ => ?_)
      exact (h_R_18 _).tr je3_rf
theorem e3_LP_X3_variables_18 {N : Nat}  (n : Nat) : ∀ a : Int32 × Int32 × Int32 × Int32 × CSt, KE3 (LP_X3_variables_18 N n a) a.2.2.2.2 := by
  induction n with
  | zero => exact fun a r z e => by have e : (none : Option _) = some (r, z) := e; cases e
  | succ n ih =>
    intro a
    show KE3 (B_X3_variables_18 N (LP_X3_variables_18 N n) a.1 a.2.1 a.2.2.1 a.2.2.2.1 a.2.2.2.2) a.2.2.2.2
    exact e3_B_X3_variables_18 ih
theorem e3_B_X3_variables_0 {N : Nat} {l1 : Int32} {l2 : Int32} {u : CSt}  : KE3 (B_X3_variables_0 N l1 l2 u) u := by
  unfold B_X3_variables_0
  refine KE3_bc (e3_F_X9_takeKind.tr je3_rf) (fun _ _ => ?_)
  refine KE3_bt (e3_F_X3_oneVariable.tr je3_rf) (fun _ _ => ?_)
  exact (e3_LP_X3_variables_18  _ _).tr je3_rf
theorem e3_F_X3_variables {N : Nat} {l1 : Int32} {l2 : Int32} {u : CSt}  : KE3 (F_X3_variables N l1 l2 u) u := by
  unfold F_X3_variables
  exact e3_B_X3_variables_0.tr je3_rf
theorem e3_B_X3_placed_0 {N : Nat} {l1 : Int32} {u : CSt}  : KE3 (B_X3_placed_0 N l1 u) u := by
  unfold B_X3_placed_0
  refine KE3_bc (e3_F_X9_takeKind.tr je3_rf) (fun _ _ => ?_)
  refine KE3_bt (e3_F_X3_newName.tr je3_rf) (fun _ _ => ?_)
  refine KE3_ok ?_
  refine KE3_pc ?_
  refine KE3_pc ?_
  refine KE3_pc ?_
  refine KE3_bc (e3_F_X9_next.tr (fe3_xmI (fe3_xmI (fe3_xmI je3_rf)))) (fun _ _ => ?_)
  refine KE3_rd (fun _ => ?_)
  refine KE3_bt (e3_F_X9_takeBounded.tr je3_rf) (fun _ _ => ?_)
  refine KE3_pc ?_
  refine KE3_bc (e3_F_X9_next.tr (fe3_xmI je3_rf)) (fun _ _ => ?_)
  exact KE3_some je3_rf
theorem e3_F_X3_placed {N : Nat} {l1 : Int32} {u : CSt}  : KE3 (F_X3_placed N l1 u) u := by
  unfold F_X3_placed
  exact e3_B_X3_placed_0.tr je3_rf
theorem e3_B_X3_oneUse_33 {N : Nat} {R_33 : Nat × Int32 × Int32 × CSt → Option ((Sum Nat Int32) × CSt)} {l1 : Nat} {l2 : Int32} {l4 : Int32} {u : CSt} (h_R_33 : ∀ a, KE3 (R_33 a) a.2.2.2) : KE3 (B_X3_oneUse_33 N R_33 l1 l2 l4 u) u := by
  unfold B_X3_oneUse_33
  refine KE3_if ?_ ?_
  · skip
    exact KE3_some je3_rf
  · skip
    refine KE3_ok ?_
    refine KE3_bc (e3_F_X6_local.tr je3_rf) (fun _ _ => ?_)
    refine KE3_ok ?_
    refine KE3_bt (e3_F_X3_allot.tr je3_rf) (fun _ _ => ?_)
    exact (h_R_33 _).tr je3_rf
theorem e3_LP_X3_oneUse_33 {N : Nat}  (n : Nat) : ∀ a : Nat × Int32 × Int32 × CSt, KE3 (LP_X3_oneUse_33 N n a) a.2.2.2 := by
  induction n with
  | zero => exact fun a r z e => by have e : (none : Option _) = some (r, z) := e; cases e
  | succ n ih =>
    intro a
    show KE3 (B_X3_oneUse_33 N (LP_X3_oneUse_33 N n) a.1 a.2.1 a.2.2.1 a.2.2.2) a.2.2.2
    exact e3_B_X3_oneUse_33 ih
theorem e3_B_X3_oneUse_0 {N : Nat} {l1 : Nat} {u : CSt}  : KE3 (B_X3_oneUse_0 N l1 u) u := by
  unfold B_X3_oneUse_0
  refine KE3_bc (e3_F_X9_here.tr je3_rf) (fun _ _ => ?_)
  refine KE3_bt (e3_F_X3_newName.tr je3_rf) (fun _ _ => ?_)
  refine KE3_ok ?_
  refine KE3_pc ?_
  refine KE3_pc ?_
  exact (e3_LP_X3_oneUse_33  _ _).tr (fe3_xmI (fe3_xmI je3_rf))
theorem e3_F_X3_oneUse {N : Nat} {l1 : Nat} {u : CSt}  : KE3 (F_X3_oneUse N l1 u) u := by
  unfold F_X3_oneUse
  exact e3_B_X3_oneUse_0.tr je3_rf
theorem e3_B_X3_uses_82 {N : Nat} {u : CSt}  : KE3 (B_X3_uses_82 N u) u := by
  unfold B_X3_uses_82
  refine KE3_bc (e3_F_X9_next.tr je3_rf) (fun _ _ => ?_)
  exact KE3_some je3_rf
theorem e3_B_X3_uses_45 {N : Nat} {R_45 : Nat × Int32 × CSt → Option ((Sum Nat Int32) × CSt)} {l1 : Nat} {l2 : Int32} {u : CSt} (h_R_45 : ∀ a, KE3 (R_45 a) a.2.2) : KE3 (B_X3_uses_45 N R_45 l1 l2 u) u := by
  unfold B_X3_uses_45
  refine KE3_if ?_ ?_
  · skip
    exact e3_B_X3_uses_82.tr je3_rf
  · skip
    refine KE3_bc (e3_F_X9_is.tr je3_rf) (fun _ _ => ?_)
    refine KE3_if ?_ ?_
    · skip
      exact e3_B_X3_uses_82.tr je3_rf
    · skip
      refine KE3_bc (e3_F_X9_next.tr je3_rf) (fun _ _ => ?_)
      refine KE3_bt (e3_F_X3_oneUse.tr je3_rf) (fun _ _ => ?_)
      exact (h_R_45 _).tr je3_rf
theorem e3_LP_X3_uses_45 {N : Nat}  (n : Nat) : ∀ a : Nat × Int32 × CSt, KE3 (LP_X3_uses_45 N n a) a.2.2 := by
  induction n with
  | zero => exact fun a r z e => by have e : (none : Option _) = some (r, z) := e; cases e
  | succ n ih =>
    intro a
    show KE3 (B_X3_uses_45 N (LP_X3_uses_45 N n) a.1 a.2.1 a.2.2) a.2.2
    exact e3_B_X3_uses_45 ih
theorem e3_B_X3_uses_31 {N : Nat} {l1 : Nat} {u : CSt}  : KE3 (B_X3_uses_31 N l1 u) u := by
  unfold B_X3_uses_31
  refine KE3_bc (e3_F_X9_next.tr je3_rf) (fun _ _ => ?_)
  refine KE3_bt (e3_F_X3_oneUse.tr je3_rf) (fun _ _ => ?_)
  exact (e3_LP_X3_uses_45  _ _).tr je3_rf
theorem e3_B_X3_uses_0 {N : Nat} {u : CSt}  : KE3 (B_X3_uses_0 N u) u := by
  unfold B_X3_uses_0
  refine KE3_bc (e3_F_X8_known.tr je3_rf) (fun _ _ => ?_)
  refine KE3_ok ?_
  refine KE3_if ?_ ?_
  · skip
    exact e3_B_X3_uses_31.tr je3_rf
  · skip
    refine KE3_bc (e3_F_X9_here.tr je3_rf) (fun _ _ => ?_)
    refine KE3_bt (e3_F_X9_refuse.tr je3_rf) (fun _ _ => ?_)
    exact e3_B_X3_uses_31.tr je3_rf
theorem e3_F_X3_uses {N : Nat} {u : CSt}  : KE3 (F_X3_uses N u) u := by
  unfold F_X3_uses
  exact e3_B_X3_uses_0.tr je3_rf
theorem e3_B_X3_parameter_19 {N : Nat} {u : CSt}  : KE3 (B_X3_parameter_19 N u) u := by
  unfold B_X3_parameter_19
  refine KE3_bc (e3_F_X9_takeKind.tr je3_rf) (fun _ _ => ?_)
  refine KE3_bc (e3_F_X9_here.tr je3_rf) (fun _ _ => ?_)
  refine KE3_bt (e3_F_X3_newName.tr je3_rf) (fun _ _ => ?_)
  refine KE3_ok ?_
  refine KE3_pc ?_
  refine KE3_pc ?_
  refine KE3_bt (e3_F_X3_join.tr (fe3_xmI (fe3_xmI je3_rf))) (fun _ _ => ?_)
  exact KE3_some je3_rf
theorem e3_B_X3_parameter_0 {N : Nat} {u : CSt}  : KE3 (B_X3_parameter_0 N u) u := by
  unfold B_X3_parameter_0
  refine KE3_bc (e3_F_X9_is.tr je3_rf) (fun _ _ => ?_)
  refine KE3_if ?_ ?_
  · skip
    exact e3_B_X3_parameter_19.tr je3_rf
  · skip
    refine KE3_bc (e3_F_X9_next.tr je3_rf) (fun _ _ => ?_)
    exact e3_B_X3_parameter_19.tr je3_rf
theorem e3_F_X3_parameter {N : Nat} {u : CSt}  : KE3 (F_X3_parameter N u) u := by
  unfold F_X3_parameter
  exact e3_B_X3_parameter_0.tr je3_rf
theorem e3_B_X3_put_0 {N : Nat} {l1 : Nat} {l2 : Int32} {u : CSt}  : KE3 (B_X3_put_0 N l1 l2 u) u := by
  unfold B_X3_put_0
  refine KE3_if ?_ ?_
  · skip
    refine KE3_bc (e3_F_X8_set.tr je3_rf) (fun _ _ => ?_)
    exact KE3_some je3_rf
  · skip
    refine KE3_ok ?_
    refine KE3_bc (e3_F_X6_step.tr je3_rf) (fun _ _ => ?_)
    exact KE3_some je3_rf
theorem e3_F_X3_put {N : Nat} {l1 : Nat} {l2 : Int32} {u : CSt}  : KE3 (F_X3_put N l1 l2 u) u := by
  unfold F_X3_put
  exact e3_B_X3_put_0.tr je3_rf
theorem e3_B_X3_setPlain_0 {N : Nat} {l1 : Nat} {u : CSt}  : KE3 (B_X3_setPlain_0 N l1 u) u := by
  unfold B_X3_setPlain_0
  refine KE3_bc (e3_F_X9_here.tr je3_rf) (fun _ _ => ?_)
  refine KE3_bc (e3_F_X9_next.tr je3_rf) (fun _ _ => ?_)
  refine KE3_bt (e3_G_X8_expression.tr je3_rf) (fun _ _ => ?_)
  refine KE3_bc (e3_F_X8_isTooWide.tr je3_rf) (fun _ _ => ?_)
  refine KE3_if ?_ ?_
  · skip
    exact KE3_some je3_rf
  · skip
    refine KE3_bt (e3_F_X9_refuse.tr je3_rf) (fun _ _ => ?_)
    exact KE3_some je3_rf
theorem e3_F_X3_setPlain {N : Nat} {l1 : Nat} {u : CSt}  : KE3 (F_X3_setPlain N l1 u) u := by
  unfold F_X3_setPlain
  exact e3_B_X3_setPlain_0.tr je3_rf
theorem e3_B_X3_setBit_75 {N : Nat} {l1 : Nat} {l2 : Int32} {l3 : Int32} {u : CSt}  : KE3 (B_X3_setBit_75 N l1 l2 l3 u) u := by
  unfold B_X3_setBit_75
  refine KE3_ok ?_
  refine KE3_bc (e3_F_X6_step.tr je3_rf) (fun _ _ => ?_)
  refine KE3_bc (e3_F_X3_put.tr je3_rf) (fun _ _ => ?_)
  exact KE3_some je3_rf
theorem e3_B_X3_setBit_27 {N : Nat} {l1 : Nat} {l2 : Int32} {l3 : Int32} {u : CSt}  : KE3 (B_X3_setBit_27 N l1 l2 l3 u) u := by
  unfold B_X3_setBit_27
  refine KE3_bc (e3_F_X9_next.tr je3_rf) (fun _ _ => ?_)
  refine KE3_bt (e3_G_X8_expression.tr je3_rf) (fun _ _ => ?_)
  refine KE3_if ?_ ?_
  · skip
    refine KE3_bc (e3_F_X8_get.tr je3_rf) (fun _ _ => ?_)
    exact e3_B_X3_setBit_75.tr je3_rf
  · skip
    refine KE3_ok ?_
    refine KE3_bc (e3_F_X6_step.tr je3_rf) (fun _ _ => ?_)
    exact e3_B_X3_setBit_75.tr je3_rf
theorem e3_B_X3_setBit_0 {N : Nat} {l1 : Nat} {l2 : Int32} {l3 : Int32} {u : CSt}  : KE3 (B_X3_setBit_0 N l1 l2 l3 u) u := by
  unfold B_X3_setBit_0
  refine KE3_bc (e3_F_X9_is.tr je3_rf) (fun _ _ => ?_)
  refine KE3_if ?_ ?_
  · skip
    refine KE3_bc (e3_F_X9_here.tr je3_rf) (fun _ _ => ?_)
    refine KE3_bt (e3_F_X9_refuse.tr je3_rf) (fun _ _ => ?_)
    exact e3_B_X3_setBit_27.tr je3_rf
  · skip
    exact e3_B_X3_setBit_27.tr je3_rf
theorem e3_F_X3_setBit {N : Nat} {l1 : Nat} {l2 : Int32} {l3 : Int32} {u : CSt}  : KE3 (F_X3_setBit N l1 l2 l3 u) u := by
  unfold F_X3_setBit
  exact e3_B_X3_setBit_0.tr je3_rf
theorem e3_B_X3_change_98 {N : Nat} {l1 : Nat} {l4 : Int32} {s1 : Int32} {u : CSt}  : KE3 (B_X3_change_98 N l1 l4 s1 u) u := by
  unfold B_X3_change_98
  refine KE3_bc (e3_F_X8_combine.tr je3_rf) (fun _ _ => ?_)
  exact KE3_some je3_rf
theorem e3_B_X3_change_71 {N : Nat} {l1 : Nat} {l3 : Int32} {l4 : Int32} {u : CSt}  : KE3 (B_X3_change_71 N l1 l3 l4 u) u := by
  unfold B_X3_change_71
  refine KE3_ok ?_
  refine KE3_bc (e3_F_X6_constant.tr je3_rf) (fun _ _ => ?_)
  refine KE3_if ?_ ?_
  · skip
    exact e3_B_X3_change_98.tr je3_rf
  · skip
    exact e3_B_X3_change_98.tr je3_rf
theorem e3_B_X3_change_50 {N : Nat} {l1 : Nat} {l3 : Int32} {l4 : Int32} {u : CSt}  : KE3 (B_X3_change_50 N l1 l3 l4 u) u := by
  unfold B_X3_change_50
  refine KE3_bc (e3_F_X9_next.tr je3_rf) (fun _ _ => ?_)
  refine KE3_if ?_ ?_
  · skip
    exact e3_B_X3_change_71.tr je3_rf
  · skip
    refine KE3_if ?_ ?_
    · skip
      exact e3_B_X3_change_71.tr je3_rf
    · skip
      refine KE3_bt (e3_G_X8_expression.tr je3_rf) (fun _ _ => ?_)
      refine KE3_pb (fun _ => ?_)
      refine KE3_bc (e3_F_X8_combine.tr je3_rf) (fun _ _ => ?_)
      exact KE3_some je3_rf
theorem e3_B_X3_change_0 {N : Nat} {l1 : Nat} {l2 : Int32} {u : CSt}  : KE3 (B_X3_change_0 N l1 l2 u) u := by
  unfold B_X3_change_0
  refine KE3_bc (e3_F_X9_type.tr je3_rf) (fun _ _ => ?_)
  refine KE3_bc (e3_F_X9_here.tr je3_rf) (fun _ _ => ?_)
  refine KE3_if ?_ ?_
  · skip
    refine KE3_bc (e3_F_X8_get.tr je3_rf) (fun _ _ => ?_)
    exact e3_B_X3_change_50.tr je3_rf
  · skip
    refine KE3_ok ?_
    refine KE3_bc (e3_F_X6_step.tr je3_rf) (fun _ _ => ?_)
    exact e3_B_X3_change_50.tr je3_rf
theorem e3_F_X3_change {N : Nat} {l1 : Nat} {l2 : Int32} {u : CSt}  : KE3 (F_X3_change N l1 l2 u) u := by
  unfold F_X3_change
  exact e3_B_X3_change_0.tr je3_rf
theorem e3_B_X3_assignment_104 {N : Nat} {u : CSt}  : KE3 (B_X3_assignment_104 N u) u := by
  unfold B_X3_assignment_104
  refine KE3_bc (e3_F_X9_next.tr je3_rf) (fun _ _ => ?_)
  exact KE3_some je3_rf
theorem e3_B_X3_assignment_32 {N : Nat} {l1 : Int32} {l2 : Nat} {u : CSt}  : KE3 (B_X3_assignment_32 N l1 l2 u) u := by
  unfold B_X3_assignment_32
  refine KE3_bc (e3_F_X9_is.tr je3_rf) (fun _ _ => ?_)
  refine KE3_if ?_ ?_
  · skip
    refine KE3_bc (e3_F_X9_is.tr je3_rf) (fun _ _ => ?_)
    refine KE3_if ?_ ?_
    · skip
      refine KE3_bt (e3_F_X3_change.tr je3_rf) (fun _ _ => ?_)
      refine KE3_bc (e3_F_X3_put.tr je3_rf) (fun _ _ => ?_)
      exact e3_B_X3_assignment_104.tr je3_rf
    · skip
      refine KE3_bt (e3_F_X3_setPlain.tr je3_rf) (fun _ _ => ?_)
      refine KE3_bc (e3_F_X3_put.tr je3_rf) (fun _ _ => ?_)
      exact e3_B_X3_assignment_104.tr je3_rf
  · skip
    refine KE3_bt (e3_F_X8_bit.tr je3_rf) (fun _ _ => ?_)
    refine KE3_bt (e3_F_X3_setBit.tr je3_rf) (fun _ _ => ?_)
    exact e3_B_X3_assignment_104.tr je3_rf
theorem e3_B_X3_assignment_0 {N : Nat} {l1 : Int32} {u : CSt}  : KE3 (B_X3_assignment_0 N l1 u) u := by
  unfold B_X3_assignment_0
  refine KE3_bt (e3_F_X8_placeName.tr je3_rf) (fun _ _ => ?_)
  refine KE3_ok ?_
  refine KE3_bc (e3_F_X9_next.tr je3_rf) (fun _ _ => ?_)
  refine KE3_if ?_ ?_
  · skip
    exact e3_B_X3_assignment_32.tr je3_rf
  · skip
    refine KE3_bt (e3_G_X8_index.tr je3_rf) (fun _ _ => ?_)
    exact e3_B_X3_assignment_32.tr je3_rf
theorem e3_F_X3_assignment {N : Nat} {l1 : Int32} {u : CSt}  : KE3 (F_X3_assignment N l1 u) u := by
  unfold F_X3_assignment
  exact e3_B_X3_assignment_0.tr je3_rf
theorem e3_B_X3_instanceCall_25 {N : Nat} {l1 : Int32} {l2 : Nat} {u : CSt}  : KE3 (B_X3_instanceCall_25 N l1 l2 u) u := by
  unfold B_X3_instanceCall_25
  refine KE3_ok ?_
  refine KE3_bc (e3_F_X6_cost.tr je3_rf) (fun _ _ => ?_)
  refine KE3_ok ?_
  refine KE3_bc (e3_F_X6_name.tr je3_rf) (fun _ _ => ?_)
  refine KE3_ok ?_
  refine KE3_bt (e3_G_X8_arguments.tr je3_rf) (fun _ _ => ?_)
  refine KE3_ok ?_
  refine KE3_bc (e3_F_X6_step.tr je3_rf) (fun _ _ => ?_)
  refine KE3_bc (e3_F_X9_next.tr je3_rf) (fun _ _ => ?_)
  exact KE3_some je3_rf
theorem e3_B_X3_instanceCall_0 {N : Nat} {l1 : Int32} {u : CSt}  : KE3 (B_X3_instanceCall_0 N l1 u) u := by
  unfold B_X3_instanceCall_0
  refine KE3_bc (e3_F_X8_known.tr je3_rf) (fun _ _ => ?_)
  refine KE3_ok ?_
  refine KE3_if ?_ ?_
  · skip
    exact e3_B_X3_instanceCall_25.tr je3_rf
  · skip
    refine KE3_bt (e3_F_X9_refuse.tr je3_rf) (fun _ _ => ?_)
    exact e3_B_X3_instanceCall_25.tr je3_rf
theorem e3_F_X3_instanceCall {N : Nat} {l1 : Int32} {u : CSt}  : KE3 (F_X3_instanceCall N l1 u) u := by
  unfold F_X3_instanceCall
  exact e3_B_X3_instanceCall_0.tr je3_rf
theorem e3_B_X3_leave_69 {N : Nat} {u : CSt}  : KE3 (B_X3_leave_69 N u) u := by
  unfold B_X3_leave_69
  refine KE3_bc (e3_F_X9_next.tr je3_rf) (fun _ _ => ?_)
  refine KE3_bc (e3_F_X9_next.tr je3_rf) (fun _ _ => ?_)
  exact KE3_some je3_rf
theorem e3_B_X3_leave_16 {N : Nat} {l1 : Int32} {u : CSt}  : KE3 (B_X3_leave_16 N l1 u) u := by
  unfold B_X3_leave_16
  refine KE3_bc (e3_F_X9_is.tr je3_rf) (fun _ _ => ?_)
  refine KE3_if ?_ ?_
  · skip
    refine KE3_ok ?_
    refine KE3_bc (e3_F_X6_step.tr je3_rf) (fun _ _ => ?_)
    refine KE3_pc ?_
    exact e3_B_X3_leave_69.tr (fe3_xI (by decide) je3_rf)
  · skip
    refine KE3_ok ?_
    refine KE3_bc (e3_F_X6_step.tr je3_rf) (fun _ _ => ?_)
    refine KE3_pc ?_
    exact e3_B_X3_leave_69.tr (fe3_xI (by decide) je3_rf)
theorem e3_B_X3_leave_0 {N : Nat} {l1 : Int32} {u : CSt}  : KE3 (B_X3_leave_0 N l1 u) u := by
  unfold B_X3_leave_0
  refine KE3_if ?_ ?_
  · skip
    refine KE3_bt (e3_F_X9_refuse.tr je3_rf) (fun _ _ => ?_)
    exact e3_B_X3_leave_16.tr je3_rf
  · skip
    exact e3_B_X3_leave_16.tr je3_rf
theorem e3_F_X3_leave {N : Nat} {l1 : Int32} {u : CSt}  : KE3 (F_X3_leave N l1 u) u := by
  unfold F_X3_leave
  exact e3_B_X3_leave_0.tr je3_rf
theorem e3_B_X3_returned_147 {N : Nat} {u : CSt}  : KE3 (B_X3_returned_147 N u) u := by
  unfold B_X3_returned_147
  refine KE3_bc (e3_F_X9_next.tr je3_rf) (fun _ _ => ?_)
  exact KE3_some je3_rf
theorem e3_B_X3_returned_115 {N : Nat} {l1 : Int32} {l3 : Nat} {u : CSt}  : KE3 (B_X3_returned_115 N l1 l3 u) u := by
  unfold B_X3_returned_115
  refine KE3_ok ?_
  refine KE3_bc (e3_F_X6_step.tr je3_rf) (fun _ _ => ?_)
  exact e3_B_X3_returned_147.tr je3_rf
theorem e3_B_X3_returned_60 {N : Nat} {l1 : Int32} {l2 : Int32} {l3 : Nat} {u : CSt}  : KE3 (B_X3_returned_60 N l1 l2 l3 u) u := by
  unfold B_X3_returned_60
  refine KE3_bc (e3_F_X9_next.tr je3_rf) (fun _ _ => ?_)
  refine KE3_if ?_ ?_
  · skip
    refine KE3_ok ?_
    refine KE3_bc (e3_F_X6_step.tr je3_rf) (fun _ _ => ?_)
    exact e3_B_X3_returned_147.tr je3_rf
  · skip
    refine KE3_bc (e3_F_X9_here.tr je3_rf) (fun _ _ => ?_)
    refine KE3_bt (e3_G_X8_expression.tr je3_rf) (fun _ _ => ?_)
    refine KE3_bc (e3_F_X8_isTooWide.tr je3_rf) (fun _ _ => ?_)
    refine KE3_if ?_ ?_
    · skip
      exact e3_B_X3_returned_115.tr je3_rf
    · skip
      refine KE3_bt (e3_F_X9_refuse.tr je3_rf) (fun _ _ => ?_)
      exact e3_B_X3_returned_115.tr je3_rf
theorem e3_B_X3_returned_48 {N : Nat} {l1 : Int32} {l2 : Int32} {l3 : Nat} {s0 : Int32} {s1 : Int32} {u : CSt}  : KE3 (B_X3_returned_48 N l1 l2 l3 s0 s1 u) u := by
  unfold B_X3_returned_48
  refine KE3_if ?_ ?_
  · skip
    exact e3_B_X3_returned_60.tr je3_rf
  · skip
    refine KE3_bt (e3_F_X9_refuse.tr je3_rf) (fun _ _ => ?_)
    exact e3_B_X3_returned_60.tr je3_rf
theorem e3_B_X3_returned_18 {N : Nat} {l1 : Int32} {s0 : Int32} {u : CSt}  : KE3 (B_X3_returned_18 N l1 s0 u) u := by
  unfold B_X3_returned_18
  refine KE3_ok ?_
  refine KE3_bc (e3_F_X6_name.tr je3_rf) (fun _ _ => ?_)
  refine KE3_ok ?_
  refine KE3_if ?_ ?_
  · skip
    exact e3_B_X3_returned_48.tr je3_rf
  · skip
    exact e3_B_X3_returned_48.tr je3_rf
theorem e3_B_X3_returned_0 {N : Nat} {l1 : Int32} {u : CSt}  : KE3 (B_X3_returned_0 N l1 u) u := by
  unfold B_X3_returned_0
  refine KE3_bc (e3_F_X9_typeAhead.tr je3_rf) (fun _ _ => ?_)
  refine KE3_if ?_ ?_
  · skip
    exact e3_B_X3_returned_18.tr je3_rf
  · skip
    exact e3_B_X3_returned_18.tr je3_rf
theorem e3_F_X3_returned {N : Nat} {l1 : Int32} {u : CSt}  : KE3 (F_X3_returned N l1 u) u := by
  unfold F_X3_returned
  exact e3_B_X3_returned_0.tr je3_rf
theorem e3_B_X3_labels_90 {N : Nat} {R_2 : Int32 × CSt → Option ((Sum Nat Int32) × CSt)} {l1 : Int32} {l2 : Int64} {l4 : Int64} {u : CSt} (h_R_2 : ∀ a, KE3 (R_2 a) a.2) : KE3 (B_X3_labels_90 N R_2 l1 l2 l4 u) u := by
  unfold B_X3_labels_90
  refine KE3_ok ?_
  refine KE3_bc (e3_F_X6_label.tr je3_rf) (fun _ _ => ?_)
  exact (h_R_2 _).tr je3_rf
theorem e3_B_X3_labels_2 {N : Nat} {R_2 : Int32 × CSt → Option ((Sum Nat Int32) × CSt)} {l1 : Int32} {u : CSt} (h_R_2 : ∀ a, KE3 (R_2 a) a.2) : KE3 (B_X3_labels_2 N R_2 l1 u) u := by
  unfold B_X3_labels_2
  refine KE3_if ?_ ?_
  · skip
    exact KE3_some je3_rf
  · skip
    refine KE3_bc (e3_F_X9_is.tr je3_rf) (fun _ _ => ?_)
    refine KE3_if ?_ ?_
    · skip
      refine KE3_bc (e3_F_X9_next.tr je3_rf) (fun _ _ => ?_)
      refine KE3_bt (e3_F_X3_constant.tr je3_rf) (fun _ _ => ?_)
      refine KE3_bc (e3_F_X9_is.tr je3_rf) (fun _ _ => ?_)
      refine KE3_if ?_ ?_
      · skip
        exact (e3_B_X3_labels_90 h_R_2).tr je3_rf
      · skip
        refine KE3_bc (e3_F_X9_next.tr je3_rf) (fun _ _ => ?_)
        refine KE3_bc (e3_F_X9_here.tr je3_rf) (fun _ _ => ?_)
        refine KE3_bt (e3_F_X3_constant.tr je3_rf) (fun _ _ => ?_)
        refine KE3_if ?_ ?_
        · skip
          exact (e3_B_X3_labels_90 h_R_2).tr je3_rf
        · skip
          refine KE3_bt (e3_F_X9_refuse.tr je3_rf) (fun _ _ => ?_)
          exact (e3_B_X3_labels_90 h_R_2).tr je3_rf
    · skip
      exact KE3_some je3_rf
theorem e3_LP_X3_labels_2 {N : Nat}  (n : Nat) : ∀ a : Int32 × CSt, KE3 (LP_X3_labels_2 N n a) a.2 := by
  induction n with
  | zero => exact fun a r z e => by have e : (none : Option _) = some (r, z) := e; cases e
  | succ n ih =>
    intro a
    show KE3 (B_X3_labels_2 N (LP_X3_labels_2 N n) a.1 a.2) a.2
    exact e3_B_X3_labels_2 ih
theorem e3_B_X3_labels_0 {N : Nat} {u : CSt}  : KE3 (B_X3_labels_0 N u) u := by
  unfold B_X3_labels_0
  exact (e3_LP_X3_labels_2  _ _).tr je3_rf
theorem e3_F_X3_labels {N : Nat} {u : CSt}  : KE3 (F_X3_labels N u) u := by
  unfold F_X3_labels
  exact e3_B_X3_labels_0.tr je3_rf
theorem e3_B_X3_body_0 {N : Nat} {ro : Nat → Nat → Int32 → Int32 → CSt → Option (Sum Nat Int32 × CSt)} {u : CSt} (h_ro : ∀ q z a b u, KE3 (ro q z a b u) u) : KE3 (B_X3_body_0 N ro u) u := by
  unfold B_X3_body_0
  refine KE3_bc (e3_F_X9_next.tr je3_rf) (fun _ _ => ?_)
  refine KE3_bt ((h_ro _ _ _ _ _).tr je3_rf) (fun _ _ => ?_)
  exact KE3_some je3_rf
theorem e3_F_X3_body {N : Nat} {ro : Nat → Nat → Int32 → Int32 → CSt → Option (Sum Nat Int32 × CSt)} {u : CSt} (h_ro : ∀ q z a b u, KE3 (ro q z a b u) u) : KE3 (F_X3_body N ro u) u := by
  unfold F_X3_body
  exact (e3_B_X3_body_0 h_ro).tr je3_rf
theorem e3_B_X3_statements_31 {N : Nat} {ro : Nat → Nat → Int32 → Int32 → CSt → Option (Sum Nat Int32 × CSt)} {u : CSt} (h_ro : ∀ q z a b u, KE3 (ro q z a b u) u) : KE3 (B_X3_statements_31 N ro u) u := by
  unfold B_X3_statements_31
  refine KE3_bc (e3_F_X9_here.tr je3_rf) (fun _ _ => ?_)
  refine KE3_bc (e3_F_X9_next.tr je3_rf) (fun _ _ => ?_)
  exact KE3_some je3_rf
theorem e3_B_X3_statements_2 {N : Nat} {ro : Nat → Nat → Int32 → Int32 → CSt → Option (Sum Nat Int32 × CSt)} {R_2 : Int32 × CSt → Option ((Sum Nat Int32) × CSt)} {l1 : Int32} {u : CSt} (h_ro : ∀ q z a b u, KE3 (ro q z a b u) u) (h_R_2 : ∀ a, KE3 (R_2 a) a.2) : KE3 (B_X3_statements_2 N ro R_2 l1 u) u := by
  unfold B_X3_statements_2
  refine KE3_if ?_ ?_
  · skip
    exact (e3_B_X3_statements_31 h_ro).tr je3_rf
  · skip
    refine KE3_bc (e3_F_X9_is.tr je3_rf) (fun _ _ => ?_)
    refine KE3_if ?_ ?_
    · skip
      refine KE3_bt ((h_ro _ _ _ _ _).tr je3_rf) (fun _ _ => ?_)
      exact (h_R_2 _).tr je3_rf
    · skip
      exact (e3_B_X3_statements_31 h_ro).tr je3_rf
theorem e3_LP_X3_statements_2 {N : Nat} {ro : Nat → Nat → Int32 → Int32 → CSt → Option (Sum Nat Int32 × CSt)} (h_ro : ∀ q z a b u, KE3 (ro q z a b u) u) (n : Nat) : ∀ a : Int32 × CSt, KE3 (LP_X3_statements_2 N ro n a) a.2 := by
  induction n with
  | zero => exact fun a r z e => by have e : (none : Option _) = some (r, z) := e; cases e
  | succ n ih =>
    intro a
    show KE3 (B_X3_statements_2 N ro (LP_X3_statements_2 N ro n) a.1 a.2) a.2
    exact e3_B_X3_statements_2 h_ro ih
theorem e3_B_X3_statements_0 {N : Nat} {ro : Nat → Nat → Int32 → Int32 → CSt → Option (Sum Nat Int32 × CSt)} {u : CSt} (h_ro : ∀ q z a b u, KE3 (ro q z a b u) u) : KE3 (B_X3_statements_0 N ro u) u := by
  unfold B_X3_statements_0
  exact (e3_LP_X3_statements_2 h_ro _ _).tr je3_rf
theorem e3_F_X3_statements {N : Nat} {ro : Nat → Nat → Int32 → Int32 → CSt → Option (Sum Nat Int32 × CSt)} {u : CSt} (h_ro : ∀ q z a b u, KE3 (ro q z a b u) u) : KE3 (F_X3_statements N ro u) u := by
  unfold F_X3_statements
  exact (e3_B_X3_statements_0 h_ro).tr je3_rf
theorem e3_B_X3_statement_0 {N : Nat} {ro : Nat → Nat → Int32 → Int32 → CSt → Option (Sum Nat Int32 × CSt)} {u : CSt} (h_ro : ∀ q z a b u, KE3 (ro q z a b u) u) : KE3 (B_X3_statement_0 N ro u) u := by
  unfold B_X3_statement_0
  refine KE3_bc (e3_F_X9_here.tr je3_rf) (fun _ _ => ?_)
  refine KE3_ok ?_
  refine KE3_bc (e3_F_X6_cost.tr je3_rf) (fun _ _ => ?_)
  refine KE3_bc (e3_F_X9_type.tr je3_rf) (fun _ _ => ?_)
  refine KE3_if ?_ ?_
  · skip
    refine KE3_bt ((h_ro _ _ _ _ _).tr je3_rf) (fun _ _ => ?_)
    exact KE3_some je3_rf
  · skip
    refine KE3_if ?_ ?_
    · skip
      refine KE3_bt ((h_ro _ _ _ _ _).tr je3_rf) (fun _ _ => ?_)
      exact KE3_some je3_rf
    · skip
      refine KE3_if ?_ ?_
      · skip
        refine KE3_bt ((h_ro _ _ _ _ _).tr je3_rf) (fun _ _ => ?_)
        exact KE3_some je3_rf
      · skip
        refine KE3_if ?_ ?_
        · skip
          refine KE3_bt ((h_ro _ _ _ _ _).tr je3_rf) (fun _ _ => ?_)
          exact KE3_some je3_rf
        · skip
          refine KE3_if ?_ ?_
          · skip
            refine KE3_bt (e3_F_X3_leave.tr je3_rf) (fun _ _ => ?_)
            exact KE3_some je3_rf
          · skip
            refine KE3_if ?_ ?_
            · skip
              refine KE3_bt (e3_F_X3_leave.tr je3_rf) (fun _ _ => ?_)
              exact KE3_some je3_rf
            · skip
              refine KE3_if ?_ ?_
              · skip
                refine KE3_bt (e3_F_X3_returned.tr je3_rf) (fun _ _ => ?_)
                exact KE3_some je3_rf
              · skip
                refine KE3_if ?_ ?_
                · skip
                  refine KE3_bc (e3_F_X9_next.tr je3_rf) (fun _ _ => ?_)
                  refine KE3_bt (e3_G_X8_expression.tr je3_rf) (fun _ _ => ?_)
                  refine KE3_ok ?_
                  refine KE3_bc (e3_F_X6_step.tr je3_rf) (fun _ _ => ?_)
                  refine KE3_bc (e3_F_X9_next.tr je3_rf) (fun _ _ => ?_)
                  exact KE3_some je3_rf
                · skip
                  refine KE3_bc (e3_F_X9_typeAhead.tr je3_rf) (fun _ _ => ?_)
                  refine KE3_if ?_ ?_
                  · skip
                    refine KE3_bt (e3_F_X3_instanceCall.tr je3_rf) (fun _ _ => ?_)
                    exact KE3_some je3_rf
                  · skip
                    refine KE3_bt (e3_F_X3_assignment.tr je3_rf) (fun _ _ => ?_)
                    exact KE3_some je3_rf
theorem e3_F_X3_statement {N : Nat} {ro : Nat → Nat → Int32 → Int32 → CSt → Option (Sum Nat Int32 × CSt)} {u : CSt} (h_ro : ∀ q z a b u, KE3 (ro q z a b u) u) : KE3 (F_X3_statement N ro u) u := by
  unfold F_X3_statement
  exact (e3_B_X3_statement_0 h_ro).tr je3_rf
theorem e3_B_X3_choice_113 {N : Nat} {ro : Nat → Nat → Int32 → Int32 → CSt → Option (Sum Nat Int32 × CSt)} {l2 : Int32} {u : CSt} (h_ro : ∀ q z a b u, KE3 (ro q z a b u) u) : KE3 (B_X3_choice_113 N ro l2 u) u := by
  unfold B_X3_choice_113
  refine KE3_ok ?_
  refine KE3_bc (e3_F_X6_land.tr je3_rf) (fun _ _ => ?_)
  exact KE3_some je3_rf
theorem e3_B_X3_choice_90 {N : Nat} {ro : Nat → Nat → Int32 → Int32 → CSt → Option (Sum Nat Int32 × CSt)} {l2 : Int32} {u : CSt} (h_ro : ∀ q z a b u, KE3 (ro q z a b u) u) : KE3 (B_X3_choice_90 N ro l2 u) u := by
  unfold B_X3_choice_90
  refine KE3_bc (e3_F_X9_is.tr je3_rf) (fun _ _ => ?_)
  refine KE3_if ?_ ?_
  · skip
    exact (e3_B_X3_choice_113 h_ro).tr je3_rf
  · skip
    refine KE3_bc (e3_F_X9_next.tr je3_rf) (fun _ _ => ?_)
    refine KE3_bt ((h_ro _ _ _ _ _).tr je3_rf) (fun _ _ => ?_)
    exact (e3_B_X3_choice_113 h_ro).tr je3_rf
theorem e3_B_X3_choice_7 {N : Nat} {ro : Nat → Nat → Int32 → Int32 → CSt → Option (Sum Nat Int32 × CSt)} {R_7 : Int32 × Int32 × Int32 × Int32 × CSt → Option ((Sum Nat Int32) × CSt)} {l1 : Int32} {l2 : Int32} {l3 : Int32} {l4 : Int32} {u : CSt} (h_ro : ∀ q z a b u, KE3 (ro q z a b u) u) (h_R_7 : ∀ a, KE3 (R_7 a) a.2.2.2.2) : KE3 (B_X3_choice_7 N ro R_7 l1 l2 l3 l4 u) u := by
  unfold B_X3_choice_7
  refine KE3_if ?_ ?_
  · skip
    exact (e3_B_X3_choice_90 h_ro).tr je3_rf
  · skip
    refine KE3_if ?_ ?_
    · skip
      exact (e3_B_X3_choice_90 h_ro).tr je3_rf
    · skip
      refine KE3_bc (e3_F_X9_next.tr je3_rf) (fun _ _ => ?_)
      refine KE3_bt (e3_G_X8_expression.tr je3_rf) (fun _ _ => ?_)
      refine KE3_ok ?_
      refine KE3_bc (e3_F_X6_step.tr je3_rf) (fun _ _ => ?_)
      refine KE3_bt ((h_ro _ _ _ _ _).tr je3_rf) (fun _ _ => ?_)
      refine KE3_ok ?_
      refine KE3_bc (e3_F_X6_step.tr je3_rf) (fun _ _ => ?_)
      refine KE3_ok ?_
      refine KE3_bc (e3_F_X6_land.tr je3_rf) (fun _ _ => ?_)
      refine KE3_bc (e3_F_X9_is.tr je3_rf) (fun _ _ => ?_)
      exact (h_R_7 _).tr je3_rf
theorem e3_LP_X3_choice_7 {N : Nat} {ro : Nat → Nat → Int32 → Int32 → CSt → Option (Sum Nat Int32 × CSt)} (h_ro : ∀ q z a b u, KE3 (ro q z a b u) u) (n : Nat) : ∀ a : Int32 × Int32 × Int32 × Int32 × CSt, KE3 (LP_X3_choice_7 N ro n a) a.2.2.2.2 := by
  induction n with
  | zero => exact fun a r z e => by have e : (none : Option _) = some (r, z) := e; cases e
  | succ n ih =>
    intro a
    show KE3 (B_X3_choice_7 N ro (LP_X3_choice_7 N ro n) a.1 a.2.1 a.2.2.1 a.2.2.2.1 a.2.2.2.2) a.2.2.2.2
    exact e3_B_X3_choice_7 h_ro ih
theorem e3_B_X3_choice_0 {N : Nat} {ro : Nat → Nat → Int32 → Int32 → CSt → Option (Sum Nat Int32 × CSt)} {l1 : Int32} {u : CSt} (h_ro : ∀ q z a b u, KE3 (ro q z a b u) u) : KE3 (B_X3_choice_0 N ro l1 u) u := by
  unfold B_X3_choice_0
  exact (e3_LP_X3_choice_7 h_ro _ _).tr je3_rf
theorem e3_F_X3_choice {N : Nat} {ro : Nat → Nat → Int32 → Int32 → CSt → Option (Sum Nat Int32 × CSt)} {l1 : Int32} {u : CSt} (h_ro : ∀ q z a b u, KE3 (ro q z a b u) u) : KE3 (F_X3_choice N ro l1 u) u := by
  unfold F_X3_choice
  exact (e3_B_X3_choice_0 h_ro).tr je3_rf
theorem e3_B_X3_loop_0 {N : Nat} {ro : Nat → Nat → Int32 → Int32 → CSt → Option (Sum Nat Int32 × CSt)} {l1 : Int32} {u : CSt} (h_ro : ∀ q z a b u, KE3 (ro q z a b u) u) : KE3 (B_X3_loop_0 N ro l1 u) u := by
  unfold B_X3_loop_0
  refine KE3_bc (e3_F_X9_next.tr je3_rf) (fun _ _ => ?_)
  refine KE3_ok ?_
  refine KE3_bt (e3_G_X8_expression.tr je3_rf) (fun _ _ => ?_)
  refine KE3_ok ?_
  refine KE3_bc (e3_F_X6_step.tr je3_rf) (fun _ _ => ?_)
  refine KE3_pc ?_
  refine KE3_bt ((h_ro _ _ _ _ _).tr (fe3_xI (by decide) je3_rf)) (fun _ _ => ?_)
  refine KE3_ok ?_
  refine KE3_bc (e3_F_X6_step.tr je3_rf) (fun _ _ => ?_)
  refine KE3_ok ?_
  refine KE3_bc (e3_F_X6_land.tr je3_rf) (fun _ _ => ?_)
  refine KE3_pc ?_
  exact KE3_some (fe3_xI (by decide) je3_rf)
theorem e3_F_X3_loop {N : Nat} {ro : Nat → Nat → Int32 → Int32 → CSt → Option (Sum Nat Int32 × CSt)} {l1 : Int32} {u : CSt} (h_ro : ∀ q z a b u, KE3 (ro q z a b u) u) : KE3 (F_X3_loop N ro l1 u) u := by
  unfold F_X3_loop
  exact (e3_B_X3_loop_0 h_ro).tr je3_rf
theorem e3_B_X3_round_0 {N : Nat} {ro : Nat → Nat → Int32 → Int32 → CSt → Option (Sum Nat Int32 × CSt)} {l1 : Int32} {u : CSt} (h_ro : ∀ q z a b u, KE3 (ro q z a b u) u) : KE3 (B_X3_round_0 N ro l1 u) u := by
  unfold B_X3_round_0
  refine KE3_pc ?_
  refine KE3_pc ?_
  refine KE3_ok ?_
  refine KE3_bc (e3_F_X6_cost.tr (fe3_xI (by decide) (fe3_xI (by decide) je3_rf))) (fun _ _ => ?_)
  refine KE3_bt ((h_ro _ _ _ _ _).tr je3_rf) (fun _ _ => ?_)
  refine KE3_pc ?_
  refine KE3_ok ?_
  refine KE3_bc (e3_F_X6_land.tr (fe3_xI (by decide) je3_rf)) (fun _ _ => ?_)
  refine KE3_pc ?_
  exact KE3_some (fe3_xI (by decide) je3_rf)
theorem e3_F_X3_round {N : Nat} {ro : Nat → Nat → Int32 → Int32 → CSt → Option (Sum Nat Int32 × CSt)} {l1 : Int32} {u : CSt} (h_ro : ∀ q z a b u, KE3 (ro q z a b u) u) : KE3 (F_X3_round N ro l1 u) u := by
  unfold F_X3_round
  exact (e3_B_X3_round_0 h_ro).tr je3_rf
theorem e3_B_X3_counted_71 {N : Nat} {ro : Nat → Nat → Int32 → Int32 → CSt → Option (Sum Nat Int32 × CSt)} {l1 : Int32} {l2 : Int32} {l3 : Nat} {u : CSt} (h_ro : ∀ q z a b u, KE3 (ro q z a b u) u) : KE3 (B_X3_counted_71 N ro l1 l2 l3 u) u := by
  unfold B_X3_counted_71
  refine KE3_bc (e3_F_X9_next.tr je3_rf) (fun _ _ => ?_)
  refine KE3_bt (e3_F_X3_setPlain.tr je3_rf) (fun _ _ => ?_)
  refine KE3_bc (e3_F_X8_set.tr je3_rf) (fun _ _ => ?_)
  refine KE3_bc (e3_F_X9_next.tr je3_rf) (fun _ _ => ?_)
  refine KE3_bt (e3_G_X8_expression.tr je3_rf) (fun _ _ => ?_)
  refine KE3_ok ?_
  refine KE3_bc (e3_F_X8_get.tr je3_rf) (fun _ _ => ?_)
  refine KE3_ok ?_
  refine KE3_bc (e3_F_X6_step.tr je3_rf) (fun _ _ => ?_)
  refine KE3_pc ?_
  refine KE3_bt ((h_ro _ _ _ _ _).tr (fe3_xI (by decide) je3_rf)) (fun _ _ => ?_)
  refine KE3_bc (e3_F_X8_get.tr je3_rf) (fun _ _ => ?_)
  refine KE3_ok ?_
  refine KE3_bc (e3_F_X6_step.tr je3_rf) (fun _ _ => ?_)
  refine KE3_pc ?_
  refine KE3_bc (e3_F_X8_get.tr (fe3_xI (by decide) je3_rf)) (fun _ _ => ?_)
  refine KE3_ok ?_
  refine KE3_bc (e3_F_X6_constant.tr je3_rf) (fun _ _ => ?_)
  refine KE3_bc (e3_F_X8_combine.tr je3_rf) (fun _ _ => ?_)
  refine KE3_bc (e3_F_X8_set.tr je3_rf) (fun _ _ => ?_)
  refine KE3_ok ?_
  refine KE3_bc (e3_F_X6_step.tr je3_rf) (fun _ _ => ?_)
  refine KE3_ok ?_
  refine KE3_bc (e3_F_X6_land.tr je3_rf) (fun _ _ => ?_)
  refine KE3_pc ?_
  refine KE3_ok ?_
  refine KE3_bc (e3_F_X6_step.tr (fe3_xI (by decide) je3_rf)) (fun _ _ => ?_)
  exact KE3_some je3_rf
theorem e3_B_X3_counted_62 {N : Nat} {ro : Nat → Nat → Int32 → Int32 → CSt → Option (Sum Nat Int32 × CSt)} {l1 : Int32} {l2 : Int32} {l3 : Nat} {u : CSt} (h_ro : ∀ q z a b u, KE3 (ro q z a b u) u) : KE3 (B_X3_counted_62 N ro l1 l2 l3 u) u := by
  unfold B_X3_counted_62
  refine KE3_bt (e3_F_X9_refuse.tr je3_rf) (fun _ _ => ?_)
  exact (e3_B_X3_counted_71 h_ro).tr je3_rf
theorem e3_B_X3_counted_41 {N : Nat} {ro : Nat → Nat → Int32 → Int32 → CSt → Option (Sum Nat Int32 × CSt)} {l1 : Int32} {l2 : Int32} {l3 : Nat} {u : CSt} (h_ro : ∀ q z a b u, KE3 (ro q z a b u) u) : KE3 (B_X3_counted_41 N ro l1 l2 l3 u) u := by
  unfold B_X3_counted_41
  refine KE3_bc (e3_F_X4_hasNumbers.tr je3_rf) (fun _ _ => ?_)
  refine KE3_if ?_ ?_
  · skip
    exact (e3_B_X3_counted_62 h_ro).tr je3_rf
  · skip
    refine KE3_if ?_ ?_
    · skip
      refine KE3_bc (e3_F_X4_isInput.tr je3_rf) (fun _ _ => ?_)
      refine KE3_if ?_ ?_
      · skip
        exact (e3_B_X3_counted_71 h_ro).tr je3_rf
      · skip
        exact (e3_B_X3_counted_62 h_ro).tr je3_rf
    · skip
      exact (e3_B_X3_counted_62 h_ro).tr je3_rf
theorem e3_B_X3_counted_0 {N : Nat} {ro : Nat → Nat → Int32 → Int32 → CSt → Option (Sum Nat Int32 × CSt)} {l1 : Int32} {u : CSt} (h_ro : ∀ q z a b u, KE3 (ro q z a b u) u) : KE3 (B_X3_counted_0 N ro l1 u) u := by
  unfold B_X3_counted_0
  refine KE3_bc (e3_F_X9_next.tr je3_rf) (fun _ _ => ?_)
  refine KE3_bc (e3_F_X9_here.tr je3_rf) (fun _ _ => ?_)
  refine KE3_bc (e3_F_X8_known.tr je3_rf) (fun _ _ => ?_)
  refine KE3_ok ?_
  refine KE3_if ?_ ?_
  · skip
    refine KE3_bt (e3_F_X9_refuse.tr je3_rf) (fun _ _ => ?_)
    exact (e3_B_X3_counted_41 h_ro).tr je3_rf
  · skip
    exact (e3_B_X3_counted_41 h_ro).tr je3_rf
theorem e3_F_X3_counted {N : Nat} {ro : Nat → Nat → Int32 → Int32 → CSt → Option (Sum Nat Int32 × CSt)} {l1 : Int32} {u : CSt} (h_ro : ∀ q z a b u, KE3 (ro q z a b u) u) : KE3 (F_X3_counted N ro l1 u) u := by
  unfold F_X3_counted
  exact (e3_B_X3_counted_0 h_ro).tr je3_rf
theorem e3_B_X3_cases_176 {N : Nat} {ro : Nat → Nat → Int32 → Int32 → CSt → Option (Sum Nat Int32 × CSt)} {l2 : Int32} {u : CSt} (h_ro : ∀ q z a b u, KE3 (ro q z a b u) u) : KE3 (B_X3_cases_176 N ro l2 u) u := by
  unfold B_X3_cases_176
  refine KE3_bc (e3_F_X9_next.tr je3_rf) (fun _ _ => ?_)
  refine KE3_ok ?_
  refine KE3_bc (e3_F_X6_land.tr je3_rf) (fun _ _ => ?_)
  exact KE3_some je3_rf
theorem e3_B_X3_cases_140 {N : Nat} {ro : Nat → Nat → Int32 → Int32 → CSt → Option (Sum Nat Int32 × CSt)} {l1 : Int32} {l2 : Int32} {u : CSt} (h_ro : ∀ q z a b u, KE3 (ro q z a b u) u) : KE3 (B_X3_cases_140 N ro l1 l2 u) u := by
  unfold B_X3_cases_140
  refine KE3_ok ?_
  refine KE3_bc (e3_F_X6_step.tr je3_rf) (fun _ _ => ?_)
  refine KE3_bc (e3_F_X9_is.tr je3_rf) (fun _ _ => ?_)
  refine KE3_if ?_ ?_
  · skip
    exact (e3_B_X3_cases_176 h_ro).tr je3_rf
  · skip
    refine KE3_bc (e3_F_X9_next.tr je3_rf) (fun _ _ => ?_)
    refine KE3_bt ((h_ro _ _ _ _ _).tr je3_rf) (fun _ _ => ?_)
    exact (e3_B_X3_cases_176 h_ro).tr je3_rf
theorem e3_B_X3_cases_26 {N : Nat} {ro : Nat → Nat → Int32 → Int32 → CSt → Option (Sum Nat Int32 × CSt)} {R_26 : Int32 × Int32 × Int32 × CSt → Option ((Sum Nat Int32) × CSt)} {l1 : Int32} {l2 : Int32} {l3 : Int32} {u : CSt} (h_ro : ∀ q z a b u, KE3 (ro q z a b u) u) (h_R_26 : ∀ a, KE3 (R_26 a) a.2.2.2) : KE3 (B_X3_cases_26 N ro R_26 l1 l2 l3 u) u := by
  unfold B_X3_cases_26
  refine KE3_if ?_ ?_
  · skip
    exact (e3_B_X3_cases_140 h_ro).tr je3_rf
  · skip
    refine KE3_bc (e3_F_X9_is.tr je3_rf) (fun _ _ => ?_)
    refine KE3_if ?_ ?_
    · skip
      exact (e3_B_X3_cases_140 h_ro).tr je3_rf
    · skip
      refine KE3_ok ?_
      refine KE3_bt (e3_F_X3_labels.tr je3_rf) (fun _ _ => ?_)
      refine KE3_ok ?_
      refine KE3_bc (e3_F_X6_step.tr je3_rf) (fun _ _ => ?_)
      refine KE3_ok ?_
      refine KE3_bc (e3_F_X6_step.tr je3_rf) (fun _ _ => ?_)
      refine KE3_ok ?_
      refine KE3_bc (e3_F_X6_step.tr je3_rf) (fun _ _ => ?_)
      refine KE3_bt ((h_ro _ _ _ _ _).tr je3_rf) (fun _ _ => ?_)
      refine KE3_ok ?_
      refine KE3_bc (e3_F_X6_step.tr je3_rf) (fun _ _ => ?_)
      refine KE3_ok ?_
      refine KE3_bc (e3_F_X6_land.tr je3_rf) (fun _ _ => ?_)
      exact (h_R_26 _).tr je3_rf
theorem e3_LP_X3_cases_26 {N : Nat} {ro : Nat → Nat → Int32 → Int32 → CSt → Option (Sum Nat Int32 × CSt)} (h_ro : ∀ q z a b u, KE3 (ro q z a b u) u) (n : Nat) : ∀ a : Int32 × Int32 × Int32 × CSt, KE3 (LP_X3_cases_26 N ro n a) a.2.2.2 := by
  induction n with
  | zero => exact fun a r z e => by have e : (none : Option _) = some (r, z) := e; cases e
  | succ n ih =>
    intro a
    show KE3 (B_X3_cases_26 N ro (LP_X3_cases_26 N ro n) a.1 a.2.1 a.2.2.1 a.2.2.2) a.2.2.2
    exact e3_B_X3_cases_26 h_ro ih
theorem e3_B_X3_cases_0 {N : Nat} {ro : Nat → Nat → Int32 → Int32 → CSt → Option (Sum Nat Int32 × CSt)} {l1 : Int32} {u : CSt} (h_ro : ∀ q z a b u, KE3 (ro q z a b u) u) : KE3 (B_X3_cases_0 N ro l1 u) u := by
  unfold B_X3_cases_0
  refine KE3_bc (e3_F_X9_next.tr je3_rf) (fun _ _ => ?_)
  refine KE3_bt (e3_G_X8_expression.tr je3_rf) (fun _ _ => ?_)
  refine KE3_bc (e3_F_X9_next.tr je3_rf) (fun _ _ => ?_)
  exact (e3_LP_X3_cases_26 h_ro _ _).tr je3_rf
theorem e3_F_X3_cases {N : Nat} {ro : Nat → Nat → Int32 → Int32 → CSt → Option (Sum Nat Int32 × CSt)} {l1 : Int32} {u : CSt} (h_ro : ∀ q z a b u, KE3 (ro q z a b u) u) : KE3 (F_X3_cases N ro l1 u) u := by
  unfold F_X3_cases
  exact (e3_B_X3_cases_0 h_ro).tr je3_rf
theorem e3_FMS_ {N : Nat} : ∀ (d q z : Nat) (a b : Int32) (u : CSt), KE3 (FMS_ N d q z a b u) u := by
  intro d
  induction d with
  | zero => exact fun q z a b u => KE3_none
  | succ d ih =>
    intro q z a b u
    show KE3 (if q = 0 then F_X3_body N (FMS_ N d) u else if q = 1 then F_X3_statements N (FMS_ N d) u else if q = 2 then F_X3_statement N (FMS_ N d) u else if q = 3 then F_X3_choice N (FMS_ N d) a u else if q = 4 then F_X3_loop N (FMS_ N d) a u else if q = 5 then F_X3_round N (FMS_ N d) a u else if q = 6 then F_X3_counted N (FMS_ N d) a u else if q = 7 then F_X3_cases N (FMS_ N d) a u else none) u
    refine KE3_if (e3_F_X3_body ih) ?_
    refine KE3_if (e3_F_X3_statements ih) ?_
    refine KE3_if (e3_F_X3_statement ih) ?_
    refine KE3_if (e3_F_X3_choice ih) ?_
    refine KE3_if (e3_F_X3_loop ih) ?_
    refine KE3_if (e3_F_X3_round ih) ?_
    refine KE3_if (e3_F_X3_counted ih) ?_
    refine KE3_if (e3_F_X3_cases ih) ?_
    exact KE3_none
theorem e3_G_X3_statements {N : Nat} {u : CSt} : KE3 (G_X3_statements N u) u := e3_FMS_ _ _ _ _ _ _
theorem e3_B_X3_routine_118 {N : Nat} {l1 : Int32} {l2 : Int32} {l3 : Nat} {u : CSt}  : KE3 (B_X3_routine_118 N l1 l2 l3 u) u := by
  unfold B_X3_routine_118
  refine KE3_ok ?_
  refine KE3_pc ?_
  refine KE3_bt (e3_G_X3_statements.tr (fe3_xmI je3_rf)) (fun _ _ => ?_)
  refine KE3_if ?_ ?_
  · skip
    refine KE3_ok ?_
    refine KE3_bc (e3_F_X6_constant.tr je3_rf) (fun _ _ => ?_)
    refine KE3_ok ?_
    refine KE3_bc (e3_F_X6_step.tr je3_rf) (fun _ _ => ?_)
    refine KE3_ok ?_
    refine KE3_pc ?_
    exact KE3_some (fe3_xpI je3_rf)
  · skip
    refine KE3_ok ?_
    refine KE3_bc (e3_F_X6_step.tr je3_rf) (fun _ _ => ?_)
    refine KE3_ok ?_
    refine KE3_pc ?_
    exact KE3_some (fe3_xpI je3_rf)
theorem e3_B_X3_routine_79 {N : Nat} {R_79 : Int32 × Int32 × Nat × Int32 × CSt → Option ((Sum Nat Int32) × CSt)} {l1 : Int32} {l2 : Int32} {l3 : Nat} {l4 : Int32} {u : CSt} (h_R_79 : ∀ a, KE3 (R_79 a) a.2.2.2.2) : KE3 (B_X3_routine_79 N R_79 l1 l2 l3 l4 u) u := by
  unfold B_X3_routine_79
  refine KE3_if ?_ ?_
  · skip
    exact e3_B_X3_routine_118.tr je3_rf
  · skip
    refine KE3_bc (e3_F_X9_is.tr je3_rf) (fun _ _ => ?_)
    refine KE3_if ?_ ?_
    · skip
      exact e3_B_X3_routine_118.tr je3_rf
    · skip
      refine KE3_bc (e3_F_X9_next.tr je3_rf) (fun _ _ => ?_)
      refine KE3_bt (e3_F_X3_variables.tr je3_rf) (fun _ _ => ?_)
      exact (h_R_79 _).tr je3_rf
theorem e3_LP_X3_routine_79 {N : Nat}  (n : Nat) : ∀ a : Int32 × Int32 × Nat × Int32 × CSt, KE3 (LP_X3_routine_79 N n a) a.2.2.2.2 := by
  induction n with
  | zero => exact fun a r z e => by have e : (none : Option _) = some (r, z) := e; cases e
  | succ n ih =>
    intro a
    show KE3 (B_X3_routine_79 N (LP_X3_routine_79 N n) a.1 a.2.1 a.2.2.1 a.2.2.2.1 a.2.2.2.2) a.2.2.2.2
    exact e3_B_X3_routine_79 ih
theorem e3_B_X3_routine_62 {N : Nat} {l1 : Int32} {l2 : Int32} {l3 : Nat} {u : CSt}  : KE3 (B_X3_routine_62 N l1 l2 l3 u) u := by
  unfold B_X3_routine_62
  refine KE3_bc (e3_F_X9_next.tr je3_rf) (fun _ _ => ?_)
  refine KE3_bc (e3_F_X9_next.tr je3_rf) (fun _ _ => ?_)
  exact (e3_LP_X3_routine_79  _ _).tr je3_rf
theorem e3_B_X3_routine_32 {N : Nat} {R_32 : Int32 × Int32 × Nat × Int32 × CSt → Option ((Sum Nat Int32) × CSt)} {l1 : Int32} {l2 : Int32} {l3 : Nat} {l4 : Int32} {u : CSt} (h_R_32 : ∀ a, KE3 (R_32 a) a.2.2.2.2) : KE3 (B_X3_routine_32 N R_32 l1 l2 l3 l4 u) u := by
  unfold B_X3_routine_32
  refine KE3_if ?_ ?_
  · skip
    exact e3_B_X3_routine_62.tr je3_rf
  · skip
    refine KE3_bc (e3_F_X9_is.tr je3_rf) (fun _ _ => ?_)
    refine KE3_if ?_ ?_
    · skip
      refine KE3_bt (e3_F_X3_parameter.tr je3_rf) (fun _ _ => ?_)
      exact (h_R_32 _).tr je3_rf
    · skip
      exact e3_B_X3_routine_62.tr je3_rf
theorem e3_LP_X3_routine_32 {N : Nat}  (n : Nat) : ∀ a : Int32 × Int32 × Nat × Int32 × CSt, KE3 (LP_X3_routine_32 N n a) a.2.2.2.2 := by
  induction n with
  | zero => exact fun a r z e => by have e : (none : Option _) = some (r, z) := e; cases e
  | succ n ih =>
    intro a
    show KE3 (B_X3_routine_32 N (LP_X3_routine_32 N n) a.1 a.2.1 a.2.2.1 a.2.2.2.1 a.2.2.2.2) a.2.2.2.2
    exact e3_B_X3_routine_32 ih
theorem e3_B_X3_routine_0 {N : Nat} {l1 : Int32} {l2 : Int32} {u : CSt}  : KE3 (B_X3_routine_0 N l1 l2 u) u := by
  unfold B_X3_routine_0
  refine KE3_bt (e3_F_X3_newName.tr je3_rf) (fun _ _ => ?_)
  refine KE3_ok ?_
  refine KE3_pc ?_
  refine KE3_ok ?_
  refine KE3_pc ?_
  refine KE3_bc (e3_F_X9_next.tr (fe3_xpI (fe3_xmI je3_rf))) (fun _ _ => ?_)
  exact (e3_LP_X3_routine_32  _ _).tr je3_rf
theorem e3_F_X3_routine {N : Nat} {l1 : Int32} {l2 : Int32} {u : CSt}  : KE3 (F_X3_routine N l1 l2 u) u := by
  unfold F_X3_routine
  exact e3_B_X3_routine_0.tr je3_rf
theorem e3_B_X3_cyclic_94 {N : Nat} {u : CSt}  : KE3 (B_X3_cyclic_94 N u) u := by
  unfold B_X3_cyclic_94
  refine KE3_bc (e3_F_X9_next.tr je3_rf) (fun _ _ => ?_)
  refine KE3_ok ?_
  refine KE3_bt (e3_G_X3_statements.tr je3_rf) (fun _ _ => ?_)
  refine KE3_bc (e3_F_X6_step.tr je3_rf) (fun _ _ => ?_)
  exact KE3_some je3_rf
theorem e3_B_X3_cyclic_61 {N : Nat} {l1 : Nat} {l2 : Int32} {l3 : Int32} {u : CSt}  : KE3 (B_X3_cyclic_61 N l1 l2 l3 u) u := by
  unfold B_X3_cyclic_61
  refine KE3_if ?_ ?_
  · skip
    exact e3_B_X3_cyclic_94.tr je3_rf
  · skip
    refine KE3_ok ?_
    refine KE3_ix ?_
    refine KE3_bc (e3_F_X7_become.tr je3_rf) (fun _ _ => ?_)
    exact e3_B_X3_cyclic_94.tr je3_rf
theorem e3_B_X3_cyclic_0 {N : Nat} {u : CSt}  : KE3 (B_X3_cyclic_0 N u) u := by
  unfold B_X3_cyclic_0
  refine KE3_bt (e3_F_X3_newName.tr je3_rf) (fun _ _ => ?_)
  refine KE3_ok ?_
  refine KE3_bc (e3_F_X9_next.tr je3_rf) (fun _ _ => ?_)
  refine KE3_bt (e3_F_X9_takeBounded.tr je3_rf) (fun _ _ => ?_)
  refine KE3_bc (e3_F_X9_is.tr je3_rf) (fun _ _ => ?_)
  refine KE3_if ?_ ?_
  · skip
    exact e3_B_X3_cyclic_61.tr je3_rf
  · skip
    refine KE3_bc (e3_F_X9_next.tr je3_rf) (fun _ _ => ?_)
    refine KE3_bt (e3_F_X9_takeBounded.tr je3_rf) (fun _ _ => ?_)
    exact e3_B_X3_cyclic_61.tr je3_rf
theorem e3_F_X3_cyclic {N : Nat} {u : CSt}  : KE3 (F_X3_cyclic N u) u := by
  unfold F_X3_cyclic
  exact e3_B_X3_cyclic_0.tr je3_rf
theorem e3_B_X3_make_205 {N : Nat} {R_57 : Int32 × CSt → Option ((Sum Nat Int32) × CSt)} {l2 : Int32} {u : CSt} (h_R_57 : ∀ a, KE3 (R_57 a) a.2) : KE3 (B_X3_make_205 N R_57 l2 u) u := by
  unfold B_X3_make_205
  exact (h_R_57 _).tr je3_rf
theorem e3_B_X3_make_57 {N : Nat} {R_57 : Int32 × CSt → Option ((Sum Nat Int32) × CSt)} {l2 : Int32} {u : CSt} (h_R_57 : ∀ a, KE3 (R_57 a) a.2) : KE3 (B_X3_make_57 N R_57 l2 u) u := by
  unfold B_X3_make_57
  refine KE3_if ?_ ?_
  · skip
    exact KE3_some je3_rf
  · skip
    refine KE3_bc (e3_F_X9_is.tr je3_rf) (fun _ _ => ?_)
    refine KE3_if ?_ ?_
    · skip
      refine KE3_bc (e3_F_X9_type.tr je3_rf) (fun _ _ => ?_)
      refine KE3_bc (e3_F_X9_next.tr je3_rf) (fun _ _ => ?_)
      refine KE3_if ?_ ?_
      · skip
        refine KE3_bt (e3_F_X3_variables.tr je3_rf) (fun _ _ => ?_)
        exact (e3_B_X3_make_205 h_R_57).tr je3_rf
      · skip
        refine KE3_if ?_ ?_
        · skip
          refine KE3_bt (e3_F_X3_variables.tr je3_rf) (fun _ _ => ?_)
          exact (e3_B_X3_make_205 h_R_57).tr je3_rf
        · skip
          refine KE3_if ?_ ?_
          · skip
            refine KE3_bt (e3_F_X3_placed.tr je3_rf) (fun _ _ => ?_)
            exact (e3_B_X3_make_205 h_R_57).tr je3_rf
          · skip
            refine KE3_if ?_ ?_
            · skip
              refine KE3_bt (e3_F_X3_placed.tr je3_rf) (fun _ _ => ?_)
              exact (e3_B_X3_make_205 h_R_57).tr je3_rf
            · skip
              refine KE3_if ?_ ?_
              · skip
                refine KE3_bt (e3_F_X3_routine.tr je3_rf) (fun _ _ => ?_)
                exact (e3_B_X3_make_205 h_R_57).tr je3_rf
              · skip
                refine KE3_if ?_ ?_
                · skip
                  refine KE3_bt (e3_F_X3_uses.tr je3_rf) (fun _ _ => ?_)
                  exact (e3_B_X3_make_205 h_R_57).tr je3_rf
                · skip
                  refine KE3_if ?_ ?_
                  · skip
                    refine KE3_bc (e3_F_X9_takeKind.tr je3_rf) (fun _ _ => ?_)
                    refine KE3_bt (e3_F_X3_routine.tr je3_rf) (fun _ _ => ?_)
                    exact (e3_B_X3_make_205 h_R_57).tr je3_rf
                  · skip
                    refine KE3_bt (e3_F_X3_cyclic.tr je3_rf) (fun _ _ => ?_)
                    exact (e3_B_X3_make_205 h_R_57).tr je3_rf
    · skip
      exact KE3_some je3_rf
theorem e3_LP_X3_make_57 {N : Nat}  (n : Nat) : ∀ a : Int32 × CSt, KE3 (LP_X3_make_57 N n a) a.2 := by
  induction n with
  | zero => exact fun a r z e => by have e : (none : Option _) = some (r, z) := e; cases e
  | succ n ih =>
    intro a
    show KE3 (B_X3_make_57 N (LP_X3_make_57 N n) a.1 a.2) a.2
    exact e3_B_X3_make_57 ih
theorem e3_B_X3_make_0 {N : Nat} {l1 : Nat} {u : CSt}  : KE3 (B_X3_make_0 N l1 u) u := by
  unfold B_X3_make_0
  refine KE3_pc ?_
  refine KE3_ok ?_
  refine KE3_bc (e3_F_X6_empty.tr (fe3_xR je3_rf)) (fun _ _ => ?_)
  refine KE3_bc (e3_F_X8_begin.tr je3_rf) (fun _ _ => ?_)
  refine KE3_pc ?_
  refine KE3_pc ?_
  refine KE3_pc ?_
  refine KE3_pc ?_
  refine KE3_pc ?_
  refine KE3_bc (e3_F_X9_rewind.tr (fe3_xI (by decide) (fe3_xI (by decide) (fe3_xI (by decide) (fe3_xI (by decide) (fe3_xF (by decide) je3_rf)))))) (fun _ _ => ?_)
  exact (e3_LP_X3_make_57  _ _).tr je3_rf
theorem e3_F_X3_make {N : Nat} {l1 : Nat} {u : CSt}  : KE3 (F_X3_make N l1 u) u := by
  unfold F_X3_make
  exact e3_B_X3_make_0.tr je3_rf
theorem e3_B_X11_append_3 {N : Nat} {R_3 : Int32 × Int32 × CSt → Option (Int32 × CSt)} {l1 : Int32} {l2 : Int32} {u : CSt} (h_R_3 : ∀ a, KE3 (R_3 a) a.2.2) : KE3 (B_X11_append_3 N R_3 l1 l2 u) u := by
  unfold B_X11_append_3
  refine KE3_if ?_ ?_
  · skip
    exact KE3_some je3_rf
  · skip
    refine KE3_if ?_ ?_
    · skip
      exact KE3_some je3_rf
    · skip
      refine KE3_wc ?_
      refine KE3_pc ?_
      exact (h_R_3 _).tr (fe3_xI (by decide) (fe3_xA (by decide) je3_rf))
theorem e3_LP_X11_append_3 {N : Nat}  (n : Nat) : ∀ a : Int32 × Int32 × CSt, KE3 (LP_X11_append_3 N n a) a.2.2 := by
  induction n with
  | zero => exact fun a r z e => by have e : (none : Option _) = some (r, z) := e; cases e
  | succ n ih =>
    intro a
    show KE3 (B_X11_append_3 N (LP_X11_append_3 N n) a.1 a.2.1 a.2.2) a.2.2
    exact e3_B_X11_append_3 ih
theorem e3_B_X11_append_0 {N : Nat} {l1 : Int32} {u : CSt}  : KE3 (B_X11_append_0 N l1 u) u := by
  unfold B_X11_append_0
  exact (e3_LP_X11_append_3  _ _).tr je3_rf
theorem e3_F_X11_append {N : Nat} {l1 : Int32} {u : CSt}  : KE3 (F_X11_append N l1 u) u := by
  unfold F_X11_append
  exact e3_B_X11_append_0.tr je3_rf
theorem e3_B_X11_feed_0 {N : Nat} {l1 : Int32} {l2 : Int32} {l3 : Int32} {l4 : Int32} {l5 : Int32} {u : CSt}  : KE3 (B_X11_feed_0 N l1 l2 l3 l4 l5 u) u := by
  unfold B_X11_feed_0
  refine KE3_if ?_ ?_
  · skip
    refine KE3_bc (e3_F_X11_append.tr je3_rf) (fun _ _ => ?_)
    refine KE3_bc (e3_F_X11_append.tr je3_rf) (fun _ _ => ?_)
    refine KE3_bc (e3_F_X11_append.tr je3_rf) (fun _ _ => ?_)
    refine KE3_bc (e3_F_X11_append.tr je3_rf) (fun _ _ => ?_)
    refine KE3_bc (e3_F_X11_append.tr je3_rf) (fun _ _ => ?_)
    exact KE3_some je3_rf
  · skip
    exact KE3_some je3_rf
theorem e3_F_X11_feed {N : Nat} {l1 : Int32} {l2 : Int32} {l3 : Int32} {l4 : Int32} {l5 : Int32} {u : CSt}  : KE3 (F_X11_feed N l1 l2 l3 l4 l5 u) u := by
  unfold F_X11_feed
  exact e3_B_X11_feed_0.tr je3_rf
theorem e3_B_X11_end_0 {N : Nat} {l1 : Int32} {u : CSt}  : KE3 (B_X11_end_0 N l1 u) u := by
  unfold B_X11_end_0
  refine KE3_if ?_ ?_
  · skip
    exact KE3_some je3_rf
  · skip
    refine KE3_if ?_ ?_
    · skip
      refine KE3_pc ?_
      exact KE3_some (fe3_xI (by decide) je3_rf)
    · skip
      exact KE3_some je3_rf
theorem e3_F_X11_end {N : Nat} {l1 : Int32} {u : CSt}  : KE3 (F_X11_end N l1 u) u := by
  unfold F_X11_end
  exact e3_B_X11_end_0.tr je3_rf
theorem e3_B_X11_place_0 {N : Nat} {u : CSt}  : KE3 (B_X11_place_0 N u) u := by
  unfold B_X11_place_0
  exact KE3_some je3_rf
theorem e3_F_X11_place {N : Nat} {u : CSt}  : KE3 (F_X11_place N u) u := by
  unfold F_X11_place
  exact e3_B_X11_place_0.tr je3_rf
theorem e3_B_X11_hasPlace_0 {N : Nat} {l1 : Int32} {l2 : Int32} {u : CSt}  : KE3 (B_X11_hasPlace_0 N l1 l2 u) u := by
  unfold B_X11_hasPlace_0
  refine KE3_ok ?_
  refine KE3_bc (e3_F_X6_has.tr je3_rf) (fun _ _ => ?_)
  refine KE3_if ?_ ?_
  · skip
    exact KE3_some je3_rf
  · skip
    refine KE3_if ?_ ?_
    · skip
      exact KE3_some je3_rf
    · skip
      refine KE3_ok ?_
      refine KE3_bc (e3_F_X6_nth.tr je3_rf) (fun _ _ => ?_)
      refine KE3_ok ?_
      refine KE3_if ?_ ?_
      · skip
        exact KE3_some je3_rf
      · skip
        exact KE3_some je3_rf
theorem e3_F_X11_hasPlace {N : Nat} {l1 : Int32} {l2 : Int32} {u : CSt}  : KE3 (F_X11_hasPlace N l1 l2 u) u := by
  unfold F_X11_hasPlace
  exact e3_B_X11_hasPlace_0.tr je3_rf
theorem e3_B_X11_look_0 {N : Nat} {l1 : Int32} {l2 : Int32} {u : CSt}  : KE3 (B_X11_look_0 N l1 l2 u) u := by
  unfold B_X11_look_0
  refine KE3_if ?_ ?_
  · skip
    exact KE3_some je3_rf
  · skip
    refine KE3_if ?_ ?_
    · skip
      refine KE3_if ?_ ?_
      · skip
        exact KE3_some je3_rf
      · skip
        refine KE3_if ?_ ?_
        · skip
          refine KE3_ix ?_
          refine KE3_rd (fun _ => ?_)
          exact KE3_some je3_rf
        · skip
          exact KE3_some je3_rf
    · skip
      exact KE3_some je3_rf
theorem e3_F_X11_look {N : Nat} {l1 : Int32} {l2 : Int32} {u : CSt}  : KE3 (F_X11_look N l1 l2 u) u := by
  unfold F_X11_look
  exact e3_B_X11_look_0.tr je3_rf
theorem e3_B_X11_task_0 {N : Nat} {l1 : Int32} {l2 : Int32} {u : CSt}  : KE3 (B_X11_task_0 N l1 l2 u) u := by
  unfold B_X11_task_0
  refine KE3_ok ?_
  refine KE3_bc (e3_F_X6_has.tr je3_rf) (fun _ _ => ?_)
  refine KE3_if ?_ ?_
  · skip
    exact KE3_some je3_rf
  · skip
    refine KE3_ok ?_
    refine KE3_ix ?_
    refine KE3_if ?_ ?_
    · skip
      exact KE3_some je3_rf
    · skip
      refine KE3_if ?_ ?_
      · skip
        exact KE3_some je3_rf
      · skip
        refine KE3_if ?_ ?_
        · skip
          refine KE3_if ?_ ?_
          · skip
            exact KE3_some je3_rf
          · skip
            exact KE3_some je3_rf
        · skip
          refine KE3_if ?_ ?_
          · skip
            exact KE3_some je3_rf
          · skip
            refine KE3_if ?_ ?_
            · skip
              exact KE3_some je3_rf
            · skip
              refine KE3_if ?_ ?_
              · skip
                exact KE3_some je3_rf
              · skip
                refine KE3_if ?_ ?_
                · skip
                  exact KE3_some je3_rf
                · skip
                  refine KE3_if ?_ ?_
                  · skip
                    exact KE3_some je3_rf
                  · skip
                    refine KE3_if ?_ ?_
                    · skip
                      exact KE3_some je3_rf
                    · skip
                      exact KE3_some je3_rf
theorem e3_F_X11_task {N : Nat} {l1 : Int32} {l2 : Int32} {u : CSt}  : KE3 (F_X11_task N l1 l2 u) u := by
  unfold F_X11_task
  exact e3_B_X11_task_0.tr je3_rf
theorem e3_B_X11_value_0 {N : Nat} {l1 : Int32} {l2 : Int32} {u : CSt}  : KE3 (B_X11_value_0 N l1 l2 u) u := by
  unfold B_X11_value_0
  refine KE3_bc (e3_F_X11_hasPlace.tr je3_rf) (fun _ _ => ?_)
  refine KE3_if ?_ ?_
  · skip
    exact KE3_some je3_rf
  · skip
    refine KE3_ok ?_
    refine KE3_bc (e3_F_X6_nth.tr je3_rf) (fun _ _ => ?_)
    refine KE3_ok ?_
    refine KE3_bc (e3_F_X2_numberOf.tr je3_rf) (fun _ _ => ?_)
    exact KE3_some je3_rf
theorem e3_F_X11_value {N : Nat} {l1 : Int32} {l2 : Int32} {u : CSt}  : KE3 (F_X11_value N l1 l2 u) u := by
  unfold F_X11_value
  exact e3_B_X11_value_0.tr je3_rf
theorem e3_B_X11_variable_0 {N : Nat} {l1 : Int32} {l2 : Int32} {u : CSt}  : KE3 (B_X11_variable_0 N l1 l2 u) u := by
  unfold B_X11_variable_0
  refine KE3_ok ?_
  refine KE3_bc (e3_F_X6_has.tr je3_rf) (fun _ _ => ?_)
  refine KE3_if ?_ ?_
  · skip
    exact KE3_some je3_rf
  · skip
    refine KE3_ok ?_
    refine KE3_bc (e3_F_X6_nth.tr je3_rf) (fun _ _ => ?_)
    refine KE3_ok ?_
    refine KE3_if ?_ ?_
    · skip
      exact KE3_some je3_rf
    · skip
      refine KE3_if ?_ ?_
      · skip
        exact KE3_some je3_rf
      · skip
        refine KE3_if ?_ ?_
        · skip
          exact KE3_some je3_rf
        · skip
          refine KE3_if ?_ ?_
          · skip
            refine KE3_if ?_ ?_
            · skip
              exact KE3_some je3_rf
            · skip
              exact KE3_some je3_rf
          · skip
            refine KE3_if ?_ ?_
            · skip
              refine KE3_bc (e3_F_X4_isPlaced.tr je3_rf) (fun _ _ => ?_)
              refine KE3_if ?_ ?_
              · skip
                exact KE3_some je3_rf
              · skip
                exact KE3_some je3_rf
            · skip
              exact KE3_some je3_rf
theorem e3_F_X11_variable {N : Nat} {l1 : Int32} {l2 : Int32} {u : CSt}  : KE3 (F_X11_variable N l1 l2 u) u := by
  unfold F_X11_variable
  exact e3_B_X11_variable_0.tr je3_rf
theorem e3_B_X11_field_0 {N : Nat} {l1 : Int32} {l2 : Int32} {l3 : Int32} {u : CSt}  : KE3 (B_X11_field_0 N l1 l2 l3 u) u := by
  unfold B_X11_field_0
  refine KE3_ok ?_
  refine KE3_bc (e3_F_X6_has.tr je3_rf) (fun _ _ => ?_)
  refine KE3_if ?_ ?_
  · skip
    exact KE3_some je3_rf
  · skip
    refine KE3_ok ?_
    refine KE3_bc (e3_F_X6_nth.tr je3_rf) (fun _ _ => ?_)
    refine KE3_ok ?_
    refine KE3_ok ?_
    refine KE3_bc (e3_F_X6_name.tr je3_rf) (fun _ _ => ?_)
    refine KE3_ok ?_
    refine KE3_bc (e3_F_X6_local.tr je3_rf) (fun _ _ => ?_)
    refine KE3_ok ?_
    refine KE3_if ?_ ?_
    · skip
      exact KE3_some je3_rf
    · skip
      refine KE3_if ?_ ?_
      · skip
        exact KE3_some je3_rf
      · skip
        refine KE3_if ?_ ?_
        · skip
          refine KE3_bc (e3_F_X2_numberAt.tr je3_rf) (fun _ _ => ?_)
          exact KE3_some je3_rf
        · skip
          exact KE3_some je3_rf
theorem e3_F_X11_field {N : Nat} {l1 : Int32} {l2 : Int32} {l3 : Int32} {u : CSt}  : KE3 (F_X11_field N l1 l2 l3 u) u := by
  unfold F_X11_field
  exact e3_B_X11_field_0.tr je3_rf
theorem e3_B_X11_find_0 {N : Nat} {l1 : Int32} {u : CSt}  : KE3 (B_X11_find_0 N l1 u) u := by
  unfold B_X11_find_0
  refine KE3_if ?_ ?_
  · skip
    exact KE3_some je3_rf
  · skip
    refine KE3_if ?_ ?_
    · skip
      refine KE3_bc (e3_F_X9_isWord.tr je3_rf) (fun _ _ => ?_)
      refine KE3_if ?_ ?_
      · skip
        exact KE3_some je3_rf
      · skip
        refine KE3_ok ?_
        refine KE3_bc (e3_F_X9_wordHead.tr je3_rf) (fun _ _ => ?_)
        refine KE3_bc (e3_F_X9_wordTail.tr je3_rf) (fun _ _ => ?_)
        refine KE3_bc (e3_F_X6_ofText.tr je3_rf) (fun _ _ => ?_)
        refine KE3_ok ?_
        refine KE3_if ?_ ?_
        · skip
          exact KE3_some je3_rf
        · skip
          exact KE3_some je3_rf
    · skip
      exact KE3_some je3_rf
theorem e3_F_X11_find {N : Nat} {l1 : Int32} {u : CSt}  : KE3 (F_X11_find N l1 u) u := by
  unfold F_X11_find
  exact e3_B_X11_find_0.tr je3_rf
theorem e3_B_X11_event_0 {N : Nat} {l1 : Int32} {l2 : Int32} {u : CSt}  : KE3 (B_X11_event_0 N l1 l2 u) u := by
  unfold B_X11_event_0
  refine KE3_if ?_ ?_
  · skip
    exact KE3_some je3_rf
  · skip
    refine KE3_if ?_ ?_
    · skip
      refine KE3_bc (e3_F_X10_latest.tr je3_rf) (fun _ _ => ?_)
      refine KE3_if ?_ ?_
      · skip
        refine KE3_rd (fun _ => ?_)
        exact KE3_some je3_rf
      · skip
        refine KE3_if ?_ ?_
        · skip
          refine KE3_rd (fun _ => ?_)
          exact KE3_some je3_rf
        · skip
          refine KE3_if ?_ ?_
          · skip
            refine KE3_rd (fun _ => ?_)
            exact KE3_some je3_rf
          · skip
            refine KE3_if ?_ ?_
            · skip
              refine KE3_rd (fun _ => ?_)
              exact KE3_some je3_rf
            · skip
              exact KE3_some je3_rf
    · skip
      exact KE3_some je3_rf
theorem e3_F_X11_event {N : Nat} {l1 : Int32} {l2 : Int32} {u : CSt}  : KE3 (F_X11_event N l1 l2 u) u := by
  unfold F_X11_event
  exact e3_B_X11_event_0.tr je3_rf
theorem e3_B_X11_count_0 {N : Nat} {l1 : Int32} {u : CSt}  : KE3 (B_X11_count_0 N l1 u) u := by
  unfold B_X11_count_0
  refine KE3_if ?_ ?_
  · skip
    refine KE3_ok ?_
    refine KE3_bc (e3_F_X6_ofSort.tr je3_rf) (fun _ _ => ?_)
    exact KE3_some je3_rf
  · skip
    refine KE3_if ?_ ?_
    · skip
      refine KE3_ok ?_
      refine KE3_bc (e3_F_X6_ofSort.tr je3_rf) (fun _ _ => ?_)
      exact KE3_some je3_rf
    · skip
      refine KE3_if ?_ ?_
      · skip
        refine KE3_ok ?_
        refine KE3_bc (e3_F_X6_ofSort.tr je3_rf) (fun _ _ => ?_)
        exact KE3_some je3_rf
      · skip
        refine KE3_if ?_ ?_
        · skip
          refine KE3_ok ?_
          refine KE3_bc (e3_F_X6_ofSort.tr je3_rf) (fun _ _ => ?_)
          exact KE3_some je3_rf
        · skip
          refine KE3_if ?_ ?_
          · skip
            refine KE3_ok ?_
            refine KE3_bc (e3_F_X6_ofSort.tr je3_rf) (fun _ _ => ?_)
            exact KE3_some je3_rf
          · skip
            refine KE3_if ?_ ?_
            · skip
              exact KE3_some je3_rf
            · skip
              refine KE3_if ?_ ?_
              · skip
                refine KE3_ok ?_
                refine KE3_bc (e3_F_X6_stoppedTasks.tr je3_rf) (fun _ _ => ?_)
                exact KE3_some je3_rf
              · skip
                refine KE3_if ?_ ?_
                · skip
                  exact KE3_some je3_rf
                · skip
                  refine KE3_if ?_ ?_
                  · skip
                    exact KE3_some je3_rf
                  · skip
                    refine KE3_if ?_ ?_
                    · skip
                      exact KE3_some je3_rf
                    · skip
                      refine KE3_if ?_ ?_
                      · skip
                        exact KE3_some je3_rf
                      · skip
                        exact KE3_some je3_rf
theorem e3_F_X11_count {N : Nat} {l1 : Int32} {u : CSt}  : KE3 (F_X11_count N l1 u) u := by
  unfold F_X11_count
  exact e3_B_X11_count_0.tr je3_rf
theorem e3_B_X11_sum_30 {N : Nat} {R_4 : Int64 × Int32 × CSt → Option (Int64 × CSt)} {R_30 : Int64 × Int32 × Nat × Int32 × CSt → Option (Int64 × CSt)} {l1 : Int64} {l3 : Int32} {l4 : Nat} {l5 : Int32} {u : CSt} (h_R_4 : ∀ a, KE3 (R_4 a) a.2.2) (h_R_30 : ∀ a, KE3 (R_30 a) a.2.2.2.2) : KE3 (B_X11_sum_30 N R_4 R_30 l1 l3 l4 l5 u) u := by
  unfold B_X11_sum_30
  refine KE3_if ?_ ?_
  · skip
    exact (h_R_4 _).tr je3_rf
  · skip
    refine KE3_bc (e3_F_X2_numberOf.tr je3_rf) (fun _ _ => ?_)
    exact (h_R_30 _).tr je3_rf
theorem e3_LP_X11_sum_30 {N : Nat} {R_4 : Int64 × Int32 × CSt → Option (Int64 × CSt)} (h_R_4 : ∀ a, KE3 (R_4 a) a.2.2) (n : Nat) : ∀ a : Int64 × Int32 × Nat × Int32 × CSt, KE3 (LP_X11_sum_30 N R_4 n a) a.2.2.2.2 := by
  induction n with
  | zero => exact fun a r z e => by have e : (none : Option _) = some (r, z) := e; cases e
  | succ n ih =>
    intro a
    show KE3 (B_X11_sum_30 N R_4 (LP_X11_sum_30 N R_4 n) a.1 a.2.1 a.2.2.1 a.2.2.2.1 a.2.2.2.2) a.2.2.2.2
    exact e3_B_X11_sum_30 h_R_4 ih
theorem e3_B_X11_sum_115 {N : Nat} {R_72 : Int64 × Int32 × CSt → Option (Int64 × CSt)} {R_115 : Int64 × Int32 × Nat × Int32 × Int32 × CSt → Option (Int64 × CSt)} {l1 : Int64} {l3 : Int32} {l4 : Nat} {l5 : Int32} {l6 : Int32} {u : CSt} (h_R_72 : ∀ a, KE3 (R_72 a) a.2.2) (h_R_115 : ∀ a, KE3 (R_115 a) a.2.2.2.2.2) : KE3 (B_X11_sum_115 N R_72 R_115 l1 l3 l4 l5 l6 u) u := by
  unfold B_X11_sum_115
  refine KE3_if ?_ ?_
  · skip
    exact (h_R_72 _).tr je3_rf
  · skip
    refine KE3_bc (e3_F_X2_numberAt.tr je3_rf) (fun _ _ => ?_)
    exact (h_R_115 _).tr je3_rf
theorem e3_LP_X11_sum_115 {N : Nat} {R_72 : Int64 × Int32 × CSt → Option (Int64 × CSt)} (h_R_72 : ∀ a, KE3 (R_72 a) a.2.2) (n : Nat) : ∀ a : Int64 × Int32 × Nat × Int32 × Int32 × CSt, KE3 (LP_X11_sum_115 N R_72 n a) a.2.2.2.2.2 := by
  induction n with
  | zero => exact fun a r z e => by have e : (none : Option _) = some (r, z) := e; cases e
  | succ n ih =>
    intro a
    show KE3 (B_X11_sum_115 N R_72 (LP_X11_sum_115 N R_72 n) a.1 a.2.1 a.2.2.1 a.2.2.2.1 a.2.2.2.2.1 a.2.2.2.2.2) a.2.2.2.2.2
    exact e3_B_X11_sum_115 h_R_72 ih
theorem e3_B_X11_sum_72 {N : Nat} {R_72 : Int64 × Int32 × CSt → Option (Int64 × CSt)} {l1 : Int64} {l3 : Int32} {u : CSt} (h_R_72 : ∀ a, KE3 (R_72 a) a.2.2) : KE3 (B_X11_sum_72 N R_72 l1 l3 u) u := by
  unfold B_X11_sum_72
  refine KE3_ok ?_
  refine KE3_bc (e3_F_X6_ofSort.tr je3_rf) (fun _ _ => ?_)
  refine KE3_if ?_ ?_
  · skip
    exact KE3_some je3_rf
  · skip
    refine KE3_ok ?_
    refine KE3_bc (e3_F_X6_nth.tr je3_rf) (fun _ _ => ?_)
    refine KE3_ok ?_
    refine KE3_ok ?_
    refine KE3_bc (e3_F_X6_name.tr je3_rf) (fun _ _ => ?_)
    refine KE3_ok ?_
    exact (e3_LP_X11_sum_115 h_R_72 _ _).tr je3_rf
theorem e3_LP_X11_sum_72 {N : Nat}  (n : Nat) : ∀ a : Int64 × Int32 × CSt, KE3 (LP_X11_sum_72 N n a) a.2.2 := by
  induction n with
  | zero => exact fun a r z e => by have e : (none : Option _) = some (r, z) := e; cases e
  | succ n ih =>
    intro a
    show KE3 (B_X11_sum_72 N (LP_X11_sum_72 N n) a.1 a.2.1 a.2.2) a.2.2
    exact e3_B_X11_sum_72 ih
theorem e3_B_X11_sum_4 {N : Nat} {R_4 : Int64 × Int32 × CSt → Option (Int64 × CSt)} {l1 : Int64} {l3 : Int32} {u : CSt} (h_R_4 : ∀ a, KE3 (R_4 a) a.2.2) : KE3 (B_X11_sum_4 N R_4 l1 l3 u) u := by
  unfold B_X11_sum_4
  refine KE3_ok ?_
  refine KE3_bc (e3_F_X6_ofSort.tr je3_rf) (fun _ _ => ?_)
  refine KE3_if ?_ ?_
  · skip
    exact (e3_LP_X11_sum_72  _ _).tr je3_rf
  · skip
    refine KE3_ok ?_
    refine KE3_bc (e3_F_X6_nth.tr je3_rf) (fun _ _ => ?_)
    refine KE3_ok ?_
    exact (e3_LP_X11_sum_30 h_R_4 _ _).tr je3_rf
theorem e3_LP_X11_sum_4 {N : Nat}  (n : Nat) : ∀ a : Int64 × Int32 × CSt, KE3 (LP_X11_sum_4 N n a) a.2.2 := by
  induction n with
  | zero => exact fun a r z e => by have e : (none : Option _) = some (r, z) := e; cases e
  | succ n ih =>
    intro a
    show KE3 (B_X11_sum_4 N (LP_X11_sum_4 N n) a.1 a.2.1 a.2.2) a.2.2
    exact e3_B_X11_sum_4 ih
theorem e3_B_X11_sum_0 {N : Nat} {u : CSt}  : KE3 (B_X11_sum_0 N u) u := by
  unfold B_X11_sum_0
  exact (e3_LP_X11_sum_4  _ _).tr je3_rf
theorem e3_F_X11_sum {N : Nat} {u : CSt}  : KE3 (F_X11_sum N u) u := by
  unfold F_X11_sum
  exact e3_B_X11_sum_0.tr je3_rf
theorem e3_B_X11_cut_0 {N : Nat} {l1 : Int32} {l2 : Int64} {u : CSt}  : KE3 (B_X11_cut_0 N l1 l2 u) u := by
  unfold B_X11_cut_0
  refine KE3_if ?_ ?_
  · skip
    exact KE3_some je3_rf
  · skip
    exact KE3_some je3_rf
theorem e3_F_X11_cut {N : Nat} {l1 : Int32} {l2 : Int64} {u : CSt}  : KE3 (F_X11_cut N l1 l2 u) u := by
  unfold F_X11_cut
  exact e3_B_X11_cut_0.tr je3_rf
theorem e3_B_X11_work_68 {N : Nat} {l1 : Int32} {l2 : Int32} {l3 : Int32} {l4 : Int64} {l8 : Int64} {u : CSt}  : KE3 (B_X11_work_68 N l1 l2 l3 l4 l8 u) u := by
  unfold B_X11_work_68
  exact KE3_some je3_rf
theorem e3_B_X11_work_0 {N : Nat} {l1 : Int32} {l2 : Int32} {l3 : Int32} {l4 : Int64} {l6 : Int64} {u : CSt}  : KE3 (B_X11_work_0 N l1 l2 l3 l4 l6 u) u := by
  unfold B_X11_work_0
  refine KE3_if ?_ ?_
  · skip
    exact KE3_some je3_rf
  · skip
    refine KE3_if ?_ ?_
    · skip
      exact KE3_some je3_rf
    · skip
      refine KE3_if ?_ ?_
      · skip
        exact KE3_some je3_rf
      · skip
        refine KE3_if ?_ ?_
        · skip
          refine KE3_if ?_ ?_
          · skip
            refine KE3_if ?_ ?_
            · skip
              exact e3_B_X11_work_68.tr je3_rf
            · skip
              exact KE3_some je3_rf
          · skip
            exact e3_B_X11_work_68.tr je3_rf
        · skip
          exact KE3_some je3_rf
theorem e3_F_X11_work {N : Nat} {l1 : Int32} {l2 : Int32} {l3 : Int32} {l4 : Int64} {l6 : Int64} {u : CSt}  : KE3 (F_X11_work N l1 l2 l3 l4 l6 u) u := by
  unfold F_X11_work
  exact e3_B_X11_work_0.tr je3_rf
theorem e3_B_X11_tell_46 {N : Nat} {l2 : Int32} {l3 : Int32} {l4 : Int64} {l6 : Int64} {s0 : Int32} {s1 : Int32} {u : CSt}  : KE3 (B_X11_tell_46 N l2 l3 l4 l6 s0 s1 u) u := by
  unfold B_X11_tell_46
  exact KE3_some je3_rf
theorem e3_B_X11_tell_0 {N : Nat} {l1 : Int32} {l2 : Int32} {l3 : Int32} {l4 : Int64} {l6 : Int64} {u : CSt}  : KE3 (B_X11_tell_0 N l1 l2 l3 l4 l6 u) u := by
  unfold B_X11_tell_0
  refine KE3_if ?_ ?_
  · skip
    exact KE3_some je3_rf
  · skip
    refine KE3_if ?_ ?_
    · skip
      exact KE3_some je3_rf
    · skip
      refine KE3_if ?_ ?_
      · skip
        exact KE3_some je3_rf
      · skip
        refine KE3_if ?_ ?_
        · skip
          refine KE3_if ?_ ?_
          · skip
            exact e3_B_X11_tell_46.tr je3_rf
          · skip
            exact e3_B_X11_tell_46.tr je3_rf
        · skip
          exact KE3_some je3_rf
theorem e3_F_X11_tell {N : Nat} {l1 : Int32} {l2 : Int32} {l3 : Int32} {l4 : Int64} {l6 : Int64} {u : CSt}  : KE3 (F_X11_tell N l1 l2 l3 l4 l6 u) u := by
  unfold F_X11_tell
  exact e3_B_X11_tell_0.tr je3_rf
def qfI : List Nat := [1, 2, 10, 11]
def qfA : List Nat := [211, 212, 213, 214, 215, 216, 217, 218, 223, 224, 225]
def qfB : List Nat := [226, 235]
def je6 (u w : CSt) : Prop := (∀ k, k ∈ qfI → cI w k = cI u k) ∧ (∀ k, k ∈ qfA → cA w k = cA u k) ∧ (∀ k, k ∈ qfB → cB w k = cB u k)
def KE6 {β : Type} (x : Option (β × CSt)) (u : CSt) : Prop := ∀ r w, x = some (r, w) → je6 u w
section KE6s
variable {α β γ : Type} {u v w : CSt}
theorem je6_rf : je6 u u := ⟨fun _ _ => rfl, fun _ _ => rfl, fun _ _ => rfl⟩
theorem je6_tr (h : je6 u v) (h2 : je6 v w) : je6 u w := ⟨fun k hk => (h2.1 k hk).trans (h.1 k hk), fun k hk => (h2.2.1 k hk).trans (h.2.1 k hk), fun k hk => (h2.2.2 k hk).trans (h.2.2 k hk)⟩
theorem KE6.tr {x : Option (β × CSt)} (hx : KE6 x w) (h : je6 u w) : KE6 x u := fun r z e => je6_tr h (hx r z e)
theorem fe6_xI {k : Nat} {a : Int32} (hk : k ∉ qfI) (h : je6 u w) : je6 u (xI w k a) := by
  refine je6_tr h ⟨fun j hj => ?_, fun _ _ => rfl, fun _ _ => rfl⟩
  show (if j = k then a else cI w j) = _
  rw [if_neg (fun z : j = k => hk (z ▸ hj))]
theorem fe6_xA {k i : Nat} {a : Int32} (hk : k ∉ qfA) (h : je6 u w) : je6 u (xA w k i a) := by
  refine je6_tr h ⟨fun _ _ => rfl, fun j hj => ?_, fun _ _ => rfl⟩
  show (if j = k then upd (cA w k) i a else cA w j) = _
  rw [if_neg (fun z : j = k => hk (z ▸ hj))]
theorem fe6_xF {k : Nat} {g : Nat → Int32} (hk : k ∉ qfA) (h : je6 u w) : je6 u (xF w k g) := by
  refine je6_tr h ⟨fun _ _ => rfl, fun j hj => ?_, fun _ _ => rfl⟩
  show (if j = k then g else cA w j) = _
  rw [if_neg (fun z : j = k => hk (z ▸ hj))]
theorem fe6_xB {k i : Nat} {a : Int64} (hk : k ∉ qfB) (h : je6 u w) : je6 u (xB w k i a) := by
  refine je6_tr h ⟨fun _ _ => rfl, fun _ _ => rfl, fun j hj => ?_⟩
  show (if j = k then vp_updL (cB w k) i a else cB w j) = _
  rw [if_neg (fun z : j = k => hk (z ▸ hj))]
theorem fe6_xG {k : Nat} {g : Nat → Int64} (hk : k ∉ qfB) (h : je6 u w) : je6 u (xG w k g) := by
  refine je6_tr h ⟨fun _ _ => rfl, fun _ _ => rfl, fun j hj => ?_⟩
  show (if j = k then g else cB w j) = _
  rw [if_neg (fun z : j = k => hk (z ▸ hj))]
theorem fe6_xL {k : Nat} {a : Int64} (h : je6 u w) : je6 u (xL w k a) := h
theorem fe6_xpI {q k : Nat} {a : Int32} (h : je6 u w) : je6 u (xpI w q k a) := h
theorem fe6_xpA {q k i : Nat} {a : Int32} (h : je6 u w) : je6 u (xpA w q k i a) := h
theorem fe6_xpF {q k : Nat} {g : Nat → Int32} (h : je6 u w) : je6 u (xpF w q k g) := h
theorem fe6_xpB {q k i : Nat} {a : Int64} (h : je6 u w) : je6 u (xpB w q k i a) := h
theorem fe6_xtI {q k : Nat} {a : Int32} (h : je6 u w) : je6 u (xtI w q k a) := h
theorem fe6_xR {k a : Nat} (h : je6 u w) : je6 u (xR w k a) := h
theorem fe6_xmI {q k : Nat} {a : Int32} (h : je6 u w) : je6 u (xmI w q k a) := h
theorem fe6_xmL {q k : Nat} {a : Int64} (h : je6 u w) : je6 u (xmL w q k a) := h
theorem KE6_some {r : β} (h : je6 u w) : KE6 (some (r, w)) u := fun _ _ e => by cases e; exact h
theorem KE6_none : KE6 (none : Option (β × CSt)) u := fun _ _ e => nomatch e
theorem KE6_rd {f : Nat → α} {n : Nat} {i : Int32} {k : α → Option (β × CSt)} (h : ∀ a, KE6 (k a) u) : KE6 (rd f n i k) u := by
  intro r z e
  have q : wq (rd f n i k) (fun r' z' => r' = r ∧ z' = z) := ⟨r, z, e, rfl, rfl⟩
  obtain ⟨r1, z1, e1, rfl, rfl⟩ := (wq_rd.mp q).2
  exact h _ _ _ e1
theorem KE6_if {c : Prop} {d : Decidable c} {a b : Option (β × CSt)} (ha : KE6 a u) (hb : KE6 b u) : KE6 (if c then a else b) u := by
  by_cases q : c
  · rw [if_pos q]; exact ha
  · rw [if_neg q]; exact hb
theorem KE6_zr {v : Int32} {x : Option (β × CSt)} (h : KE6 x u) : KE6 (zr v x) u := fun r z e => h r z (zr_of e).2
theorem KE6_nz {v : Int32} {x : Option (β × CSt)} (h : KE6 x u) : KE6 (nz v x) u := fun r z e => h r z (nz_of e).2
theorem KE6_ok {P : Prop} {d : Decidable P} {x : Option (β × CSt)} (h : KE6 x u) : KE6 (ok P d x) u := fun r z e => h r z (ok_of e).2
theorem KE6_pc {x : CSt} {k : CSt → Option (β × CSt)} (h : KE6 (k x) u) : KE6 (pc x k) u := h
theorem KE6_wc {n : Nat} {i : Int32} {x : CSt} {k : CSt → Option (β × CSt)} (h : KE6 (k x) u) : KE6 (wc n i x k) u := by
  intro r z e
  have q : wq (wc n i x k) (fun r' z' => r' = r ∧ z' = z) := ⟨r, z, e, rfl, rfl⟩
  obtain ⟨r1, z1, e1, rfl, rfl⟩ := (wq_wc.mp q).2
  exact h _ _ e1
theorem KE6_bc {x : Option (α × CSt)} {k : α → CSt → Option (β × CSt)} (hx : KE6 x u) (h : ∀ r w, KE6 (k r w) w) : KE6 (bc x k) u := by
  intro r z e
  have q : wq (bc x k) (fun r' z' => r' = r ∧ z' = z) := ⟨r, z, e, rfl, rfl⟩
  obtain ⟨r1, z1, e1, r2, z2, e2, rfl, rfl⟩ := wq_bc.mp q
  exact je6_tr (hx _ _ e1) (h _ _ _ _ e2)
theorem KE6_pb {x : Option α} {k : α → Option (β × CSt)} (h : ∀ a, KE6 (k a) u) : KE6 (pb x k) u := by
  intro r z e
  have q : wq (pb x k) (fun r' z' => r' = r ∧ z' = z) := ⟨r, z, e, rfl, rfl⟩
  obtain ⟨a, -, r1, z1, e1, rfl, rfl⟩ := wq_pb.mp q
  exact h _ _ _ e1
theorem KE6_bt {x : Option (Sum Nat α × CSt)} {k : α → CSt → Option (Sum Nat γ × CSt)} (hx : KE6 x u) (h : ∀ r w, KE6 (k r w) w) : KE6 (bt x k) u := by
  intro r z e
  unfold bt at e
  cases hq : x with
  | none => rw [hq] at e; cases e
  | some a =>
    obtain ⟨y, v⟩ := a
    rw [hq] at e
    cases y with
    | inl n => cases e; exact hx _ _ hq
    | inr b => exact je6_tr (hx _ _ hq) (h _ _ _ _ e)
theorem KE6_ix {n : Nat} {i : Int32} {x : Option (β × CSt)} (h : KE6 x u) : KE6 (ix n i x) u := by
  intro r z e
  have q : wq (ix n i x) (fun r' z' => r' = r ∧ z' = z) := ⟨r, z, e, rfl, rfl⟩
  obtain ⟨r1, z1, e1, rfl, rfl⟩ := (wq_ix.mp q).2
  exact h _ _ e1
theorem KE6_bh {x : Option (Sum Nat α × CSt)} {kc : CSt → Option (β × CSt)} {k : α → CSt → Option (β × CSt)} (hx : KE6 x u) (h0 : ∀ w, KE6 (kc w) w) (h : ∀ r w, KE6 (k r w) w) : KE6 (bh x kc k) u := by
  intro r z e
  obtain ⟨y1, w1, e1, ⟨-, e2⟩ | ⟨q, -, e2⟩⟩ := bh_of e
  · exact je6_tr (hx _ _ e1) (h0 _ _ _ e2)
  · exact je6_tr (hx _ _ e1) (h _ _ _ _ e2)
end KE6s
theorem e6_B_X4_isPlaced_23 {N : Nat} {u : CSt}  : KE6 (B_X4_isPlaced_23 N u) u := by
  unfold B_X4_isPlaced_23
  exact KE6_some je6_rf
theorem e6_B_X4_isPlaced_0 {N : Nat} {l0 : Nat} {u : CSt}  : KE6 (B_X4_isPlaced_0 N l0 u) u := by
  unfold B_X4_isPlaced_0
  refine KE6_if ?_ ?_
  · skip
    refine KE6_if ?_ ?_
    · skip
      exact e6_B_X4_isPlaced_23.tr je6_rf
    · skip
      refine KE6_if ?_ ?_
      · skip
        exact e6_B_X4_isPlaced_23.tr je6_rf
      · skip
        exact KE6_some je6_rf
  · skip
    exact KE6_some je6_rf
theorem e6_F_X4_isPlaced {N : Nat} {l0 : Nat} {u : CSt}  : KE6 (F_X4_isPlaced N l0 u) u := by
  unfold F_X4_isPlaced
  exact e6_B_X4_isPlaced_0.tr je6_rf
theorem e6_B_X4_isInput_0 {N : Nat} {l0 : Nat} {u : CSt}  : KE6 (B_X4_isInput_0 N l0 u) u := by
  unfold B_X4_isInput_0
  refine KE6_if ?_ ?_
  · skip
    refine KE6_if ?_ ?_
    · skip
      exact KE6_some je6_rf
    · skip
      exact KE6_some je6_rf
  · skip
    exact KE6_some je6_rf
theorem e6_F_X4_isInput {N : Nat} {l0 : Nat} {u : CSt}  : KE6 (F_X4_isInput N l0 u) u := by
  unfold F_X4_isInput
  exact e6_B_X4_isInput_0.tr je6_rf
theorem e6_B_X10_indexOf_32 {N : Nat} {R_2 : Int32 × Int32 × Int32 × CSt → Option (Int32 × CSt)} {l1 : Int32} {l2 : Int32} {l3 : Int32} {u : CSt} (h_R_2 : ∀ a, KE6 (R_2 a) a.2.2.2) : KE6 (B_X10_indexOf_32 N R_2 l1 l2 l3 u) u := by
  unfold B_X10_indexOf_32
  exact (h_R_2 _).tr je6_rf
theorem e6_B_X10_indexOf_2 {N : Nat} {R_2 : Int32 × Int32 × Int32 × CSt → Option (Int32 × CSt)} {l1 : Int32} {l2 : Int32} {l3 : Int32} {u : CSt} (h_R_2 : ∀ a, KE6 (R_2 a) a.2.2.2) : KE6 (B_X10_indexOf_2 N R_2 l1 l2 l3 u) u := by
  unfold B_X10_indexOf_2
  refine KE6_if ?_ ?_
  · skip
    exact KE6_some je6_rf
  · skip
    refine KE6_rd (fun _ => ?_)
    refine KE6_if ?_ ?_
    · skip
      refine KE6_rd (fun _ => ?_)
      refine KE6_if ?_ ?_
      · skip
        exact KE6_some je6_rf
      · skip
        exact (e6_B_X10_indexOf_32 h_R_2).tr je6_rf
    · skip
      exact (e6_B_X10_indexOf_32 h_R_2).tr je6_rf
theorem e6_LP_X10_indexOf_2 {N : Nat}  (n : Nat) : ∀ a : Int32 × Int32 × Int32 × CSt, KE6 (LP_X10_indexOf_2 N n a) a.2.2.2 := by
  induction n with
  | zero => exact fun a r z e => by have e : (none : Option _) = some (r, z) := e; cases e
  | succ n ih =>
    intro a
    show KE6 (B_X10_indexOf_2 N (LP_X10_indexOf_2 N n) a.1 a.2.1 a.2.2.1 a.2.2.2) a.2.2.2
    exact e6_B_X10_indexOf_2 ih
theorem e6_B_X10_indexOf_0 {N : Nat} {l1 : Int32} {l2 : Int32} {u : CSt}  : KE6 (B_X10_indexOf_0 N l1 l2 u) u := by
  unfold B_X10_indexOf_0
  exact (e6_LP_X10_indexOf_2  _ _).tr je6_rf
theorem e6_F_X10_indexOf {N : Nat} {l1 : Int32} {l2 : Int32} {u : CSt}  : KE6 (F_X10_indexOf N l1 l2 u) u := by
  unfold F_X10_indexOf
  exact e6_B_X10_indexOf_0.tr je6_rf
theorem e6_B_X10_begin_0 {N : Nat} {l1 : Int32} {l2 : Int32} {l3 : Int64} {u : CSt}  : KE6 (B_X10_begin_0 N l1 l2 l3 u) u := by
  unfold B_X10_begin_0
  refine KE6_if ?_ ?_
  · skip
    exact KE6_some je6_rf
  · skip
    refine KE6_wc ?_
    refine KE6_wc ?_
    refine KE6_wc ?_
    refine KE6_pc ?_
    exact KE6_some (fe6_xI (by decide) (fe6_xB (by decide) (fe6_xA (by decide) (fe6_xA (by decide) je6_rf))))
theorem e6_F_X10_begin {N : Nat} {l1 : Int32} {l2 : Int32} {l3 : Int64} {u : CSt}  : KE6 (F_X10_begin N l1 l2 l3 u) u := by
  unfold F_X10_begin
  exact e6_B_X10_begin_0.tr je6_rf
theorem e6_B_X10_leave_64 {N : Nat} {u : CSt}  : KE6 (B_X10_leave_64 N u) u := by
  unfold B_X10_leave_64
  refine KE6_pc ?_
  exact KE6_some (fe6_xI (by decide) je6_rf)
theorem e6_B_X10_leave_2 {N : Nat} {R_2 : Int32 × CSt → Option (Int32 × CSt)} {l2 : Int32} {u : CSt} (h_R_2 : ∀ a, KE6 (R_2 a) a.2) : KE6 (B_X10_leave_2 N R_2 l2 u) u := by
  unfold B_X10_leave_2
  refine KE6_if ?_ ?_
  · skip
    exact e6_B_X10_leave_64.tr je6_rf
  · skip
    refine KE6_if ?_ ?_
    · skip
      exact e6_B_X10_leave_64.tr je6_rf
    · skip
      refine KE6_rd (fun _ => ?_)
      refine KE6_wc ?_
      refine KE6_rd (fun _ => ?_)
      refine KE6_wc ?_
      refine KE6_rd (fun _ => ?_)
      refine KE6_wc ?_
      exact (h_R_2 _).tr (fe6_xB (by decide) (fe6_xA (by decide) (fe6_xA (by decide) je6_rf)))
theorem e6_LP_X10_leave_2 {N : Nat}  (n : Nat) : ∀ a : Int32 × CSt, KE6 (LP_X10_leave_2 N n a) a.2 := by
  induction n with
  | zero => exact fun a r z e => by have e : (none : Option _) = some (r, z) := e; cases e
  | succ n ih =>
    intro a
    show KE6 (B_X10_leave_2 N (LP_X10_leave_2 N n) a.1 a.2) a.2
    exact e6_B_X10_leave_2 ih
theorem e6_B_X10_leave_0 {N : Nat} {l1 : Int32} {u : CSt}  : KE6 (B_X10_leave_0 N l1 u) u := by
  unfold B_X10_leave_0
  exact (e6_LP_X10_leave_2  _ _).tr je6_rf
theorem e6_F_X10_leave {N : Nat} {l1 : Int32} {u : CSt}  : KE6 (F_X10_leave N l1 u) u := by
  unfold F_X10_leave
  exact e6_B_X10_leave_0.tr je6_rf
theorem e6_B_X6_has_0 {N : Nat} {l0 : Nat} {l1 : Int32} {l2 : Int32} {u : CSt}  : KE6 (B_X6_has_0 N l0 l1 l2 u) u := by
  unfold B_X6_has_0
  refine KE6_if ?_ ?_
  · skip
    exact KE6_some je6_rf
  · skip
    refine KE6_rd (fun _ => ?_)
    refine KE6_if ?_ ?_
    · skip
      exact KE6_some je6_rf
    · skip
      exact KE6_some je6_rf
theorem e6_F_X6_has {N : Nat} {l0 : Nat} {l1 : Int32} {l2 : Int32} {u : CSt}  : KE6 (F_X6_has N l0 l1 l2 u) u := by
  unfold F_X6_has
  exact e6_B_X6_has_0.tr je6_rf
theorem e6_B_X6_name_0 {N : Nat} {l0 : Nat} {l1 : Int32} {u : CSt}  : KE6 (B_X6_name_0 N l0 l1 u) u := by
  unfold B_X6_name_0
  refine KE6_if ?_ ?_
  · skip
    exact KE6_some je6_rf
  · skip
    refine KE6_if ?_ ?_
    · skip
      exact KE6_some je6_rf
    · skip
      refine KE6_ix ?_
      exact KE6_some je6_rf
theorem e6_F_X6_name {N : Nat} {l0 : Nat} {l1 : Int32} {u : CSt}  : KE6 (F_X6_name N l0 l1 u) u := by
  unfold F_X6_name
  exact e6_B_X6_name_0.tr je6_rf
theorem e6_B_X6_nth_0 {N : Nat} {l0 : Nat} {l1 : Int32} {l2 : Int32} {u : CSt}  : KE6 (B_X6_nth_0 N l0 l1 l2 u) u := by
  unfold B_X6_nth_0
  refine KE6_bc (e6_F_X6_has.tr je6_rf) (fun _ _ => ?_)
  refine KE6_if ?_ ?_
  · skip
    exact KE6_some je6_rf
  · skip
    refine KE6_ix ?_
    refine KE6_rd (fun _ => ?_)
    refine KE6_bc (e6_F_X6_name.tr je6_rf) (fun _ _ => ?_)
    refine KE6_ok ?_
    exact KE6_some je6_rf
theorem e6_F_X6_nth {N : Nat} {l0 : Nat} {l1 : Int32} {l2 : Int32} {u : CSt}  : KE6 (F_X6_nth N l0 l1 l2 u) u := by
  unfold F_X6_nth
  exact e6_B_X6_nth_0.tr je6_rf
theorem e6_B_X1_get_57 {N : Nat} {l3 : Int32} {l4 : Int64} {u : CSt}  : KE6 (B_X1_get_57 N l3 l4 u) u := by
  unfold B_X1_get_57
  exact KE6_some je6_rf
theorem e6_B_X1_get_6 {N : Nat} {R_6 : Int32 × Int32 × Int32 × Int64 × Int32 × CSt → Option (Int64 × CSt)} {l1 : Int32} {l2 : Int32} {l3 : Int32} {l4 : Int64} {l6 : Int32} {u : CSt} (h_R_6 : ∀ a, KE6 (R_6 a) a.2.2.2.2.2) : KE6 (B_X1_get_6 N R_6 l1 l2 l3 l4 l6 u) u := by
  unfold B_X1_get_6
  refine KE6_rd (fun _ => ?_)
  refine KE6_if ?_ ?_
  · skip
    exact e6_B_X1_get_57.tr je6_rf
  · skip
    refine KE6_if ?_ ?_
    · skip
      exact e6_B_X1_get_57.tr je6_rf
    · skip
      refine KE6_if ?_ ?_
      · skip
        exact e6_B_X1_get_57.tr je6_rf
      · skip
        refine KE6_ix ?_
        refine KE6_rd (fun _ => ?_)
        exact (h_R_6 _).tr je6_rf
theorem e6_LP_X1_get_6 {N : Nat}  (n : Nat) : ∀ a : Int32 × Int32 × Int32 × Int64 × Int32 × CSt, KE6 (LP_X1_get_6 N n a) a.2.2.2.2.2 := by
  induction n with
  | zero => exact fun a r z e => by have e : (none : Option _) = some (r, z) := e; cases e
  | succ n ih =>
    intro a
    show KE6 (B_X1_get_6 N (LP_X1_get_6 N n) a.1 a.2.1 a.2.2.1 a.2.2.2.1 a.2.2.2.2.1 a.2.2.2.2.2) a.2.2.2.2.2
    exact e6_B_X1_get_6 ih
theorem e6_B_X1_get_0 {N : Nat} {l1 : Int32} {l2 : Int32} {l3 : Int32} {u : CSt}  : KE6 (B_X1_get_0 N l1 l2 l3 u) u := by
  unfold B_X1_get_0
  exact (e6_LP_X1_get_6  _ _).tr je6_rf
theorem e6_F_X1_get {N : Nat} {l1 : Int32} {l2 : Int32} {l3 : Int32} {u : CSt}  : KE6 (F_X1_get N l1 l2 l3 u) u := by
  unfold F_X1_get
  exact e6_B_X1_get_0.tr je6_rf
theorem e6_B_X2_numberAt_0 {N : Nat} {l1 : Int32} {u : CSt}  : KE6 (B_X2_numberAt_0 N l1 u) u := by
  unfold B_X2_numberAt_0
  refine KE6_if ?_ ?_
  · skip
    exact KE6_some je6_rf
  · skip
    refine KE6_if ?_ ?_
    · skip
      exact KE6_some je6_rf
    · skip
      refine KE6_rd (fun _ => ?_)
      exact KE6_some je6_rf
theorem e6_F_X2_numberAt {N : Nat} {l1 : Int32} {u : CSt}  : KE6 (F_X2_numberAt N l1 u) u := by
  unfold F_X2_numberAt
  exact e6_B_X2_numberAt_0.tr je6_rf
theorem e6_B_X2_numberOf_23 {N : Nat} {l1 : Nat} {s1 : Int32} {u : CSt}  : KE6 (B_X2_numberOf_23 N l1 s1 u) u := by
  unfold B_X2_numberOf_23
  refine KE6_bc (e6_F_X1_get.tr je6_rf) (fun _ _ => ?_)
  exact KE6_some je6_rf
theorem e6_B_X2_numberOf_0 {N : Nat} {l1 : Nat} {l2 : Int32} {u : CSt}  : KE6 (B_X2_numberOf_0 N l1 l2 u) u := by
  unfold B_X2_numberOf_0
  refine KE6_bc (e6_F_X4_isPlaced.tr je6_rf) (fun _ _ => ?_)
  refine KE6_if ?_ ?_
  · skip
    refine KE6_bc (e6_F_X2_numberAt.tr je6_rf) (fun _ _ => ?_)
    exact KE6_some je6_rf
  · skip
    refine KE6_bc (e6_F_X4_isInput.tr je6_rf) (fun _ _ => ?_)
    refine KE6_if ?_ ?_
    · skip
      exact e6_B_X2_numberOf_23.tr je6_rf
    · skip
      exact e6_B_X2_numberOf_23.tr je6_rf
theorem e6_F_X2_numberOf {N : Nat} {l1 : Nat} {l2 : Int32} {u : CSt}  : KE6 (F_X2_numberOf N l1 l2 u) u := by
  unfold F_X2_numberOf
  exact e6_B_X2_numberOf_0.tr je6_rf
theorem e6_B_X11_hasPlace_0 {N : Nat} {l1 : Int32} {l2 : Int32} {u : CSt}  : KE6 (B_X11_hasPlace_0 N l1 l2 u) u := by
  unfold B_X11_hasPlace_0
  refine KE6_ok ?_
  refine KE6_bc (e6_F_X6_has.tr je6_rf) (fun _ _ => ?_)
  refine KE6_if ?_ ?_
  · skip
    exact KE6_some je6_rf
  · skip
    refine KE6_if ?_ ?_
    · skip
      exact KE6_some je6_rf
    · skip
      refine KE6_ok ?_
      refine KE6_bc (e6_F_X6_nth.tr je6_rf) (fun _ _ => ?_)
      refine KE6_ok ?_
      refine KE6_if ?_ ?_
      · skip
        exact KE6_some je6_rf
      · skip
        exact KE6_some je6_rf
theorem e6_F_X11_hasPlace {N : Nat} {l1 : Int32} {l2 : Int32} {u : CSt}  : KE6 (F_X11_hasPlace N l1 l2 u) u := by
  unfold F_X11_hasPlace
  exact e6_B_X11_hasPlace_0.tr je6_rf
theorem e6_B_X11_trace_75 {N : Nat} {l1 : Int32} {l2 : Int32} {l3 : Int32} {l4 : Int32} {s0 : Int32} {s1 : Int32} {u : CSt}  : KE6 (B_X11_trace_75 N l1 l2 l3 l4 s0 s1 u) u := by
  unfold B_X11_trace_75
  refine KE6_if ?_ ?_
  · skip
    exact KE6_some je6_rf
  · skip
    refine KE6_if ?_ ?_
    · skip
      refine KE6_bc (e6_F_X10_leave.tr je6_rf) (fun _ _ => ?_)
      exact KE6_some je6_rf
    · skip
      refine KE6_ok ?_
      refine KE6_bc (e6_F_X6_nth.tr je6_rf) (fun _ _ => ?_)
      refine KE6_ok ?_
      refine KE6_bc (e6_F_X2_numberOf.tr je6_rf) (fun _ _ => ?_)
      refine KE6_bc (e6_F_X10_begin.tr je6_rf) (fun _ _ => ?_)
      exact KE6_some je6_rf
theorem e6_B_X11_trace_63 {N : Nat} {l1 : Int32} {l2 : Int32} {l3 : Int32} {l4 : Int32} {u : CSt}  : KE6 (B_X11_trace_63 N l1 l2 l3 l4 u) u := by
  unfold B_X11_trace_63
  refine KE6_if ?_ ?_
  · skip
    exact e6_B_X11_trace_75.tr je6_rf
  · skip
    exact e6_B_X11_trace_75.tr je6_rf
theorem e6_B_X11_trace_0 {N : Nat} {l1 : Int32} {l2 : Int32} {l3 : Int32} {u : CSt}  : KE6 (B_X11_trace_0 N l1 l2 l3 u) u := by
  unfold B_X11_trace_0
  refine KE6_bc (e6_F_X11_hasPlace.tr je6_rf) (fun _ _ => ?_)
  refine KE6_if ?_ ?_
  · skip
    exact KE6_some je6_rf
  · skip
    refine KE6_bc (e6_F_X10_indexOf.tr je6_rf) (fun _ _ => ?_)
    refine KE6_if ?_ ?_
    · skip
      exact e6_B_X11_trace_63.tr je6_rf
    · skip
      refine KE6_if ?_ ?_
      · skip
        refine KE6_if ?_ ?_
        · skip
          exact e6_B_X11_trace_63.tr je6_rf
        · skip
          exact KE6_some je6_rf
      · skip
        exact e6_B_X11_trace_63.tr je6_rf
theorem e6_F_X11_trace {N : Nat} {l1 : Int32} {l2 : Int32} {l3 : Int32} {u : CSt}  : KE6 (F_X11_trace N l1 l2 l3 u) u := by
  unfold F_X11_trace
  exact e6_B_X11_trace_0.tr je6_rf
/-! What calls leave of what runs use: the reference. -/
def reA : List Nat := [49, 50, 51, 54]
def reB : List Nat := [52, 53]
def rfI : List Nat := [98, 103, 104, 105]
def rfA : List Nat := [84, 85, 86, 87, 88, 95, 96, 99, 100, 101]
def rfB : List Nat := [82, 97, 102]
def rhI : List Nat := [9]
def rgI : List Nat := [103, 104, 105]
def rgA : List Nat := [84, 85, 86, 87, 88, 99, 100, 101]
def rgB : List Nat := [82, 102]
def je4 (u w : RSt) : Prop := (∀ k, k ∈ reA → w.2.2.1 k = u.2.2.1 k) ∧ (∀ k, k ∈ reB → w.2.2.2 k = u.2.2.2 k)
def KE4 {β : Type} (x : Option (β × RSt)) (u : RSt) : Prop := ∀ r w, x = some (r, w) → je4 u w
section KE4s
variable {α β γ : Type} {u v w : RSt}
theorem je4_rf : je4 u u := ⟨fun _ _ => rfl, fun _ _ => rfl⟩
theorem je4_tr (h : je4 u v) (h2 : je4 v w) : je4 u w := ⟨fun k hk => (h2.1 k hk).trans (h.1 k hk), fun k hk => (h2.2 k hk).trans (h.2 k hk)⟩
theorem KE4.tr {x : Option (β × RSt)} (hx : KE4 x w) (h : je4 u w) : KE4 x u := fun r z e => je4_tr h (hx r z e)
theorem fe4_sI {k : Nat} {a : Int32} (h : je4 u w) : je4 u (sI w k a) := h
theorem fe4_sL {k : Nat} {a : Int64} (h : je4 u w) : je4 u (sL w k a) := h
theorem fe4_sA {k i : Nat} {a : Int32} (hk : k ∉ reA) (h : je4 u w) : je4 u (sA w k i a) := by
  refine je4_tr h ⟨fun j hj => ?_, fun _ _ => rfl⟩
  show (if j = k then upd (w.2.2.1 k) i a else w.2.2.1 j) = _
  rw [if_neg (fun z : j = k => hk (z ▸ hj))]
theorem fe4_sB {k i : Nat} {a : Int64} (hk : k ∉ reB) (h : je4 u w) : je4 u (sB w k i a) := by
  refine je4_tr h ⟨fun _ _ => rfl, fun j hj => ?_⟩
  show (if j = k then vp_updL (w.2.2.2 k) i a else w.2.2.2 j) = _
  rw [if_neg (fun z : j = k => hk (z ▸ hj))]
theorem KE4_some {r : β} (h : je4 u w) : KE4 (some (r, w)) u := fun _ _ e => by cases e; exact h
theorem KE4_none : KE4 (none : Option (β × RSt)) u := fun _ _ e => nomatch e
theorem KE4_rd {f : Nat → α} {n : Nat} {i : Int32} {k : α → Option (β × RSt)} (h : ∀ a, KE4 (k a) u) : KE4 (rd f n i k) u := by
  intro r z e
  have q : wp (rd f n i k) (fun r' z' => r' = r ∧ z' = z) := ⟨r, z, e, rfl, rfl⟩
  obtain ⟨r1, z1, e1, rfl, rfl⟩ := (wp_rd.mp q).2
  exact h _ _ _ e1
theorem KE4_if {c : Prop} {d : Decidable c} {a b : Option (β × RSt)} (ha : KE4 a u) (hb : KE4 b u) : KE4 (if c then a else b) u := by
  by_cases q : c
  · rw [if_pos q]; exact ha
  · rw [if_neg q]; exact hb
theorem KE4_zr {v : Int32} {x : Option (β × RSt)} (h : KE4 x u) : KE4 (zr v x) u := fun r z e => h r z (zr_of e).2
theorem KE4_nz {v : Int32} {x : Option (β × RSt)} (h : KE4 x u) : KE4 (nz v x) u := fun r z e => h r z (nz_of e).2
theorem KE4_ok {P : Prop} {d : Decidable P} {x : Option (β × RSt)} (h : KE4 x u) : KE4 (ok P d x) u := fun r z e => h r z (ok_of e).2
theorem KE4_pu {x : RSt} {k : RSt → Option (β × RSt)} (h : KE4 (k x) u) : KE4 (pu x k) u := h
theorem KE4_wr {n : Nat} {i : Int32} {x : RSt} {k : RSt → Option (β × RSt)} (h : KE4 (k x) u) : KE4 (wr n i x k) u := by
  intro r z e
  have q : wp (wr n i x k) (fun r' z' => r' = r ∧ z' = z) := ⟨r, z, e, rfl, rfl⟩
  obtain ⟨r1, z1, e1, rfl, rfl⟩ := (wp_wr.mp q).2
  exact h _ _ e1
theorem KE4_bn {x : Option (α × RSt)} {k : α → RSt → Option (β × RSt)} (hx : KE4 x u) (h : ∀ r w, KE4 (k r w) w) : KE4 (bn x k) u := by
  intro r z e
  have q : wp (bn x k) (fun r' z' => r' = r ∧ z' = z) := ⟨r, z, e, rfl, rfl⟩
  obtain ⟨r1, z1, e1, r2, z2, e2, rfl, rfl⟩ := wp_bn.mp q
  exact je4_tr (hx _ _ e1) (h _ _ _ _ e2)
end KE4s

theorem e4_B_see_0 {N : Nat} {l1 : Int32} {u : RSt}  : KE4 (B_see_0 N l1 u) u := by
  unfold B_see_0
  refine KE4_if ?_ ?_
  · skip
    exact KE4_some je4_rf
  · skip
    refine KE4_rd (fun _ => ?_)
    exact KE4_some je4_rf
theorem e4_F_see {N : Nat} {l1 : Int32} {u : RSt}  : KE4 (F_see N l1 u) u := by
  unfold F_see
  exact e4_B_see_0.tr je4_rf
theorem e4_B_read_44 {N : Nat} {R_44 : Int32 × Int32 × Int64 × Int32 × RSt → Option (Int64 × RSt)} {l2 : Int32} {l3 : Int32} {l4 : Int64} {l6 : Int32} {u : RSt} (h_R_44 : ∀ a, KE4 (R_44 a) a.2.2.2.2) : KE4 (B_read_44 N R_44 l2 l3 l4 l6 u) u := by
  unfold B_read_44
  refine KE4_if ?_ ?_
  · skip
    exact KE4_some je4_rf
  · skip
    refine KE4_rd (fun _ => ?_)
    exact (h_R_44 _).tr je4_rf
theorem e4_LP_read_44 {N : Nat}  (n : Nat) : ∀ a : Int32 × Int32 × Int64 × Int32 × RSt, KE4 (LP_read_44 N n a) a.2.2.2.2 := by
  induction n with
  | zero => exact fun a r z e => by have e : (none : Option _) = some (r, z) := e; cases e
  | succ n ih =>
    intro a
    show KE4 (B_read_44 N (LP_read_44 N n) a.1 a.2.1 a.2.2.1 a.2.2.2.1 a.2.2.2.2) a.2.2.2.2
    exact e4_B_read_44 ih
theorem e4_B_read_37 {N : Nat} {l2 : Int32} {s0 : Int32} {u : RSt}  : KE4 (B_read_37 N l2 s0 u) u := by
  unfold B_read_37
  exact (e4_LP_read_44  _ _).tr je4_rf
theorem e4_B_read_0 {N : Nat} {l1 : Int32} {l2 : Int32} {u : RSt}  : KE4 (B_read_0 N l1 l2 u) u := by
  unfold B_read_0
  refine KE4_if ?_ ?_
  · skip
    refine KE4_if ?_ ?_
    · skip
      exact e4_B_read_37.tr je4_rf
    · skip
      exact e4_B_read_37.tr je4_rf
  · skip
    refine KE4_rd (fun _ => ?_)
    exact KE4_some je4_rf
theorem e4_F_read {N : Nat} {l1 : Int32} {l2 : Int32} {u : RSt}  : KE4 (F_read N l1 l2 u) u := by
  unfold F_read
  exact e4_B_read_0.tr je4_rf
theorem e4_B_write_31 {N : Nat} {R_31 : Int32 × Int64 × Int32 × Int32 × RSt → Option (Int32 × RSt)} {l1 : Int32} {l3 : Int64} {l5 : Int32} {l6 : Int32} {u : RSt} (h_R_31 : ∀ a, KE4 (R_31 a) a.2.2.2.2) : KE4 (B_write_31 N R_31 l1 l3 l5 l6 u) u := by
  unfold B_write_31
  refine KE4_if ?_ ?_
  · skip
    exact KE4_some je4_rf
  · skip
    refine KE4_wr ?_
    exact (h_R_31 _).tr (fe4_sA (by decide) je4_rf)
theorem e4_LP_write_31 {N : Nat}  (n : Nat) : ∀ a : Int32 × Int64 × Int32 × Int32 × RSt, KE4 (LP_write_31 N n a) a.2.2.2.2 := by
  induction n with
  | zero => exact fun a r z e => by have e : (none : Option _) = some (r, z) := e; cases e
  | succ n ih =>
    intro a
    show KE4 (B_write_31 N (LP_write_31 N n) a.1 a.2.1 a.2.2.1 a.2.2.2.1 a.2.2.2.2) a.2.2.2.2
    exact e4_B_write_31 ih
theorem e4_B_write_0 {N : Nat} {l1 : Int32} {l2 : Int32} {l3 : Int64} {u : RSt}  : KE4 (B_write_0 N l1 l2 l3 u) u := by
  unfold B_write_0
  refine KE4_if ?_ ?_
  · skip
    exact (e4_LP_write_31  _ _).tr je4_rf
  · skip
    refine KE4_wr ?_
    exact KE4_some (fe4_sB (by decide) je4_rf)
theorem e4_F_write {N : Nat} {l1 : Int32} {l2 : Int32} {l3 : Int64} {u : RSt}  : KE4 (F_write N l1 l2 l3 u) u := by
  unfold F_write
  exact e4_B_write_0.tr je4_rf
theorem e4_B_stops_0 {N : Nat} {l1 : Int32} {l2 : Int32} {u : RSt}  : KE4 (B_stops_0 N l1 l2 u) u := by
  unfold B_stops_0
  refine KE4_pu ?_
  refine KE4_pu ?_
  exact KE4_some (fe4_sI (fe4_sI je4_rf))
theorem e4_F_stops {N : Nat} {l1 : Int32} {l2 : Int32} {u : RSt}  : KE4 (F_stops N l1 l2 u) u := by
  unfold F_stops
  exact e4_B_stops_0.tr je4_rf
theorem e4_B_mayCall_0 {N : Nat} {l1 : Int32} {u : RSt}  : KE4 (B_mayCall_0 N l1 u) u := by
  unfold B_mayCall_0
  refine KE4_if ?_ ?_
  · skip
    refine KE4_bn (e4_F_stops.tr je4_rf) (fun _ _ => ?_)
    exact KE4_some je4_rf
  · skip
    refine KE4_wr ?_
    refine KE4_wr ?_
    refine KE4_wr ?_
    exact KE4_some (fe4_sA (by decide) (fe4_sA (by decide) (fe4_sA (by decide) je4_rf)))
theorem e4_F_mayCall {N : Nat} {l1 : Int32} {u : RSt}  : KE4 (F_mayCall N l1 u) u := by
  unfold F_mayCall
  exact e4_B_mayCall_0.tr je4_rf
theorem e4_B_enter_120 {N : Nat} {R_39 : Int32 × Int32 × Int32 × Int32 × Int32 × RSt → Option (Int32 × RSt)} {R_53 : Int32 × Int32 × Int32 × Int32 × Int32 × Int32 × RSt → Option (Int32 × RSt)} {l1 : Int32} {l2 : Int32} {l3 : Int32} {l4 : Int32} {l5 : Int32} {l6 : Int32} {s1 : Int32} {s2 : Int64} {u : RSt} (h_R_39 : ∀ a, KE4 (R_39 a) a.2.2.2.2.2) (h_R_53 : ∀ a, KE4 (R_53 a) a.2.2.2.2.2.2) : KE4 (B_enter_120 N R_39 R_53 l1 l2 l3 l4 l5 l6 s1 s2 u) u := by
  unfold B_enter_120
  refine KE4_wr ?_
  exact (h_R_53 _).tr (fe4_sB (by decide) je4_rf)
theorem e4_B_enter_53 {N : Nat} {R_39 : Int32 × Int32 × Int32 × Int32 × Int32 × RSt → Option (Int32 × RSt)} {R_53 : Int32 × Int32 × Int32 × Int32 × Int32 × Int32 × RSt → Option (Int32 × RSt)} {l1 : Int32} {l2 : Int32} {l3 : Int32} {l4 : Int32} {l5 : Int32} {l6 : Int32} {u : RSt} (h_R_39 : ∀ a, KE4 (R_39 a) a.2.2.2.2.2) (h_R_53 : ∀ a, KE4 (R_53 a) a.2.2.2.2.2.2) : KE4 (B_enter_53 N R_39 R_53 l1 l2 l3 l4 l5 l6 u) u := by
  unfold B_enter_53
  refine KE4_rd (fun _ => ?_)
  refine KE4_if ?_ ?_
  · skip
    exact (h_R_39 _).tr je4_rf
  · skip
    refine KE4_rd (fun _ => ?_)
    refine KE4_if ?_ ?_
    · skip
      refine KE4_rd (fun _ => ?_)
      exact (e4_B_enter_120 h_R_39 h_R_53).tr je4_rf
    · skip
      refine KE4_rd (fun _ => ?_)
      exact (e4_B_enter_120 h_R_39 h_R_53).tr je4_rf
theorem e4_LP_enter_53 {N : Nat} {R_39 : Int32 × Int32 × Int32 × Int32 × Int32 × RSt → Option (Int32 × RSt)} (h_R_39 : ∀ a, KE4 (R_39 a) a.2.2.2.2.2) (n : Nat) : ∀ a : Int32 × Int32 × Int32 × Int32 × Int32 × Int32 × RSt, KE4 (LP_enter_53 N R_39 n a) a.2.2.2.2.2.2 := by
  induction n with
  | zero => exact fun a r z e => by have e : (none : Option _) = some (r, z) := e; cases e
  | succ n ih =>
    intro a
    show KE4 (B_enter_53 N R_39 (LP_enter_53 N R_39 n) a.1 a.2.1 a.2.2.1 a.2.2.2.1 a.2.2.2.2.1 a.2.2.2.2.2.1 a.2.2.2.2.2.2) a.2.2.2.2.2.2
    exact e4_B_enter_53 h_R_39 ih
theorem e4_B_enter_39 {N : Nat} {R_39 : Int32 × Int32 × Int32 × Int32 × Int32 × RSt → Option (Int32 × RSt)} {l1 : Int32} {l2 : Int32} {l3 : Int32} {l4 : Int32} {l5 : Int32} {u : RSt} (h_R_39 : ∀ a, KE4 (R_39 a) a.2.2.2.2.2) : KE4 (B_enter_39 N R_39 l1 l2 l3 l4 l5 u) u := by
  unfold B_enter_39
  refine KE4_rd (fun _ => ?_)
  refine KE4_if ?_ ?_
  · skip
    refine KE4_pu ?_
    refine KE4_wr ?_
    refine KE4_pu ?_
    refine KE4_pu ?_
    refine KE4_rd (fun _ => ?_)
    refine KE4_pu ?_
    exact KE4_some (fe4_sI (fe4_sI (fe4_sI (fe4_sA (by decide) (fe4_sI je4_rf)))))
  · skip
    exact (e4_LP_enter_53 h_R_39 _ _).tr je4_rf
theorem e4_LP_enter_39 {N : Nat}  (n : Nat) : ∀ a : Int32 × Int32 × Int32 × Int32 × Int32 × RSt, KE4 (LP_enter_39 N n a) a.2.2.2.2.2 := by
  induction n with
  | zero => exact fun a r z e => by have e : (none : Option _) = some (r, z) := e; cases e
  | succ n ih =>
    intro a
    show KE4 (B_enter_39 N (LP_enter_39 N n) a.1 a.2.1 a.2.2.1 a.2.2.2.1 a.2.2.2.2.1 a.2.2.2.2.2) a.2.2.2.2.2
    exact e4_B_enter_39 ih
theorem e4_B_enter_0 {N : Nat} {l1 : Int32} {u : RSt}  : KE4 (B_enter_0 N l1 u) u := by
  unfold B_enter_0
  refine KE4_rd (fun _ => ?_)
  refine KE4_rd (fun _ => ?_)
  exact (e4_LP_enter_39  _ _).tr je4_rf
theorem e4_F_enter {N : Nat} {l1 : Int32} {u : RSt}  : KE4 (F_enter N l1 u) u := by
  unfold F_enter
  exact e4_B_enter_0.tr je4_rf
theorem e4_B_leave_0 {N : Nat} {u : RSt}  : KE4 (B_leave_0 N u) u := by
  unfold B_leave_0
  refine KE4_pu ?_
  refine KE4_rd (fun _ => ?_)
  refine KE4_pu ?_
  refine KE4_rd (fun _ => ?_)
  refine KE4_pu ?_
  refine KE4_rd (fun _ => ?_)
  refine KE4_pu ?_
  refine KE4_rd (fun _ => ?_)
  refine KE4_pu ?_
  exact KE4_some (fe4_sI (fe4_sI (fe4_sI (fe4_sI (fe4_sI je4_rf)))))
theorem e4_F_leave {N : Nat} {u : RSt}  : KE4 (F_leave N u) u := by
  unfold F_leave
  exact e4_B_leave_0.tr je4_rf
theorem e4_B_run_1519 {N : Nat} {R_39 : Int32 × RSt → Option (Int32 × RSt)} {l2 : Int32} {u : RSt} (h_R_39 : ∀ a, KE4 (R_39 a) a.2) : KE4 (B_run_1519 N R_39 l2 u) u := by
  unfold B_run_1519
  exact (h_R_39 _).tr je4_rf
theorem e4_B_run_483 {N : Nat} {R_39 : Int32 × RSt → Option (Int32 × RSt)} {l2 : Int32} {l5 : Int32} {u : RSt} (h_R_39 : ∀ a, KE4 (R_39 a) a.2) : KE4 (B_run_483 N R_39 l2 l5 u) u := by
  unfold B_run_483
  refine KE4_bn (e4_F_stops.tr je4_rf) (fun _ _ => ?_)
  exact (e4_B_run_1519 h_R_39).tr je4_rf
theorem e4_B_run_685 {N : Nat} {R_39 : Int32 × RSt → Option (Int32 × RSt)} {l2 : Int32} {s1 : Int32} {s2 : Int32} {s3 : Int64} {u : RSt} (h_R_39 : ∀ a, KE4 (R_39 a) a.2) : KE4 (B_run_685 N R_39 l2 s1 s2 s3 u) u := by
  unfold B_run_685
  refine KE4_bn (e4_F_write.tr je4_rf) (fun _ _ => ?_)
  exact (e4_B_run_1519 h_R_39).tr je4_rf
theorem e4_B_run_799 {N : Nat} {R_39 : Int32 × RSt → Option (Int32 × RSt)} {l2 : Int32} {s1 : Int32} {s2 : Int32} {s3 : Int32} {u : RSt} (h_R_39 : ∀ a, KE4 (R_39 a) a.2) : KE4 (B_run_799 N R_39 l2 s1 s2 s3 u) u := by
  unfold B_run_799
  refine KE4_rd (fun _ => ?_)
  refine KE4_rd (fun _ => ?_)
  refine KE4_ok ?_
  refine KE4_wr ?_
  exact (e4_B_run_1519 h_R_39).tr (fe4_sB (by decide) je4_rf)
theorem e4_B_run_771 {N : Nat} {R_39 : Int32 × RSt → Option (Int32 × RSt)} {l2 : Int32} {l3 : Int32} {l4 : Int32} {u : RSt} (h_R_39 : ∀ a, KE4 (R_39 a) a.2) : KE4 (B_run_771 N R_39 l2 l3 l4 u) u := by
  unfold B_run_771
  refine KE4_rd (fun _ => ?_)
  refine KE4_if ?_ ?_
  · skip
    exact (e4_B_run_799 h_R_39).tr je4_rf
  · skip
    exact (e4_B_run_799 h_R_39).tr je4_rf
theorem e4_B_run_747 {N : Nat} {R_39 : Int32 × RSt → Option (Int32 × RSt)} {l2 : Int32} {l3 : Int32} {l4 : Int32} {l5 : Int32} {u : RSt} (h_R_39 : ∀ a, KE4 (R_39 a) a.2) : KE4 (B_run_747 N R_39 l2 l3 l4 l5 u) u := by
  unfold B_run_747
  refine KE4_rd (fun _ => ?_)
  refine KE4_if ?_ ?_
  · skip
    refine KE4_bn (e4_F_stops.tr je4_rf) (fun _ _ => ?_)
    exact (e4_B_run_1519 h_R_39).tr je4_rf
  · skip
    exact (e4_B_run_771 h_R_39).tr je4_rf
theorem e4_B_run_847 {N : Nat} {R_39 : Int32 × RSt → Option (Int32 × RSt)} {l2 : Int32} {s1 : Int32} {s2 : Int32} {u : RSt} (h_R_39 : ∀ a, KE4 (R_39 a) a.2) : KE4 (B_run_847 N R_39 l2 s1 s2 u) u := by
  unfold B_run_847
  refine KE4_rd (fun _ => ?_)
  refine KE4_wr ?_
  exact (e4_B_run_1519 h_R_39).tr (fe4_sB (by decide) je4_rf)
theorem e4_B_run_926 {N : Nat} {R_39 : Int32 × RSt → Option (Int32 × RSt)} {l2 : Int32} {s1 : Int32} {s2 : Int64} {u : RSt} (h_R_39 : ∀ a, KE4 (R_39 a) a.2) : KE4 (B_run_926 N R_39 l2 s1 s2 u) u := by
  unfold B_run_926
  refine KE4_wr ?_
  exact (e4_B_run_1519 h_R_39).tr (fe4_sB (by decide) je4_rf)
theorem e4_B_run_1066 {N : Nat} {R_39 : Int32 × RSt → Option (Int32 × RSt)} {l2 : Int32} {s1 : Int32} {s2 : Int64} {u : RSt} (h_R_39 : ∀ a, KE4 (R_39 a) a.2) : KE4 (B_run_1066 N R_39 l2 s1 s2 u) u := by
  unfold B_run_1066
  refine KE4_wr ?_
  exact (e4_B_run_1519 h_R_39).tr (fe4_sB (by decide) je4_rf)
theorem e4_B_run_1114 {N : Nat} {R_39 : Int32 × RSt → Option (Int32 × RSt)} {l2 : Int32} {s1 : Int32} {s2 : Int32} {s3 : Int32} {u : RSt} (h_R_39 : ∀ a, KE4 (R_39 a) a.2) : KE4 (B_run_1114 N R_39 l2 s1 s2 s3 u) u := by
  unfold B_run_1114
  refine KE4_rd (fun _ => ?_)
  refine KE4_rd (fun _ => ?_)
  refine KE4_wr ?_
  exact (e4_B_run_1519 h_R_39).tr (fe4_sB (by decide) je4_rf)
theorem e4_B_run_1164 {N : Nat} {R_39 : Int32 × RSt → Option (Int32 × RSt)} {l2 : Int32} {s1 : Int32} {s2 : Int32} {s3 : Int32} {u : RSt} (h_R_39 : ∀ a, KE4 (R_39 a) a.2) : KE4 (B_run_1164 N R_39 l2 s1 s2 s3 u) u := by
  unfold B_run_1164
  refine KE4_rd (fun _ => ?_)
  refine KE4_wr ?_
  exact (e4_B_run_1519 h_R_39).tr (fe4_sB (by decide) je4_rf)
theorem e4_B_run_1141 {N : Nat} {R_39 : Int32 × RSt → Option (Int32 × RSt)} {l2 : Int32} {l4 : Int32} {l5 : Int32} {u : RSt} (h_R_39 : ∀ a, KE4 (R_39 a) a.2) : KE4 (B_run_1141 N R_39 l2 l4 l5 u) u := by
  unfold B_run_1141
  refine KE4_if ?_ ?_
  · skip
    exact (e4_B_run_1164 h_R_39).tr je4_rf
  · skip
    exact (e4_B_run_1164 h_R_39).tr je4_rf
theorem e4_B_run_39 {N : Nat} {R_39 : Int32 × RSt → Option (Int32 × RSt)} {l2 : Int32} {u : RSt} (h_R_39 : ∀ a, KE4 (R_39 a) a.2) : KE4 (B_run_39 N R_39 l2 u) u := by
  unfold B_run_39
  refine KE4_if ?_ ?_
  · skip
    exact KE4_some je4_rf
  · skip
    refine KE4_if ?_ ?_
    · skip
      refine KE4_pu ?_
      refine KE4_rd (fun _ => ?_)
      refine KE4_rd (fun _ => ?_)
      refine KE4_rd (fun _ => ?_)
      refine KE4_if ?_ ?_
      · skip
        refine KE4_if ?_ ?_
        · skip
          refine KE4_bn (e4_F_stops.tr (fe4_sI je4_rf)) (fun _ _ => ?_)
          exact (e4_B_run_1519 h_R_39).tr je4_rf
        · skip
          refine KE4_pu ?_
          exact (e4_B_run_1519 h_R_39).tr (fe4_sI (fe4_sI je4_rf))
      · skip
        refine KE4_if ?_ ?_
        · skip
          refine KE4_pu ?_
          refine KE4_rd (fun _ => ?_)
          refine KE4_wr ?_
          exact (e4_B_run_1519 h_R_39).tr (fe4_sB (by decide) (fe4_sI (fe4_sI je4_rf)))
        · skip
          refine KE4_if ?_ ?_
          · skip
            refine KE4_pu ?_
            refine KE4_wr ?_
            exact (e4_B_run_1519 h_R_39).tr (fe4_sB (by decide) (fe4_sI (fe4_sI je4_rf)))
          · skip
            refine KE4_if ?_ ?_
            · skip
              refine KE4_pu ?_
              refine KE4_wr ?_
              exact (e4_B_run_1519 h_R_39).tr (fe4_sB (by decide) (fe4_sI (fe4_sI je4_rf)))
            · skip
              refine KE4_if ?_ ?_
              · skip
                refine KE4_pu ?_
                refine KE4_wr ?_
                exact (e4_B_run_1519 h_R_39).tr (fe4_sB (by decide) (fe4_sI (fe4_sI je4_rf)))
              · skip
                refine KE4_if ?_ ?_
                · skip
                  refine KE4_pu ?_
                  refine KE4_wr ?_
                  exact (e4_B_run_1519 h_R_39).tr (fe4_sB (by decide) (fe4_sI (fe4_sI je4_rf)))
                · skip
                  refine KE4_if ?_ ?_
                  · skip
                    refine KE4_rd (fun _ => ?_)
                    refine KE4_rd (fun _ => ?_)
                    refine KE4_wr ?_
                    refine KE4_pu ?_
                    exact (e4_B_run_1519 h_R_39).tr (fe4_sI (fe4_sB (by decide) (fe4_sI je4_rf)))
                  · skip
                    refine KE4_if ?_ ?_
                    · skip
                      refine KE4_rd (fun _ => ?_)
                      refine KE4_if ?_ ?_
                      · skip
                        exact (e4_B_run_483 h_R_39).tr (fe4_sI je4_rf)
                      · skip
                        refine KE4_rd (fun _ => ?_)
                        refine KE4_if ?_ ?_
                        · skip
                          exact (e4_B_run_1519 h_R_39).tr (fe4_sI je4_rf)
                        · skip
                          exact (e4_B_run_483 h_R_39).tr (fe4_sI je4_rf)
                    · skip
                      refine KE4_if ?_ ?_
                      · skip
                        refine KE4_rd (fun _ => ?_)
                        refine KE4_bn (e4_F_read.tr (fe4_sI je4_rf)) (fun _ _ => ?_)
                        refine KE4_wr ?_
                        exact (e4_B_run_1519 h_R_39).tr (fe4_sB (by decide) je4_rf)
                      · skip
                        refine KE4_if ?_ ?_
                        · skip
                          refine KE4_rd (fun _ => ?_)
                          refine KE4_bn (e4_F_read.tr (fe4_sI je4_rf)) (fun _ _ => ?_)
                          refine KE4_wr ?_
                          refine KE4_pu ?_
                          exact (e4_B_run_1519 h_R_39).tr (fe4_sI (fe4_sB (by decide) je4_rf))
                        · skip
                          refine KE4_if ?_ ?_
                          · skip
                            refine KE4_pu ?_
                            refine KE4_rd (fun _ => ?_)
                            refine KE4_rd (fun _ => ?_)
                            refine KE4_bn (e4_F_write.tr (fe4_sI (fe4_sI je4_rf))) (fun _ _ => ?_)
                            exact (e4_B_run_1519 h_R_39).tr je4_rf
                          · skip
                            refine KE4_if ?_ ?_
                            · skip
                              refine KE4_pu ?_
                              refine KE4_rd (fun _ => ?_)
                              refine KE4_bn (e4_F_read.tr (fe4_sI (fe4_sI je4_rf))) (fun _ _ => ?_)
                              refine KE4_rd (fun _ => ?_)
                              refine KE4_rd (fun _ => ?_)
                              refine KE4_if ?_ ?_
                              · skip
                                exact (e4_B_run_685 h_R_39).tr je4_rf
                              · skip
                                exact (e4_B_run_685 h_R_39).tr je4_rf
                            · skip
                              refine KE4_if ?_ ?_
                              · skip
                                refine KE4_rd (fun _ => ?_)
                                refine KE4_wr ?_
                                exact (e4_B_run_1519 h_R_39).tr (fe4_sB (by decide) (fe4_sI je4_rf))
                              · skip
                                refine KE4_if ?_ ?_
                                · skip
                                  refine KE4_pu ?_
                                  refine KE4_if ?_ ?_
                                  · skip
                                    exact (e4_B_run_747 h_R_39).tr (fe4_sI (fe4_sI je4_rf))
                                  · skip
                                    refine KE4_if ?_ ?_
                                    · skip
                                      exact (e4_B_run_747 h_R_39).tr (fe4_sI (fe4_sI je4_rf))
                                    · skip
                                      exact (e4_B_run_771 h_R_39).tr (fe4_sI (fe4_sI je4_rf))
                                · skip
                                  refine KE4_if ?_ ?_
                                  · skip
                                    refine KE4_if ?_ ?_
                                    · skip
                                      exact (e4_B_run_847 h_R_39).tr (fe4_sI je4_rf)
                                    · skip
                                      exact (e4_B_run_847 h_R_39).tr (fe4_sI je4_rf)
                                  · skip
                                    refine KE4_if ?_ ?_
                                    · skip
                                      refine KE4_rd (fun _ => ?_)
                                      refine KE4_wr ?_
                                      exact (e4_B_run_1519 h_R_39).tr (fe4_sB (by decide) (fe4_sI je4_rf))
                                    · skip
                                      refine KE4_if ?_ ?_
                                      · skip
                                        refine KE4_rd (fun _ => ?_)
                                        refine KE4_if ?_ ?_
                                        · skip
                                          exact (e4_B_run_926 h_R_39).tr (fe4_sI je4_rf)
                                        · skip
                                          exact (e4_B_run_926 h_R_39).tr (fe4_sI je4_rf)
                                      · skip
                                        refine KE4_if ?_ ?_
                                        · skip
                                          refine KE4_rd (fun _ => ?_)
                                          refine KE4_wr ?_
                                          exact (e4_B_run_1519 h_R_39).tr (fe4_sB (by decide) (fe4_sI je4_rf))
                                        · skip
                                          refine KE4_if ?_ ?_
                                          · skip
                                            refine KE4_pu ?_
                                            refine KE4_rd (fun _ => ?_)
                                            refine KE4_if ?_ ?_
                                            · skip
                                              refine KE4_pu ?_
                                              exact (e4_B_run_1519 h_R_39).tr (fe4_sI (fe4_sI (fe4_sI je4_rf)))
                                            · skip
                                              exact (e4_B_run_1519 h_R_39).tr (fe4_sI (fe4_sI je4_rf))
                                          · skip
                                            refine KE4_if ?_ ?_
                                            · skip
                                              refine KE4_pu ?_
                                              refine KE4_rd (fun _ => ?_)
                                              refine KE4_if ?_ ?_
                                              · skip
                                                exact (e4_B_run_1519 h_R_39).tr (fe4_sI (fe4_sI je4_rf))
                                              · skip
                                                refine KE4_pu ?_
                                                exact (e4_B_run_1519 h_R_39).tr (fe4_sI (fe4_sI (fe4_sI je4_rf)))
                                            · skip
                                              refine KE4_if ?_ ?_
                                              · skip
                                                refine KE4_pu ?_
                                                exact (e4_B_run_1519 h_R_39).tr (fe4_sI (fe4_sI je4_rf))
                                              · skip
                                                refine KE4_if ?_ ?_
                                                · skip
                                                  refine KE4_rd (fun _ => ?_)
                                                  refine KE4_if ?_ ?_
                                                  · skip
                                                    exact (e4_B_run_1066 h_R_39).tr (fe4_sI je4_rf)
                                                  · skip
                                                    exact (e4_B_run_1066 h_R_39).tr (fe4_sI je4_rf)
                                                · skip
                                                  refine KE4_if ?_ ?_
                                                  · skip
                                                    refine KE4_if ?_ ?_
                                                    · skip
                                                      exact (e4_B_run_1141 h_R_39).tr (fe4_sI je4_rf)
                                                    · skip
                                                      refine KE4_if ?_ ?_
                                                      · skip
                                                        exact (e4_B_run_1141 h_R_39).tr (fe4_sI je4_rf)
                                                      · skip
                                                        refine KE4_pu ?_
                                                        refine KE4_if ?_ ?_
                                                        · skip
                                                          exact (e4_B_run_1114 h_R_39).tr (fe4_sI (fe4_sI je4_rf))
                                                        · skip
                                                          exact (e4_B_run_1114 h_R_39).tr (fe4_sI (fe4_sI je4_rf))
                                                  · skip
                                                    refine KE4_if ?_ ?_
                                                    · skip
                                                      refine KE4_bn (e4_F_mayCall.tr (fe4_sI je4_rf)) (fun _ _ => ?_)
                                                      refine KE4_if ?_ ?_
                                                      · skip
                                                        exact (e4_B_run_1519 h_R_39).tr je4_rf
                                                      · skip
                                                        refine KE4_bn (e4_F_enter.tr je4_rf) (fun _ _ => ?_)
                                                        exact (e4_B_run_1519 h_R_39).tr je4_rf
                                                    · skip
                                                      refine KE4_if ?_ ?_
                                                      · skip
                                                        refine KE4_bn (e4_F_mayCall.tr (fe4_sI je4_rf)) (fun _ _ => ?_)
                                                        refine KE4_if ?_ ?_
                                                        · skip
                                                          exact (e4_B_run_1519 h_R_39).tr je4_rf
                                                        · skip
                                                          refine KE4_wr ?_
                                                          refine KE4_pu ?_
                                                          refine KE4_rd (fun _ => ?_)
                                                          refine KE4_pu ?_
                                                          refine KE4_rd (fun _ => ?_)
                                                          refine KE4_rd (fun _ => ?_)
                                                          refine KE4_pu ?_
                                                          exact (e4_B_run_1519 h_R_39).tr (fe4_sI (fe4_sI (fe4_sI (fe4_sA (by decide) je4_rf))))
                                                      · skip
                                                        refine KE4_if ?_ ?_
                                                        · skip
                                                          refine KE4_if ?_ ?_
                                                          · skip
                                                            exact (e4_B_run_1519 h_R_39).tr (fe4_sI je4_rf)
                                                          · skip
                                                            refine KE4_bn (e4_F_leave.tr (fe4_sI je4_rf)) (fun _ _ => ?_)
                                                            exact (e4_B_run_1519 h_R_39).tr je4_rf
                                                        · skip
                                                          refine KE4_if ?_ ?_
                                                          · skip
                                                            refine KE4_rd (fun _ => ?_)
                                                            refine KE4_bn (e4_F_leave.tr (fe4_sI je4_rf)) (fun _ _ => ?_)
                                                            refine KE4_pu ?_
                                                            refine KE4_wr ?_
                                                            exact (e4_B_run_1519 h_R_39).tr (fe4_sB (by decide) (fe4_sI je4_rf))
                                                          · skip
                                                            refine KE4_if ?_ ?_
                                                            · skip
                                                              refine KE4_pu ?_
                                                              refine KE4_rd (fun _ => ?_)
                                                              refine KE4_pu ?_
                                                              refine KE4_bn (e4_F_stops.tr (fe4_sL (fe4_sI (fe4_sI je4_rf)))) (fun _ _ => ?_)
                                                              exact (e4_B_run_1519 h_R_39).tr je4_rf
                                                            · skip
                                                              refine KE4_if ?_ ?_
                                                              · skip
                                                                refine KE4_rd (fun _ => ?_)
                                                                refine KE4_rd (fun _ => ?_)
                                                                refine KE4_if ?_ ?_
                                                                · skip
                                                                  exact (e4_B_run_1519 h_R_39).tr (fe4_sI je4_rf)
                                                                · skip
                                                                  refine KE4_rd (fun _ => ?_)
                                                                  refine KE4_rd (fun _ => ?_)
                                                                  refine KE4_if ?_ ?_
                                                                  · skip
                                                                    exact (e4_B_run_1519 h_R_39).tr (fe4_sI je4_rf)
                                                                  · skip
                                                                    refine KE4_pu ?_
                                                                    refine KE4_pu ?_
                                                                    exact (e4_B_run_1519 h_R_39).tr (fe4_sI (fe4_sI (fe4_sI je4_rf)))
                                                              · skip
                                                                refine KE4_if ?_ ?_
                                                                · skip
                                                                  refine KE4_pu ?_
                                                                  exact (e4_B_run_1519 h_R_39).tr (fe4_sI (fe4_sI je4_rf))
                                                                · skip
                                                                  refine KE4_if ?_ ?_
                                                                  · skip
                                                                    refine KE4_pu ?_
                                                                    refine KE4_rd (fun _ => ?_)
                                                                    refine KE4_rd (fun _ => ?_)
                                                                    refine KE4_if ?_ ?_
                                                                    · skip
                                                                      exact (e4_B_run_1519 h_R_39).tr (fe4_sI (fe4_sI je4_rf))
                                                                    · skip
                                                                      refine KE4_pu ?_
                                                                      exact (e4_B_run_1519 h_R_39).tr (fe4_sI (fe4_sI (fe4_sI je4_rf)))
                                                                  · skip
                                                                    refine KE4_pu ?_
                                                                    refine KE4_rd (fun _ => ?_)
                                                                    refine KE4_rd (fun _ => ?_)
                                                                    refine KE4_if ?_ ?_
                                                                    · skip
                                                                      refine KE4_pu ?_
                                                                      exact (e4_B_run_1519 h_R_39).tr (fe4_sI (fe4_sI (fe4_sI je4_rf)))
                                                                    · skip
                                                                      exact (e4_B_run_1519 h_R_39).tr (fe4_sI (fe4_sI je4_rf))
    · skip
      exact KE4_some je4_rf
theorem e4_LP_run_39 {N : Nat}  (n : Nat) : ∀ a : Int32 × RSt, KE4 (LP_run_39 N n a) a.2 := by
  induction n with
  | zero => exact fun a r z e => by have e : (none : Option _) = some (r, z) := e; cases e
  | succ n ih =>
    intro a
    show KE4 (B_run_39 N (LP_run_39 N n) a.1 a.2) a.2
    exact e4_B_run_39 ih
theorem e4_B_run_0 {N : Nat} {l1 : Int32} {u : RSt}  : KE4 (B_run_0 N l1 u) u := by
  unfold B_run_0
  refine KE4_pu ?_
  refine KE4_pu ?_
  refine KE4_pu ?_
  refine KE4_pu ?_
  refine KE4_pu ?_
  refine KE4_pu ?_
  refine KE4_pu ?_
  exact (e4_LP_run_39  _ _).tr (fe4_sI (fe4_sI (fe4_sI (fe4_sI (fe4_sI (fe4_sI (fe4_sI je4_rf)))))))
theorem e4_F_run {N : Nat} {l1 : Int32} {u : RSt}  : KE4 (F_run N l1 u) u := by
  unfold F_run
  exact e4_B_run_0.tr je4_rf
theorem e4_B_runTask_0 {N : Nat} {l1 : Int32} {u : RSt}  : KE4 (B_runTask_0 N l1 u) u := by
  unfold B_runTask_0
  refine KE4_rd (fun _ => ?_)
  refine KE4_wr ?_
  refine KE4_rd (fun _ => ?_)
  refine KE4_bn (e4_F_run.tr (fe4_sA (by decide) je4_rf)) (fun _ _ => ?_)
  refine KE4_wr ?_
  refine KE4_if ?_ ?_
  · skip
    exact KE4_some (fe4_sA (by decide) je4_rf)
  · skip
    refine KE4_wr ?_
    refine KE4_wr ?_
    refine KE4_wr ?_
    refine KE4_wr ?_
    refine KE4_if ?_ ?_
    · skip
      refine KE4_wr ?_
      exact KE4_some (fe4_sA (by decide) (fe4_sA (by decide) (fe4_sA (by decide) (fe4_sA (by decide) (fe4_sA (by decide) (fe4_sA (by decide) je4_rf))))))
    · skip
      refine KE4_wr ?_
      exact KE4_some (fe4_sA (by decide) (fe4_sA (by decide) (fe4_sA (by decide) (fe4_sA (by decide) (fe4_sA (by decide) (fe4_sA (by decide) je4_rf))))))
theorem e4_F_runTask {N : Nat} {l1 : Int32} {u : RSt}  : KE4 (F_runTask N l1 u) u := by
  unfold F_runTask
  exact e4_B_runTask_0.tr je4_rf
theorem e4_B_forces_2 {N : Nat} {R_2 : Int32 × Int32 × RSt → Option (Int32 × RSt)} {l1 : Int32} {l2 : Int32} {u : RSt} (h_R_2 : ∀ a, KE4 (R_2 a) a.2.2) : KE4 (B_forces_2 N R_2 l1 l2 u) u := by
  unfold B_forces_2
  refine KE4_if ?_ ?_
  · skip
    exact KE4_some je4_rf
  · skip
    refine KE4_rd (fun _ => ?_)
    refine KE4_rd (fun _ => ?_)
    refine KE4_rd (fun _ => ?_)
    refine KE4_wr ?_
    exact (h_R_2 _).tr (fe4_sA (by decide) je4_rf)
theorem e4_LP_forces_2 {N : Nat}  (n : Nat) : ∀ a : Int32 × Int32 × RSt, KE4 (LP_forces_2 N n a) a.2.2 := by
  induction n with
  | zero => exact fun a r z e => by have e : (none : Option _) = some (r, z) := e; cases e
  | succ n ih =>
    intro a
    show KE4 (B_forces_2 N (LP_forces_2 N n) a.1 a.2.1 a.2.2) a.2.2
    exact e4_B_forces_2 ih
theorem e4_B_forces_0 {N : Nat} {l1 : Int32} {u : RSt}  : KE4 (B_forces_0 N l1 u) u := by
  unfold B_forces_0
  exact (e4_LP_forces_2  _ _).tr je4_rf
theorem e4_F_forces {N : Nat} {l1 : Int32} {u : RSt}  : KE4 (F_forces N l1 u) u := by
  unfold F_forces
  exact e4_B_forces_0.tr je4_rf
theorem e4_B_numberOf_0 {N : Nat} {l1 : Int32} {l2 : Int32} {u : RSt}  : KE4 (B_numberOf_0 N l1 l2 u) u := by
  unfold B_numberOf_0
  refine KE4_rd (fun _ => ?_)
  refine KE4_if ?_ ?_
  · skip
    refine KE4_rd (fun _ => ?_)
    refine KE4_rd (fun _ => ?_)
    refine KE4_bn (e4_F_read.tr je4_rf) (fun _ _ => ?_)
    exact KE4_some je4_rf
  · skip
    refine KE4_rd (fun _ => ?_)
    refine KE4_rd (fun _ => ?_)
    exact KE4_some je4_rf
theorem e4_F_numberOf {N : Nat} {l1 : Int32} {l2 : Int32} {u : RSt}  : KE4 (F_numberOf N l1 l2 u) u := by
  unfold F_numberOf
  exact e4_B_numberOf_0.tr je4_rf
theorem e4_B_ticks_104 {N : Nat} {R_35 : Int32 × Int32 × RSt → Option (Int32 × RSt)} {l1 : Int32} {l2 : Int32} {u : RSt} (h_R_35 : ∀ a, KE4 (R_35 a) a.2.2) : KE4 (B_ticks_104 N R_35 l1 l2 u) u := by
  unfold B_ticks_104
  exact (h_R_35 _).tr je4_rf
theorem e4_B_ticks_331 {N : Nat} {R_146 : Int32 × Int32 × RSt → Option (Int32 × RSt)} {l1 : Int32} {l2 : Int32} {u : RSt} (h_R_146 : ∀ a, KE4 (R_146 a) a.2.2) : KE4 (B_ticks_331 N R_146 l1 l2 u) u := by
  unfold B_ticks_331
  exact (h_R_146 _).tr je4_rf
theorem e4_B_ticks_196 {N : Nat} {R_146 : Int32 × Int32 × RSt → Option (Int32 × RSt)} {R_196 : Int32 × Int32 × Int64 × Int32 × RSt → Option (Int32 × RSt)} {l1 : Int32} {l2 : Int32} {l3 : Int64} {l5 : Int32} {u : RSt} (h_R_146 : ∀ a, KE4 (R_146 a) a.2.2) (h_R_196 : ∀ a, KE4 (R_196 a) a.2.2.2.2) : KE4 (B_ticks_196 N R_146 R_196 l1 l2 l3 l5 u) u := by
  unfold B_ticks_196
  refine KE4_if ?_ ?_
  · skip
    refine KE4_wr ?_
    refine KE4_rd (fun _ => ?_)
    refine KE4_wr ?_
    refine KE4_rd (fun _ => ?_)
    refine KE4_wr ?_
    refine KE4_wr ?_
    refine KE4_if ?_ ?_
    · skip
      exact (e4_B_ticks_331 h_R_146).tr (fe4_sB (by decide) (fe4_sA (by decide) (fe4_sA (by decide) (fe4_sA (by decide) je4_rf))))
    · skip
      refine KE4_pu ?_
      exact (e4_B_ticks_331 h_R_146).tr (fe4_sI (fe4_sB (by decide) (fe4_sA (by decide) (fe4_sA (by decide) (fe4_sA (by decide) je4_rf)))))
  · skip
    refine KE4_rd (fun _ => ?_)
    refine KE4_wr ?_
    refine KE4_rd (fun _ => ?_)
    refine KE4_wr ?_
    refine KE4_rd (fun _ => ?_)
    refine KE4_wr ?_
    refine KE4_rd (fun _ => ?_)
    refine KE4_wr ?_
    exact (h_R_196 _).tr (fe4_sB (by decide) (fe4_sA (by decide) (fe4_sA (by decide) (fe4_sA (by decide) je4_rf))))
theorem e4_LP_ticks_196 {N : Nat} {R_146 : Int32 × Int32 × RSt → Option (Int32 × RSt)} (h_R_146 : ∀ a, KE4 (R_146 a) a.2.2) (n : Nat) : ∀ a : Int32 × Int32 × Int64 × Int32 × RSt, KE4 (LP_ticks_196 N R_146 n a) a.2.2.2.2 := by
  induction n with
  | zero => exact fun a r z e => by have e : (none : Option _) = some (r, z) := e; cases e
  | succ n ih =>
    intro a
    show KE4 (B_ticks_196 N R_146 (LP_ticks_196 N R_146 n) a.1 a.2.1 a.2.2.1 a.2.2.2.1 a.2.2.2.2) a.2.2.2.2
    exact e4_B_ticks_196 h_R_146 ih
theorem e4_B_ticks_146 {N : Nat} {R_146 : Int32 × Int32 × RSt → Option (Int32 × RSt)} {l1 : Int32} {l2 : Int32} {u : RSt} (h_R_146 : ∀ a, KE4 (R_146 a) a.2.2) : KE4 (B_ticks_146 N R_146 l1 l2 u) u := by
  unfold B_ticks_146
  refine KE4_if ?_ ?_
  · skip
    refine KE4_pu ?_
    exact KE4_some (fe4_sI je4_rf)
  · skip
    refine KE4_rd (fun _ => ?_)
    refine KE4_rd (fun _ => ?_)
    refine KE4_bn (e4_F_numberOf.tr je4_rf) (fun _ _ => ?_)
    refine KE4_rd (fun _ => ?_)
    refine KE4_if ?_ ?_
    · skip
      exact (e4_B_ticks_331 h_R_146).tr je4_rf
    · skip
      refine KE4_wr ?_
      exact (e4_LP_ticks_196 h_R_146 _ _).tr (fe4_sB (by decide) je4_rf)
theorem e4_LP_ticks_146 {N : Nat}  (n : Nat) : ∀ a : Int32 × Int32 × RSt, KE4 (LP_ticks_146 N n a) a.2.2 := by
  induction n with
  | zero => exact fun a r z e => by have e : (none : Option _) = some (r, z) := e; cases e
  | succ n ih =>
    intro a
    show KE4 (B_ticks_146 N (LP_ticks_146 N n) a.1 a.2.1 a.2.2) a.2.2
    exact e4_B_ticks_146 ih
theorem e4_B_ticks_119 {N : Nat} {R_119 : Int32 × Int32 × RSt → Option (Int32 × RSt)} {l1 : Int32} {l2 : Int32} {u : RSt} (h_R_119 : ∀ a, KE4 (R_119 a) a.2.2) : KE4 (B_ticks_119 N R_119 l1 l2 u) u := by
  unfold B_ticks_119
  refine KE4_if ?_ ?_
  · skip
    exact (e4_LP_ticks_146  _ _).tr je4_rf
  · skip
    refine KE4_rd (fun _ => ?_)
    refine KE4_wr ?_
    exact (h_R_119 _).tr (fe4_sA (by decide) je4_rf)
theorem e4_LP_ticks_119 {N : Nat}  (n : Nat) : ∀ a : Int32 × Int32 × RSt, KE4 (LP_ticks_119 N n a) a.2.2 := by
  induction n with
  | zero => exact fun a r z e => by have e : (none : Option _) = some (r, z) := e; cases e
  | succ n ih =>
    intro a
    show KE4 (B_ticks_119 N (LP_ticks_119 N n) a.1 a.2.1 a.2.2) a.2.2
    exact e4_B_ticks_119 ih
theorem e4_B_ticks_35 {N : Nat} {R_35 : Int32 × Int32 × RSt → Option (Int32 × RSt)} {l1 : Int32} {l2 : Int32} {u : RSt} (h_R_35 : ∀ a, KE4 (R_35 a) a.2.2) : KE4 (B_ticks_35 N R_35 l1 l2 u) u := by
  unfold B_ticks_35
  refine KE4_rd (fun _ => ?_)
  refine KE4_if ?_ ?_
  · skip
    refine KE4_bn (e4_F_forces.tr je4_rf) (fun _ _ => ?_)
    exact (e4_LP_ticks_119  _ _).tr je4_rf
  · skip
    refine KE4_rd (fun _ => ?_)
    refine KE4_if ?_ ?_
    · skip
      refine KE4_rd (fun _ => ?_)
      refine KE4_nz ?_
      refine KE4_rd (fun _ => ?_)
      refine KE4_if ?_ ?_
      · skip
        refine KE4_bn (e4_F_runTask.tr je4_rf) (fun _ _ => ?_)
        exact (e4_B_ticks_104 h_R_35).tr je4_rf
      · skip
        exact (e4_B_ticks_104 h_R_35).tr je4_rf
    · skip
      exact (e4_B_ticks_104 h_R_35).tr je4_rf
theorem e4_LP_ticks_35 {N : Nat}  (n : Nat) : ∀ a : Int32 × Int32 × RSt, KE4 (LP_ticks_35 N n a) a.2.2 := by
  induction n with
  | zero => exact fun a r z e => by have e : (none : Option _) = some (r, z) := e; cases e
  | succ n ih =>
    intro a
    show KE4 (B_ticks_35 N (LP_ticks_35 N n) a.1 a.2.1 a.2.2) a.2.2
    exact e4_B_ticks_35 ih
theorem e4_B_ticks_4 {N : Nat} {R_4 : Int32 × Int32 × RSt → Option (Int32 × RSt)} {l1 : Int32} {l2 : Int32} {u : RSt} (h_R_4 : ∀ a, KE4 (R_4 a) a.2.2) : KE4 (B_ticks_4 N R_4 l1 l2 u) u := by
  unfold B_ticks_4
  refine KE4_if ?_ ?_
  · skip
    refine KE4_bn (e4_F_forces.tr je4_rf) (fun _ _ => ?_)
    exact (e4_LP_ticks_35  _ _).tr je4_rf
  · skip
    refine KE4_rd (fun _ => ?_)
    refine KE4_wr ?_
    exact (h_R_4 _).tr (fe4_sA (by decide) je4_rf)
theorem e4_LP_ticks_4 {N : Nat}  (n : Nat) : ∀ a : Int32 × Int32 × RSt, KE4 (LP_ticks_4 N n a) a.2.2 := by
  induction n with
  | zero => exact fun a r z e => by have e : (none : Option _) = some (r, z) := e; cases e
  | succ n ih =>
    intro a
    show KE4 (B_ticks_4 N (LP_ticks_4 N n) a.1 a.2.1 a.2.2) a.2.2
    exact e4_B_ticks_4 ih
theorem e4_B_ticks_0 {N : Nat} {u : RSt}  : KE4 (B_ticks_0 N u) u := by
  unfold B_ticks_0
  exact (e4_LP_ticks_4  _ _).tr je4_rf
theorem e4_F_ticks {N : Nat} {u : RSt}  : KE4 (F_ticks N u) u := by
  unfold F_ticks
  exact e4_B_ticks_0.tr je4_rf
theorem e4_B_anew_81 {N : Nat} {R_8 : Int32 × RSt → Option (Int32 × RSt)} {R_52 : Int32 × Int32 × Int32 × RSt → Option (Int32 × RSt)} {R_81 : Int32 × Int32 × Int32 × Int32 × RSt → Option (Int32 × RSt)} {l1 : Int32} {l2 : Int32} {l3 : Int32} {l4 : Int32} {u : RSt} (h_R_8 : ∀ a, KE4 (R_8 a) a.2) (h_R_52 : ∀ a, KE4 (R_52 a) a.2.2.2) (h_R_81 : ∀ a, KE4 (R_81 a) a.2.2.2.2) : KE4 (B_anew_81 N R_8 R_52 R_81 l1 l2 l3 l4 u) u := by
  unfold B_anew_81
  refine KE4_rd (fun _ => ?_)
  refine KE4_if ?_ ?_
  · skip
    exact (h_R_52 _).tr je4_rf
  · skip
    refine KE4_rd (fun _ => ?_)
    refine KE4_rd (fun _ => ?_)
    refine KE4_rd (fun _ => ?_)
    refine KE4_wr ?_
    exact (h_R_81 _).tr (fe4_sB (by decide) je4_rf)
theorem e4_LP_anew_81 {N : Nat} {R_8 : Int32 × RSt → Option (Int32 × RSt)} {R_52 : Int32 × Int32 × Int32 × RSt → Option (Int32 × RSt)} (h_R_8 : ∀ a, KE4 (R_8 a) a.2) (h_R_52 : ∀ a, KE4 (R_52 a) a.2.2.2) (n : Nat) : ∀ a : Int32 × Int32 × Int32 × Int32 × RSt, KE4 (LP_anew_81 N R_8 R_52 n a) a.2.2.2.2 := by
  induction n with
  | zero => exact fun a r z e => by have e : (none : Option _) = some (r, z) := e; cases e
  | succ n ih =>
    intro a
    show KE4 (B_anew_81 N R_8 R_52 (LP_anew_81 N R_8 R_52 n) a.1 a.2.1 a.2.2.1 a.2.2.2.1 a.2.2.2.2) a.2.2.2.2
    exact e4_B_anew_81 h_R_8 h_R_52 ih
theorem e4_B_anew_52 {N : Nat} {R_8 : Int32 × RSt → Option (Int32 × RSt)} {R_52 : Int32 × Int32 × Int32 × RSt → Option (Int32 × RSt)} {l1 : Int32} {l2 : Int32} {l3 : Int32} {u : RSt} (h_R_8 : ∀ a, KE4 (R_8 a) a.2) (h_R_52 : ∀ a, KE4 (R_52 a) a.2.2.2) : KE4 (B_anew_52 N R_8 R_52 l1 l2 l3 u) u := by
  unfold B_anew_52
  refine KE4_rd (fun _ => ?_)
  refine KE4_rd (fun _ => ?_)
  refine KE4_if ?_ ?_
  · skip
    exact (h_R_8 _).tr je4_rf
  · skip
    exact (e4_LP_anew_81 h_R_8 h_R_52 _ _).tr je4_rf
theorem e4_LP_anew_52 {N : Nat} {R_8 : Int32 × RSt → Option (Int32 × RSt)} (h_R_8 : ∀ a, KE4 (R_8 a) a.2) (n : Nat) : ∀ a : Int32 × Int32 × Int32 × RSt, KE4 (LP_anew_52 N R_8 n a) a.2.2.2 := by
  induction n with
  | zero => exact fun a r z e => by have e : (none : Option _) = some (r, z) := e; cases e
  | succ n ih =>
    intro a
    show KE4 (B_anew_52 N R_8 (LP_anew_52 N R_8 n) a.1 a.2.1 a.2.2.1 a.2.2.2) a.2.2.2
    exact e4_B_anew_52 h_R_8 ih
theorem e4_B_anew_139 {N : Nat} {R_139 : Int32 × RSt → Option (Int32 × RSt)} {l1 : Int32} {u : RSt} (h_R_139 : ∀ a, KE4 (R_139 a) a.2) : KE4 (B_anew_139 N R_139 l1 u) u := by
  unfold B_anew_139
  refine KE4_if ?_ ?_
  · skip
    exact KE4_some je4_rf
  · skip
    refine KE4_wr ?_
    exact (h_R_139 _).tr (fe4_sA (by decide) je4_rf)
theorem e4_LP_anew_139 {N : Nat}  (n : Nat) : ∀ a : Int32 × RSt, KE4 (LP_anew_139 N n a) a.2 := by
  induction n with
  | zero => exact fun a r z e => by have e : (none : Option _) = some (r, z) := e; cases e
  | succ n ih =>
    intro a
    show KE4 (B_anew_139 N (LP_anew_139 N n) a.1 a.2) a.2
    exact e4_B_anew_139 ih
theorem e4_B_anew_8 {N : Nat} {R_8 : Int32 × RSt → Option (Int32 × RSt)} {l1 : Int32} {u : RSt} (h_R_8 : ∀ a, KE4 (R_8 a) a.2) : KE4 (B_anew_8 N R_8 l1 u) u := by
  unfold B_anew_8
  refine KE4_rd (fun _ => ?_)
  refine KE4_if ?_ ?_
  · skip
    exact (e4_LP_anew_139  _ _).tr je4_rf
  · skip
    refine KE4_rd (fun _ => ?_)
    refine KE4_rd (fun _ => ?_)
    exact (e4_LP_anew_52 h_R_8 _ _).tr je4_rf
theorem e4_LP_anew_8 {N : Nat}  (n : Nat) : ∀ a : Int32 × RSt, KE4 (LP_anew_8 N n a) a.2 := by
  induction n with
  | zero => exact fun a r z e => by have e : (none : Option _) = some (r, z) := e; cases e
  | succ n ih =>
    intro a
    show KE4 (B_anew_8 N (LP_anew_8 N n) a.1 a.2) a.2
    exact e4_B_anew_8 ih
theorem e4_B_anew_0 {N : Nat} {u : RSt}  : KE4 (B_anew_0 N u) u := by
  unfold B_anew_0
  exact (e4_LP_anew_8  _ _).tr je4_rf
theorem e4_F_anew {N : Nat} {u : RSt}  : KE4 (F_anew N u) u := by
  unfold F_anew
  exact e4_B_anew_0.tr je4_rf
theorem e4_B_begin_7 {N : Nat} {R_7 : Int32 × RSt → Option (Int32 × RSt)} {l1 : Int32} {u : RSt} (h_R_7 : ∀ a, KE4 (R_7 a) a.2) : KE4 (B_begin_7 N R_7 l1 u) u := by
  unfold B_begin_7
  refine KE4_if ?_ ?_
  · skip
    exact KE4_some je4_rf
  · skip
    refine KE4_wr ?_
    exact (h_R_7 _).tr (fe4_sA (by decide) je4_rf)
theorem e4_LP_begin_7 {N : Nat}  (n : Nat) : ∀ a : Int32 × RSt, KE4 (LP_begin_7 N n a) a.2 := by
  induction n with
  | zero => exact fun a r z e => by have e : (none : Option _) = some (r, z) := e; cases e
  | succ n ih =>
    intro a
    show KE4 (B_begin_7 N (LP_begin_7 N n) a.1 a.2) a.2
    exact e4_B_begin_7 ih
theorem e4_B_begin_0 {N : Nat} {u : RSt}  : KE4 (B_begin_0 N u) u := by
  unfold B_begin_0
  refine KE4_pu ?_
  exact (e4_LP_begin_7  _ _).tr (fe4_sI je4_rf)
theorem e4_F_begin {N : Nat} {u : RSt}  : KE4 (F_begin N u) u := by
  unfold F_begin
  exact e4_B_begin_0.tr je4_rf
theorem e4_B_accept_229 {N : Nat} {R_9 : Int32 × Int32 × RSt → Option (Int32 × RSt)} {R_90 : Int32 × Int32 × Int32 × RSt → Option (Int32 × RSt)} {l1 : Int32} {l2 : Int32} {l3 : Int32} {u : RSt} (h_R_9 : ∀ a, KE4 (R_9 a) a.2.2) (h_R_90 : ∀ a, KE4 (R_90 a) a.2.2.2) : KE4 (B_accept_229 N R_9 R_90 l1 l2 l3 u) u := by
  unfold B_accept_229
  exact (h_R_90 _).tr je4_rf
theorem e4_B_accept_164 {N : Nat} {R_9 : Int32 × Int32 × RSt → Option (Int32 × RSt)} {R_90 : Int32 × Int32 × Int32 × RSt → Option (Int32 × RSt)} {R_164 : Int32 × Int32 × Int32 × Int32 × RSt → Option (Int32 × RSt)} {l1 : Int32} {l2 : Int32} {l3 : Int32} {l4 : Int32} {u : RSt} (h_R_9 : ∀ a, KE4 (R_9 a) a.2.2) (h_R_90 : ∀ a, KE4 (R_90 a) a.2.2.2) (h_R_164 : ∀ a, KE4 (R_164 a) a.2.2.2.2) : KE4 (B_accept_164 N R_9 R_90 R_164 l1 l2 l3 l4 u) u := by
  unfold B_accept_164
  refine KE4_rd (fun _ => ?_)
  refine KE4_if ?_ ?_
  · skip
    exact (e4_B_accept_229 h_R_9 h_R_90).tr je4_rf
  · skip
    refine KE4_rd (fun _ => ?_)
    refine KE4_if ?_ ?_
    · skip
      exact (e4_B_accept_229 h_R_9 h_R_90).tr je4_rf
    · skip
      refine KE4_rd (fun _ => ?_)
      refine KE4_rd (fun _ => ?_)
      refine KE4_rd (fun _ => ?_)
      refine KE4_rd (fun _ => ?_)
      refine KE4_wr ?_
      exact (h_R_164 _).tr (fe4_sB (by decide) je4_rf)
theorem e4_LP_accept_164 {N : Nat} {R_9 : Int32 × Int32 × RSt → Option (Int32 × RSt)} {R_90 : Int32 × Int32 × Int32 × RSt → Option (Int32 × RSt)} (h_R_9 : ∀ a, KE4 (R_9 a) a.2.2) (h_R_90 : ∀ a, KE4 (R_90 a) a.2.2.2) (n : Nat) : ∀ a : Int32 × Int32 × Int32 × Int32 × RSt, KE4 (LP_accept_164 N R_9 R_90 n a) a.2.2.2.2 := by
  induction n with
  | zero => exact fun a r z e => by have e : (none : Option _) = some (r, z) := e; cases e
  | succ n ih =>
    intro a
    show KE4 (B_accept_164 N R_9 R_90 (LP_accept_164 N R_9 R_90 n) a.1 a.2.1 a.2.2.1 a.2.2.2.1 a.2.2.2.2) a.2.2.2.2
    exact e4_B_accept_164 h_R_9 h_R_90 ih
theorem e4_B_accept_235 {N : Nat} {R_9 : Int32 × Int32 × RSt → Option (Int32 × RSt)} {l1 : Int32} {l2 : Int32} {u : RSt} (h_R_9 : ∀ a, KE4 (R_9 a) a.2.2) : KE4 (B_accept_235 N R_9 l1 l2 u) u := by
  unfold B_accept_235
  exact (h_R_9 _).tr je4_rf
theorem e4_B_accept_90 {N : Nat} {R_9 : Int32 × Int32 × RSt → Option (Int32 × RSt)} {R_90 : Int32 × Int32 × Int32 × RSt → Option (Int32 × RSt)} {l1 : Int32} {l2 : Int32} {l3 : Int32} {u : RSt} (h_R_9 : ∀ a, KE4 (R_9 a) a.2.2) (h_R_90 : ∀ a, KE4 (R_90 a) a.2.2.2) : KE4 (B_accept_90 N R_9 R_90 l1 l2 l3 u) u := by
  unfold B_accept_90
  refine KE4_if ?_ ?_
  · skip
    exact (e4_B_accept_235 h_R_9).tr je4_rf
  · skip
    refine KE4_rd (fun _ => ?_)
    refine KE4_if ?_ ?_
    · skip
      exact (e4_B_accept_235 h_R_9).tr je4_rf
    · skip
      refine KE4_rd (fun _ => ?_)
      refine KE4_if ?_ ?_
      · skip
        exact (e4_B_accept_229 h_R_9 h_R_90).tr je4_rf
      · skip
        refine KE4_rd (fun _ => ?_)
        refine KE4_rd (fun _ => ?_)
        refine KE4_if ?_ ?_
        · skip
          refine KE4_rd (fun _ => ?_)
          refine KE4_rd (fun _ => ?_)
          refine KE4_if ?_ ?_
          · skip
            exact (e4_LP_accept_164 h_R_9 h_R_90 _ _).tr je4_rf
          · skip
            exact (e4_B_accept_229 h_R_9 h_R_90).tr je4_rf
        · skip
          exact (e4_B_accept_229 h_R_9 h_R_90).tr je4_rf
theorem e4_LP_accept_90 {N : Nat} {R_9 : Int32 × Int32 × RSt → Option (Int32 × RSt)} (h_R_9 : ∀ a, KE4 (R_9 a) a.2.2) (n : Nat) : ∀ a : Int32 × Int32 × Int32 × RSt, KE4 (LP_accept_90 N R_9 n a) a.2.2.2 := by
  induction n with
  | zero => exact fun a r z e => by have e : (none : Option _) = some (r, z) := e; cases e
  | succ n ih =>
    intro a
    show KE4 (B_accept_90 N R_9 (LP_accept_90 N R_9 n) a.1 a.2.1 a.2.2.1 a.2.2.2) a.2.2.2
    exact e4_B_accept_90 h_R_9 ih
theorem e4_B_accept_46 {N : Nat} {R_9 : Int32 × Int32 × RSt → Option (Int32 × RSt)} {R_46 : Int32 × Int32 × Int32 × RSt → Option (Int32 × RSt)} {l1 : Int32} {l2 : Int32} {l3 : Int32} {u : RSt} (h_R_9 : ∀ a, KE4 (R_9 a) a.2.2) (h_R_46 : ∀ a, KE4 (R_46 a) a.2.2.2) : KE4 (B_accept_46 N R_9 R_46 l1 l2 l3 u) u := by
  unfold B_accept_46
  refine KE4_rd (fun _ => ?_)
  refine KE4_if ?_ ?_
  · skip
    exact (e4_LP_accept_90 h_R_9 _ _).tr je4_rf
  · skip
    refine KE4_rd (fun _ => ?_)
    refine KE4_rd (fun _ => ?_)
    refine KE4_wr ?_
    exact (h_R_46 _).tr (fe4_sB (by decide) je4_rf)
theorem e4_LP_accept_46 {N : Nat} {R_9 : Int32 × Int32 × RSt → Option (Int32 × RSt)} (h_R_9 : ∀ a, KE4 (R_9 a) a.2.2) (n : Nat) : ∀ a : Int32 × Int32 × Int32 × RSt, KE4 (LP_accept_46 N R_9 n a) a.2.2.2 := by
  induction n with
  | zero => exact fun a r z e => by have e : (none : Option _) = some (r, z) := e; cases e
  | succ n ih =>
    intro a
    show KE4 (B_accept_46 N R_9 (LP_accept_46 N R_9 n) a.1 a.2.1 a.2.2.1 a.2.2.2) a.2.2.2
    exact e4_B_accept_46 h_R_9 ih
theorem e4_B_accept_283 {N : Nat} {R_283 : Int32 × Int32 × RSt → Option (Int32 × RSt)} {l1 : Int32} {l2 : Int32} {u : RSt} (h_R_283 : ∀ a, KE4 (R_283 a) a.2.2) : KE4 (B_accept_283 N R_283 l1 l2 u) u := by
  unfold B_accept_283
  refine KE4_if ?_ ?_
  · skip
    refine KE4_pu ?_
    refine KE4_pu ?_
    refine KE4_if ?_ ?_
    · skip
      refine KE4_bn (e4_F_begin.tr (fe4_sI (fe4_sI je4_rf))) (fun _ _ => ?_)
      exact KE4_some je4_rf
    · skip
      exact KE4_some (fe4_sI (fe4_sI je4_rf))
  · skip
    refine KE4_wr ?_
    refine KE4_wr ?_
    refine KE4_wr ?_
    refine KE4_wr ?_
    refine KE4_wr ?_
    refine KE4_wr ?_
    exact (h_R_283 _).tr (fe4_sA (by decide) (fe4_sA (by decide) (fe4_sA (by decide) (fe4_sA (by decide) (fe4_sA (by decide) (fe4_sA (by decide) je4_rf))))))
theorem e4_LP_accept_283 {N : Nat}  (n : Nat) : ∀ a : Int32 × Int32 × RSt, KE4 (LP_accept_283 N n a) a.2.2 := by
  induction n with
  | zero => exact fun a r z e => by have e : (none : Option _) = some (r, z) := e; cases e
  | succ n ih =>
    intro a
    show KE4 (B_accept_283 N (LP_accept_283 N n) a.1 a.2.1 a.2.2) a.2.2
    exact e4_B_accept_283 ih
theorem e4_B_accept_243 {N : Nat} {R_243 : Int32 × Int32 × RSt → Option (Int32 × RSt)} {l1 : Int32} {l2 : Int32} {u : RSt} (h_R_243 : ∀ a, KE4 (R_243 a) a.2.2) : KE4 (B_accept_243 N R_243 l1 l2 u) u := by
  unfold B_accept_243
  refine KE4_if ?_ ?_
  · skip
    refine KE4_pu ?_
    refine KE4_bn (e4_F_anew.tr (fe4_sI je4_rf)) (fun _ _ => ?_)
    exact (e4_LP_accept_283  _ _).tr je4_rf
  · skip
    refine KE4_rd (fun _ => ?_)
    refine KE4_wr ?_
    exact (h_R_243 _).tr (fe4_sB (by decide) je4_rf)
theorem e4_LP_accept_243 {N : Nat}  (n : Nat) : ∀ a : Int32 × Int32 × RSt, KE4 (LP_accept_243 N n a) a.2.2 := by
  induction n with
  | zero => exact fun a r z e => by have e : (none : Option _) = some (r, z) := e; cases e
  | succ n ih =>
    intro a
    show KE4 (B_accept_243 N (LP_accept_243 N n) a.1 a.2.1 a.2.2) a.2.2
    exact e4_B_accept_243 ih
theorem e4_B_accept_9 {N : Nat} {R_9 : Int32 × Int32 × RSt → Option (Int32 × RSt)} {l1 : Int32} {l2 : Int32} {u : RSt} (h_R_9 : ∀ a, KE4 (R_9 a) a.2.2) : KE4 (B_accept_9 N R_9 l1 l2 u) u := by
  unfold B_accept_9
  refine KE4_rd (fun _ => ?_)
  refine KE4_if ?_ ?_
  · skip
    exact (e4_LP_accept_243  _ _).tr je4_rf
  · skip
    refine KE4_rd (fun _ => ?_)
    refine KE4_if ?_ ?_
    · skip
      exact (e4_LP_accept_46 h_R_9 _ _).tr je4_rf
    · skip
      exact (e4_B_accept_235 h_R_9).tr je4_rf
theorem e4_LP_accept_9 {N : Nat}  (n : Nat) : ∀ a : Int32 × Int32 × RSt, KE4 (LP_accept_9 N n a) a.2.2 := by
  induction n with
  | zero => exact fun a r z e => by have e : (none : Option _) = some (r, z) := e; cases e
  | succ n ih =>
    intro a
    show KE4 (B_accept_9 N (LP_accept_9 N n) a.1 a.2.1 a.2.2) a.2.2
    exact e4_B_accept_9 ih
theorem e4_B_accept_0 {N : Nat} {l1 : Int32} {u : RSt}  : KE4 (B_accept_0 N l1 u) u := by
  unfold B_accept_0
  exact (e4_LP_accept_9  _ _).tr je4_rf
theorem e4_F_accept {N : Nat} {l1 : Int32} {u : RSt}  : KE4 (F_accept N l1 u) u := by
  unfold F_accept
  exact e4_B_accept_0.tr je4_rf
theorem e4_B_scan_23 {N : Nat} {R_23 : Int32 × Int32 × Int32 × RSt → Option (Int32 × RSt)} {l1 : Int32} {l2 : Int32} {l3 : Int32} {u : RSt} (h_R_23 : ∀ a, KE4 (R_23 a) a.2.2.2) : KE4 (B_scan_23 N R_23 l1 l2 l3 u) u := by
  unfold B_scan_23
  refine KE4_if ?_ ?_
  · skip
    exact KE4_some je4_rf
  · skip
    refine KE4_if ?_ ?_
    · skip
      refine KE4_bn (e4_F_ticks.tr je4_rf) (fun _ _ => ?_)
      exact (h_R_23 _).tr je4_rf
    · skip
      exact KE4_some je4_rf
theorem e4_LP_scan_23 {N : Nat}  (n : Nat) : ∀ a : Int32 × Int32 × Int32 × RSt, KE4 (LP_scan_23 N n a) a.2.2.2 := by
  induction n with
  | zero => exact fun a r z e => by have e : (none : Option _) = some (r, z) := e; cases e
  | succ n ih =>
    intro a
    show KE4 (B_scan_23 N (LP_scan_23 N n) a.1 a.2.1 a.2.2.1 a.2.2.2) a.2.2.2
    exact e4_B_scan_23 ih
theorem e4_B_scan_16 {N : Nat} {l1 : Int32} {s1 : Int32} {u : RSt}  : KE4 (B_scan_16 N l1 s1 u) u := by
  unfold B_scan_16
  refine KE4_pu ?_
  exact (e4_LP_scan_23  _ _).tr (fe4_sI je4_rf)
theorem e4_B_scan_0 {N : Nat} {l1 : Int32} {u : RSt}  : KE4 (B_scan_0 N l1 u) u := by
  unfold B_scan_0
  refine KE4_if ?_ ?_
  · skip
    exact e4_B_scan_16.tr je4_rf
  · skip
    exact e4_B_scan_16.tr je4_rf
theorem e4_F_scan {N : Nat} {l1 : Int32} {u : RSt}  : KE4 (F_scan N l1 u) u := by
  unfold F_scan
  exact e4_B_scan_0.tr je4_rf
theorem e4_B_power_82 {N : Nat} {R_14 : Int32 × RSt → Option (Int32 × RSt)} {l1 : Int32} {u : RSt} (h_R_14 : ∀ a, KE4 (R_14 a) a.2) : KE4 (B_power_82 N R_14 l1 u) u := by
  unfold B_power_82
  exact (h_R_14 _).tr je4_rf
theorem e4_B_power_38 {N : Nat} {R_14 : Int32 × RSt → Option (Int32 × RSt)} {R_38 : Int32 × Int32 × RSt → Option (Int32 × RSt)} {l1 : Int32} {l2 : Int32} {u : RSt} (h_R_14 : ∀ a, KE4 (R_14 a) a.2) (h_R_38 : ∀ a, KE4 (R_38 a) a.2.2) : KE4 (B_power_38 N R_14 R_38 l1 l2 u) u := by
  unfold B_power_38
  refine KE4_rd (fun _ => ?_)
  refine KE4_if ?_ ?_
  · skip
    exact (e4_B_power_82 h_R_14).tr je4_rf
  · skip
    refine KE4_rd (fun _ => ?_)
    refine KE4_if ?_ ?_
    · skip
      refine KE4_rd (fun _ => ?_)
      refine KE4_rd (fun _ => ?_)
      refine KE4_wr ?_
      exact (h_R_38 _).tr (fe4_sB (by decide) je4_rf)
    · skip
      exact (e4_B_power_82 h_R_14).tr je4_rf
theorem e4_LP_power_38 {N : Nat} {R_14 : Int32 × RSt → Option (Int32 × RSt)} (h_R_14 : ∀ a, KE4 (R_14 a) a.2) (n : Nat) : ∀ a : Int32 × Int32 × RSt, KE4 (LP_power_38 N R_14 n a) a.2.2 := by
  induction n with
  | zero => exact fun a r z e => by have e : (none : Option _) = some (r, z) := e; cases e
  | succ n ih =>
    intro a
    show KE4 (B_power_38 N R_14 (LP_power_38 N R_14 n) a.1 a.2.1 a.2.2) a.2.2
    exact e4_B_power_38 h_R_14 ih
theorem e4_B_power_14 {N : Nat} {R_14 : Int32 × RSt → Option (Int32 × RSt)} {l1 : Int32} {u : RSt} (h_R_14 : ∀ a, KE4 (R_14 a) a.2) : KE4 (B_power_14 N R_14 l1 u) u := by
  unfold B_power_14
  refine KE4_rd (fun _ => ?_)
  refine KE4_if ?_ ?_
  · skip
    refine KE4_bn (e4_F_anew.tr je4_rf) (fun _ _ => ?_)
    refine KE4_bn (e4_F_begin.tr je4_rf) (fun _ _ => ?_)
    exact KE4_some je4_rf
  · skip
    exact (e4_LP_power_38 h_R_14 _ _).tr je4_rf
theorem e4_LP_power_14 {N : Nat}  (n : Nat) : ∀ a : Int32 × RSt, KE4 (LP_power_14 N n a) a.2 := by
  induction n with
  | zero => exact fun a r z e => by have e : (none : Option _) = some (r, z) := e; cases e
  | succ n ih =>
    intro a
    show KE4 (B_power_14 N (LP_power_14 N n) a.1 a.2) a.2
    exact e4_B_power_14 ih
theorem e4_B_power_0 {N : Nat} {u : RSt}  : KE4 (B_power_0 N u) u := by
  unfold B_power_0
  refine KE4_pu ?_
  exact (e4_LP_power_14  _ _).tr (fe4_sI je4_rf)
theorem e4_F_power {N : Nat} {u : RSt}  : KE4 (F_power N u) u := by
  unfold F_power
  exact e4_B_power_0.tr je4_rf
theorem e4_B_hasByte_16 {N : Nat} {s1 : Int32} {u : RSt}  : KE4 (B_hasByte_16 N s1 u) u := by
  unfold B_hasByte_16
  refine KE4_pu ?_
  refine KE4_if ?_ ?_
  · skip
    exact KE4_some (fe4_sI je4_rf)
  · skip
    exact KE4_some (fe4_sI je4_rf)
theorem e4_B_hasByte_0 {N : Nat} {l1 : Int32} {l2 : Int32} {u : RSt}  : KE4 (B_hasByte_0 N l1 l2 u) u := by
  unfold B_hasByte_0
  refine KE4_if ?_ ?_
  · skip
    exact e4_B_hasByte_16.tr je4_rf
  · skip
    exact e4_B_hasByte_16.tr je4_rf
theorem e4_F_hasByte {N : Nat} {l1 : Int32} {l2 : Int32} {u : RSt}  : KE4 (F_hasByte N l1 l2 u) u := by
  unfold F_hasByte
  exact e4_B_hasByte_0.tr je4_rf
theorem e4_B_input_0 {N : Nat} {l1 : Int32} {l2 : Int32} {u : RSt}  : KE4 (B_input_0 N l1 l2 u) u := by
  unfold B_input_0
  refine KE4_bn (e4_F_hasByte.tr je4_rf) (fun _ _ => ?_)
  refine KE4_if ?_ ?_
  · skip
    exact KE4_some je4_rf
  · skip
    refine KE4_wr ?_
    exact KE4_some (fe4_sA (by decide) je4_rf)
theorem e4_F_input {N : Nat} {l1 : Int32} {l2 : Int32} {u : RSt}  : KE4 (F_input N l1 l2 u) u := by
  unfold F_input
  exact e4_B_input_0.tr je4_rf
theorem e4_B_look_51 {N : Nat} {l1 : Int32} {s0 : Int32} {u : RSt}  : KE4 (B_look_51 N l1 s0 u) u := by
  unfold B_look_51
  refine KE4_if ?_ ?_
  · skip
    refine KE4_if ?_ ?_
    · skip
      refine KE4_if ?_ ?_
      · skip
        refine KE4_rd (fun _ => ?_)
        exact KE4_some je4_rf
      · skip
        refine KE4_rd (fun _ => ?_)
        exact KE4_some je4_rf
    · skip
      refine KE4_rd (fun _ => ?_)
      exact KE4_some je4_rf
  · skip
    refine KE4_rd (fun _ => ?_)
    exact KE4_some je4_rf
theorem e4_B_look_16 {N : Nat} {l1 : Int32} {l2 : Int32} {s1 : Int32} {u : RSt}  : KE4 (B_look_16 N l1 l2 s1 u) u := by
  unfold B_look_16
  refine KE4_pu ?_
  refine KE4_if ?_ ?_
  · skip
    exact KE4_some (fe4_sI je4_rf)
  · skip
    refine KE4_bn (e4_F_hasByte.tr (fe4_sI je4_rf)) (fun _ _ => ?_)
    refine KE4_if ?_ ?_
    · skip
      exact KE4_some je4_rf
    · skip
      refine KE4_if ?_ ?_
      · skip
        exact e4_B_look_51.tr je4_rf
      · skip
        exact e4_B_look_51.tr je4_rf
theorem e4_B_look_0 {N : Nat} {l1 : Int32} {l2 : Int32} {u : RSt}  : KE4 (B_look_0 N l1 l2 u) u := by
  unfold B_look_0
  refine KE4_if ?_ ?_
  · skip
    exact e4_B_look_16.tr je4_rf
  · skip
    exact e4_B_look_16.tr je4_rf
theorem e4_F_look {N : Nat} {l1 : Int32} {l2 : Int32} {u : RSt}  : KE4 (F_look N l1 l2 u) u := by
  unfold F_look
  exact e4_B_look_0.tr je4_rf
theorem e4_B_force_22 {N : Nat} {l3 : Int32} {l4 : Int32} {s0 : Int32} {u : RSt}  : KE4 (B_force_22 N l3 l4 s0 u) u := by
  unfold B_force_22
  refine KE4_wr ?_
  refine KE4_wr ?_
  exact KE4_some (fe4_sA (by decide) (fe4_sA (by decide) je4_rf))
theorem e4_B_force_0 {N : Nat} {l1 : Int32} {l2 : Int32} {l3 : Int32} {l4 : Int32} {u : RSt}  : KE4 (B_force_0 N l1 l2 l3 l4 u) u := by
  unfold B_force_0
  refine KE4_bn (e4_F_hasByte.tr je4_rf) (fun _ _ => ?_)
  refine KE4_if ?_ ?_
  · skip
    exact KE4_some je4_rf
  · skip
    refine KE4_if ?_ ?_
    · skip
      exact e4_B_force_22.tr je4_rf
    · skip
      exact e4_B_force_22.tr je4_rf
theorem e4_F_force {N : Nat} {l1 : Int32} {l2 : Int32} {l3 : Int32} {l4 : Int32} {u : RSt}  : KE4 (F_force N l1 l2 l3 l4 u) u := by
  unfold F_force
  exact e4_B_force_0.tr je4_rf
theorem e4_B_watchdog_17 {N : Nat} {l1 : Int32} {s1 : Int32} {u : RSt}  : KE4 (B_watchdog_17 N l1 s1 u) u := by
  unfold B_watchdog_17
  refine KE4_pu ?_
  refine KE4_if ?_ ?_
  · skip
    refine KE4_pu ?_
    exact KE4_some (fe4_sI (fe4_sI je4_rf))
  · skip
    exact KE4_some (fe4_sI je4_rf)
theorem e4_B_watchdog_0 {N : Nat} {l1 : Int32} {u : RSt}  : KE4 (B_watchdog_0 N l1 u) u := by
  unfold B_watchdog_0
  refine KE4_if ?_ ?_
  · skip
    exact e4_B_watchdog_17.tr je4_rf
  · skip
    exact e4_B_watchdog_17.tr je4_rf
theorem e4_F_watchdog {N : Nat} {l1 : Int32} {u : RSt}  : KE4 (F_watchdog N l1 u) u := by
  unfold F_watchdog
  exact e4_B_watchdog_0.tr je4_rf
theorem e4_B_hasTask_25 {N : Nat} {s1 : Int32} {u : RSt}  : KE4 (B_hasTask_25 N s1 u) u := by
  unfold B_hasTask_25
  refine KE4_pu ?_
  refine KE4_if ?_ ?_
  · skip
    exact KE4_some (fe4_sI je4_rf)
  · skip
    exact KE4_some (fe4_sI je4_rf)
theorem e4_B_hasTask_0 {N : Nat} {l1 : Int32} {u : RSt}  : KE4 (B_hasTask_0 N l1 u) u := by
  unfold B_hasTask_0
  refine KE4_rd (fun _ => ?_)
  refine KE4_if ?_ ?_
  · skip
    exact e4_B_hasTask_25.tr je4_rf
  · skip
    exact e4_B_hasTask_25.tr je4_rf
theorem e4_F_hasTask {N : Nat} {l1 : Int32} {u : RSt}  : KE4 (F_hasTask N l1 u) u := by
  unfold F_hasTask
  exact e4_B_hasTask_0.tr je4_rf
theorem e4_B_clear_0 {N : Nat} {l1 : Int32} {u : RSt}  : KE4 (B_clear_0 N l1 u) u := by
  unfold B_clear_0
  refine KE4_bn (e4_F_hasTask.tr je4_rf) (fun _ _ => ?_)
  refine KE4_if ?_ ?_
  · skip
    exact KE4_some je4_rf
  · skip
    refine KE4_rd (fun _ => ?_)
    refine KE4_wr ?_
    refine KE4_zr ?_
    exact KE4_some (fe4_sA (by decide) je4_rf)
theorem e4_F_clear {N : Nat} {l1 : Int32} {u : RSt}  : KE4 (F_clear N l1 u) u := by
  unfold F_clear
  exact e4_B_clear_0.tr je4_rf
theorem e4_B_task_0 {N : Nat} {l1 : Int32} {l2 : Int32} {u : RSt}  : KE4 (B_task_0 N l1 l2 u) u := by
  unfold B_task_0
  refine KE4_bn (e4_F_hasTask.tr je4_rf) (fun _ _ => ?_)
  refine KE4_if ?_ ?_
  · skip
    exact KE4_some je4_rf
  · skip
    refine KE4_if ?_ ?_
    · skip
      refine KE4_rd (fun _ => ?_)
      exact KE4_some je4_rf
    · skip
      refine KE4_if ?_ ?_
      · skip
        refine KE4_rd (fun _ => ?_)
        exact KE4_some je4_rf
      · skip
        refine KE4_if ?_ ?_
        · skip
          refine KE4_rd (fun _ => ?_)
          refine KE4_if ?_ ?_
          · skip
            exact KE4_some je4_rf
          · skip
            exact KE4_some je4_rf
        · skip
          refine KE4_if ?_ ?_
          · skip
            refine KE4_rd (fun _ => ?_)
            exact KE4_some je4_rf
          · skip
            refine KE4_if ?_ ?_
            · skip
              refine KE4_rd (fun _ => ?_)
              exact KE4_some je4_rf
            · skip
              refine KE4_if ?_ ?_
              · skip
                refine KE4_rd (fun _ => ?_)
                exact KE4_some je4_rf
              · skip
                refine KE4_if ?_ ?_
                · skip
                  refine KE4_rd (fun _ => ?_)
                  exact KE4_some je4_rf
                · skip
                  refine KE4_if ?_ ?_
                  · skip
                    refine KE4_rd (fun _ => ?_)
                    exact KE4_some je4_rf
                  · skip
                    refine KE4_if ?_ ?_
                    · skip
                      refine KE4_rd (fun _ => ?_)
                      exact KE4_some je4_rf
                    · skip
                      refine KE4_pu ?_
                      exact KE4_some (fe4_sI je4_rf)
theorem e4_F_task {N : Nat} {l1 : Int32} {l2 : Int32} {u : RSt}  : KE4 (F_task N l1 l2 u) u := by
  unfold F_task
  exact e4_B_task_0.tr je4_rf
theorem e4_B_hasVariable_25 {N : Nat} {s1 : Int32} {u : RSt}  : KE4 (B_hasVariable_25 N s1 u) u := by
  unfold B_hasVariable_25
  refine KE4_pu ?_
  refine KE4_if ?_ ?_
  · skip
    exact KE4_some (fe4_sI je4_rf)
  · skip
    exact KE4_some (fe4_sI je4_rf)
theorem e4_B_hasVariable_0 {N : Nat} {l1 : Int32} {u : RSt}  : KE4 (B_hasVariable_0 N l1 u) u := by
  unfold B_hasVariable_0
  refine KE4_rd (fun _ => ?_)
  refine KE4_if ?_ ?_
  · skip
    exact e4_B_hasVariable_25.tr je4_rf
  · skip
    exact e4_B_hasVariable_25.tr je4_rf
theorem e4_F_hasVariable {N : Nat} {l1 : Int32} {u : RSt}  : KE4 (F_hasVariable N l1 u) u := by
  unfold F_hasVariable
  exact e4_B_hasVariable_0.tr je4_rf
theorem e4_B_hasPlace_38 {N : Nat} {u : RSt}  : KE4 (B_hasPlace_38 N u) u := by
  unfold B_hasPlace_38
  refine KE4_if ?_ ?_
  · skip
    exact KE4_some je4_rf
  · skip
    exact KE4_some je4_rf
theorem e4_B_hasPlace_0 {N : Nat} {l1 : Int32} {l2 : Int32} {u : RSt}  : KE4 (B_hasPlace_0 N l1 l2 u) u := by
  unfold B_hasPlace_0
  refine KE4_bn (e4_F_hasVariable.tr je4_rf) (fun _ _ => ?_)
  refine KE4_if ?_ ?_
  · skip
    exact e4_B_hasPlace_38.tr je4_rf
  · skip
    refine KE4_rd (fun _ => ?_)
    refine KE4_if ?_ ?_
    · skip
      refine KE4_pu ?_
      exact e4_B_hasPlace_38.tr (fe4_sI je4_rf)
    · skip
      exact e4_B_hasPlace_38.tr je4_rf
theorem e4_F_hasPlace {N : Nat} {l1 : Int32} {l2 : Int32} {u : RSt}  : KE4 (F_hasPlace N l1 l2 u) u := by
  unfold F_hasPlace
  exact e4_B_hasPlace_0.tr je4_rf
theorem e4_B_value_0 {N : Nat} {l1 : Int32} {l2 : Int32} {u : RSt}  : KE4 (B_value_0 N l1 l2 u) u := by
  unfold B_value_0
  refine KE4_bn (e4_F_hasPlace.tr je4_rf) (fun _ _ => ?_)
  refine KE4_if ?_ ?_
  · skip
    exact KE4_some je4_rf
  · skip
    refine KE4_bn (e4_F_numberOf.tr je4_rf) (fun _ _ => ?_)
    exact KE4_some je4_rf
theorem e4_F_value {N : Nat} {l1 : Int32} {l2 : Int32} {u : RSt}  : KE4 (F_value N l1 l2 u) u := by
  unfold F_value
  exact e4_B_value_0.tr je4_rf
theorem e4_B_poke_39 {N : Nat} {l1 : Int32} {l2 : Int32} {l3 : Int64} {l5 : Int32} {u : RSt}  : KE4 (B_poke_39 N l1 l2 l3 l5 u) u := by
  unfold B_poke_39
  refine KE4_if ?_ ?_
  · skip
    refine KE4_rd (fun _ => ?_)
    refine KE4_rd (fun _ => ?_)
    refine KE4_bn (e4_F_write.tr je4_rf) (fun _ _ => ?_)
    refine KE4_bn (e4_F_numberOf.tr je4_rf) (fun _ _ => ?_)
    exact KE4_some je4_rf
  · skip
    exact KE4_some je4_rf
theorem e4_B_poke_0 {N : Nat} {l1 : Int32} {l2 : Int32} {l3 : Int64} {u : RSt}  : KE4 (B_poke_0 N l1 l2 l3 u) u := by
  unfold B_poke_0
  refine KE4_bn (e4_F_hasPlace.tr je4_rf) (fun _ _ => ?_)
  refine KE4_if ?_ ?_
  · skip
    exact KE4_some je4_rf
  · skip
    refine KE4_rd (fun _ => ?_)
    refine KE4_if ?_ ?_
    · skip
      refine KE4_pu ?_
      exact e4_B_poke_39.tr (fe4_sI je4_rf)
    · skip
      exact e4_B_poke_39.tr je4_rf
theorem e4_F_poke {N : Nat} {l1 : Int32} {l2 : Int32} {l3 : Int64} {u : RSt}  : KE4 (F_poke N l1 l2 l3 u) u := by
  unfold F_poke
  exact e4_B_poke_0.tr je4_rf
theorem e4_B_variable_0 {N : Nat} {l1 : Int32} {l2 : Int32} {u : RSt}  : KE4 (B_variable_0 N l1 l2 u) u := by
  unfold B_variable_0
  refine KE4_bn (e4_F_hasVariable.tr je4_rf) (fun _ _ => ?_)
  refine KE4_if ?_ ?_
  · skip
    exact KE4_some je4_rf
  · skip
    refine KE4_if ?_ ?_
    · skip
      refine KE4_rd (fun _ => ?_)
      exact KE4_some je4_rf
    · skip
      refine KE4_if ?_ ?_
      · skip
        refine KE4_rd (fun _ => ?_)
        exact KE4_some je4_rf
      · skip
        refine KE4_if ?_ ?_
        · skip
          refine KE4_rd (fun _ => ?_)
          exact KE4_some je4_rf
        · skip
          refine KE4_if ?_ ?_
          · skip
            refine KE4_rd (fun _ => ?_)
            refine KE4_if ?_ ?_
            · skip
              exact KE4_some je4_rf
            · skip
              exact KE4_some je4_rf
          · skip
            refine KE4_if ?_ ?_
            · skip
              refine KE4_rd (fun _ => ?_)
              exact KE4_some je4_rf
            · skip
              refine KE4_pu ?_
              exact KE4_some (fe4_sI je4_rf)
theorem e4_F_variable {N : Nat} {l1 : Int32} {l2 : Int32} {u : RSt}  : KE4 (F_variable N l1 l2 u) u := by
  unfold F_variable
  exact e4_B_variable_0.tr je4_rf
theorem e4_B_field_0 {N : Nat} {l1 : Int32} {l2 : Int32} {l3 : Int32} {u : RSt}  : KE4 (B_field_0 N l1 l2 l3 u) u := by
  unfold B_field_0
  refine KE4_pu ?_
  refine KE4_rd (fun _ => ?_)
  refine KE4_if ?_ ?_
  · skip
    exact KE4_some (fe4_sI je4_rf)
  · skip
    refine KE4_rd (fun _ => ?_)
    refine KE4_rd (fun _ => ?_)
    refine KE4_if ?_ ?_
    · skip
      exact KE4_some (fe4_sI je4_rf)
    · skip
      refine KE4_rd (fun _ => ?_)
      refine KE4_rd (fun _ => ?_)
      refine KE4_if ?_ ?_
      · skip
        exact KE4_some (fe4_sI je4_rf)
      · skip
        refine KE4_pu ?_
        refine KE4_rd (fun _ => ?_)
        refine KE4_rd (fun _ => ?_)
        refine KE4_rd (fun _ => ?_)
        exact KE4_some (fe4_sI (fe4_sI je4_rf))
theorem e4_F_field {N : Nat} {l1 : Int32} {l2 : Int32} {l3 : Int32} {u : RSt}  : KE4 (F_field N l1 l2 l3 u) u := by
  unfold F_field
  exact e4_B_field_0.tr je4_rf
theorem e4_B_trace_45 {N : Nat} {R_14 : Int32 × Int32 × Int32 × Int32 × RSt → Option (Int32 × RSt)} {l1 : Int32} {l2 : Int32} {l3 : Int32} {l4 : Int32} {u : RSt} (h_R_14 : ∀ a, KE4 (R_14 a) a.2.2.2.2) : KE4 (B_trace_45 N R_14 l1 l2 l3 l4 u) u := by
  unfold B_trace_45
  exact (h_R_14 _).tr je4_rf
theorem e4_B_trace_164 {N : Nat} {R_164 : Int32 × RSt → Option (Int32 × RSt)} {l6 : Int32} {u : RSt} (h_R_164 : ∀ a, KE4 (R_164 a) a.2) : KE4 (B_trace_164 N R_164 l6 u) u := by
  unfold B_trace_164
  refine KE4_if ?_ ?_
  · skip
    exact KE4_some je4_rf
  · skip
    refine KE4_rd (fun _ => ?_)
    refine KE4_wr ?_
    refine KE4_rd (fun _ => ?_)
    refine KE4_wr ?_
    refine KE4_rd (fun _ => ?_)
    refine KE4_wr ?_
    exact (h_R_164 _).tr (fe4_sB (by decide) (fe4_sA (by decide) (fe4_sA (by decide) je4_rf)))
theorem e4_LP_trace_164 {N : Nat}  (n : Nat) : ∀ a : Int32 × RSt, KE4 (LP_trace_164 N n a) a.2 := by
  induction n with
  | zero => exact fun a r z e => by have e : (none : Option _) = some (r, z) := e; cases e
  | succ n ih =>
    intro a
    show KE4 (B_trace_164 N (LP_trace_164 N n) a.1 a.2) a.2
    exact e4_B_trace_164 ih
theorem e4_B_trace_90 {N : Nat} {l1 : Int32} {l2 : Int32} {l3 : Int32} {l4 : Int32} {l5 : Int32} {u : RSt}  : KE4 (B_trace_90 N l1 l2 l3 l4 l5 u) u := by
  unfold B_trace_90
  refine KE4_if ?_ ?_
  · skip
    exact KE4_some je4_rf
  · skip
    refine KE4_if ?_ ?_
    · skip
      exact KE4_some je4_rf
    · skip
      refine KE4_if ?_ ?_
      · skip
        refine KE4_pu ?_
        exact (e4_LP_trace_164  _ _).tr (fe4_sI je4_rf)
      · skip
        refine KE4_wr ?_
        refine KE4_wr ?_
        refine KE4_bn (e4_F_numberOf.tr (fe4_sA (by decide) (fe4_sA (by decide) je4_rf))) (fun _ _ => ?_)
        refine KE4_wr ?_
        refine KE4_pu ?_
        exact KE4_some (fe4_sI (fe4_sB (by decide) je4_rf))
theorem e4_B_trace_65 {N : Nat} {l1 : Int32} {l2 : Int32} {l3 : Int32} {l4 : Int32} {s0 : Int32} {u : RSt}  : KE4 (B_trace_65 N l1 l2 l3 l4 s0 u) u := by
  unfold B_trace_65
  refine KE4_if ?_ ?_
  · skip
    exact e4_B_trace_90.tr je4_rf
  · skip
    refine KE4_if ?_ ?_
    · skip
      refine KE4_if ?_ ?_
      · skip
        refine KE4_pu ?_
        exact e4_B_trace_90.tr (fe4_sI je4_rf)
      · skip
        exact e4_B_trace_90.tr je4_rf
    · skip
      exact e4_B_trace_90.tr je4_rf
theorem e4_B_trace_51 {N : Nat} {l1 : Int32} {l2 : Int32} {l3 : Int32} {l4 : Int32} {u : RSt}  : KE4 (B_trace_51 N l1 l2 l3 l4 u) u := by
  unfold B_trace_51
  refine KE4_if ?_ ?_
  · skip
    exact e4_B_trace_65.tr je4_rf
  · skip
    exact e4_B_trace_65.tr je4_rf
theorem e4_B_trace_14 {N : Nat} {R_14 : Int32 × Int32 × Int32 × Int32 × RSt → Option (Int32 × RSt)} {l1 : Int32} {l2 : Int32} {l3 : Int32} {l4 : Int32} {u : RSt} (h_R_14 : ∀ a, KE4 (R_14 a) a.2.2.2.2) : KE4 (B_trace_14 N R_14 l1 l2 l3 l4 u) u := by
  unfold B_trace_14
  refine KE4_if ?_ ?_
  · skip
    exact e4_B_trace_51.tr je4_rf
  · skip
    refine KE4_rd (fun _ => ?_)
    refine KE4_if ?_ ?_
    · skip
      refine KE4_rd (fun _ => ?_)
      refine KE4_if ?_ ?_
      · skip
        exact e4_B_trace_51.tr je4_rf
      · skip
        exact (e4_B_trace_45 h_R_14).tr je4_rf
    · skip
      exact (e4_B_trace_45 h_R_14).tr je4_rf
theorem e4_LP_trace_14 {N : Nat}  (n : Nat) : ∀ a : Int32 × Int32 × Int32 × Int32 × RSt, KE4 (LP_trace_14 N n a) a.2.2.2.2 := by
  induction n with
  | zero => exact fun a r z e => by have e : (none : Option _) = some (r, z) := e; cases e
  | succ n ih =>
    intro a
    show KE4 (B_trace_14 N (LP_trace_14 N n) a.1 a.2.1 a.2.2.1 a.2.2.2.1 a.2.2.2.2) a.2.2.2.2
    exact e4_B_trace_14 ih
theorem e4_B_trace_0 {N : Nat} {l1 : Int32} {l2 : Int32} {l3 : Int32} {u : RSt}  : KE4 (B_trace_0 N l1 l2 l3 u) u := by
  unfold B_trace_0
  refine KE4_bn (e4_F_hasPlace.tr je4_rf) (fun _ _ => ?_)
  refine KE4_if ?_ ?_
  · skip
    exact KE4_some je4_rf
  · skip
    exact (e4_LP_trace_14  _ _).tr je4_rf
theorem e4_F_trace {N : Nat} {l1 : Int32} {l2 : Int32} {l3 : Int32} {u : RSt}  : KE4 (F_trace N l1 l2 l3 u) u := by
  unfold F_trace
  exact e4_B_trace_0.tr je4_rf
theorem e4_B_event_33 {N : Nat} {l1 : Int32} {l2 : Int32} {s1 : Int32} {u : RSt}  : KE4 (B_event_33 N l1 l2 s1 u) u := by
  unfold B_event_33
  refine KE4_pu ?_
  refine KE4_if ?_ ?_
  · skip
    refine KE4_if ?_ ?_
    · skip
      refine KE4_rd (fun _ => ?_)
      exact KE4_some (fe4_sI je4_rf)
    · skip
      refine KE4_if ?_ ?_
      · skip
        refine KE4_rd (fun _ => ?_)
        exact KE4_some (fe4_sI je4_rf)
      · skip
        refine KE4_if ?_ ?_
        · skip
          refine KE4_rd (fun _ => ?_)
          exact KE4_some (fe4_sI je4_rf)
        · skip
          refine KE4_rd (fun _ => ?_)
          exact KE4_some (fe4_sI je4_rf)
  · skip
    exact KE4_some (fe4_sI je4_rf)
theorem e4_B_event_0 {N : Nat} {l1 : Int32} {l2 : Int32} {u : RSt}  : KE4 (B_event_0 N l1 l2 u) u := by
  unfold B_event_0
  refine KE4_if ?_ ?_
  · skip
    exact e4_B_event_33.tr je4_rf
  · skip
    refine KE4_if ?_ ?_
    · skip
      exact e4_B_event_33.tr je4_rf
    · skip
      exact e4_B_event_33.tr je4_rf
theorem e4_F_event {N : Nat} {l1 : Int32} {l2 : Int32} {u : RSt}  : KE4 (F_event N l1 l2 u) u := by
  unfold F_event
  exact e4_B_event_0.tr je4_rf
theorem e4_B_count_51 {N : Nat} {R_23 : Int32 × Int32 × Int32 × RSt → Option (Int32 × RSt)} {l1 : Int32} {l3 : Int32} {s0 : Int32} {s1 : Int32} {u : RSt} (h_R_23 : ∀ a, KE4 (R_23 a) a.2.2.2) : KE4 (B_count_51 N R_23 l1 l3 s0 s1 u) u := by
  unfold B_count_51
  exact (h_R_23 _).tr je4_rf
theorem e4_B_count_23 {N : Nat} {R_23 : Int32 × Int32 × Int32 × RSt → Option (Int32 × RSt)} {l1 : Int32} {l2 : Int32} {l3 : Int32} {u : RSt} (h_R_23 : ∀ a, KE4 (R_23 a) a.2.2.2) : KE4 (B_count_23 N R_23 l1 l2 l3 u) u := by
  unfold B_count_23
  refine KE4_rd (fun _ => ?_)
  refine KE4_if ?_ ?_
  · skip
    refine KE4_if ?_ ?_
    · skip
      refine KE4_rd (fun _ => ?_)
      exact KE4_some je4_rf
    · skip
      refine KE4_if ?_ ?_
      · skip
        refine KE4_rd (fun _ => ?_)
        exact KE4_some je4_rf
      · skip
        refine KE4_if ?_ ?_
        · skip
          refine KE4_rd (fun _ => ?_)
          exact KE4_some je4_rf
        · skip
          refine KE4_if ?_ ?_
          · skip
            refine KE4_rd (fun _ => ?_)
            exact KE4_some je4_rf
          · skip
            refine KE4_if ?_ ?_
            · skip
              refine KE4_rd (fun _ => ?_)
              exact KE4_some je4_rf
            · skip
              refine KE4_if ?_ ?_
              · skip
                exact KE4_some je4_rf
              · skip
                refine KE4_if ?_ ?_
                · skip
                  exact KE4_some je4_rf
                · skip
                  refine KE4_if ?_ ?_
                  · skip
                    exact KE4_some je4_rf
                  · skip
                    refine KE4_if ?_ ?_
                    · skip
                      exact KE4_some je4_rf
                    · skip
                      refine KE4_if ?_ ?_
                      · skip
                        exact KE4_some je4_rf
                      · skip
                        refine KE4_if ?_ ?_
                        · skip
                          exact KE4_some je4_rf
                        · skip
                          exact KE4_some je4_rf
  · skip
    refine KE4_rd (fun _ => ?_)
    refine KE4_if ?_ ?_
    · skip
      exact (e4_B_count_51 h_R_23).tr je4_rf
    · skip
      exact (e4_B_count_51 h_R_23).tr je4_rf
theorem e4_LP_count_23 {N : Nat}  (n : Nat) : ∀ a : Int32 × Int32 × Int32 × RSt, KE4 (LP_count_23 N n a) a.2.2.2 := by
  induction n with
  | zero => exact fun a r z e => by have e : (none : Option _) = some (r, z) := e; cases e
  | succ n ih =>
    intro a
    show KE4 (B_count_23 N (LP_count_23 N n) a.1 a.2.1 a.2.2.1 a.2.2.2) a.2.2.2
    exact e4_B_count_23 ih
theorem e4_B_count_16 {N : Nat} {l1 : Int32} {s1 : Int32} {u : RSt}  : KE4 (B_count_16 N l1 s1 u) u := by
  unfold B_count_16
  refine KE4_pu ?_
  exact (e4_LP_count_23  _ _).tr (fe4_sI je4_rf)
theorem e4_B_count_0 {N : Nat} {l1 : Int32} {u : RSt}  : KE4 (B_count_0 N l1 u) u := by
  unfold B_count_0
  refine KE4_if ?_ ?_
  · skip
    exact e4_B_count_16.tr je4_rf
  · skip
    exact e4_B_count_16.tr je4_rf
theorem e4_F_count {N : Nat} {l1 : Int32} {u : RSt}  : KE4 (F_count N l1 u) u := by
  unfold F_count
  exact e4_B_count_0.tr je4_rf
theorem e4_B_sum_25 {N : Nat} {R_9 : Int64 × Int32 × RSt → Option (Int64 × RSt)} {R_25 : Int64 × Int32 × Int32 × RSt → Option (Int64 × RSt)} {l1 : Int64} {l3 : Int32} {l4 : Int32} {u : RSt} (h_R_9 : ∀ a, KE4 (R_9 a) a.2.2) (h_R_25 : ∀ a, KE4 (R_25 a) a.2.2.2) : KE4 (B_sum_25 N R_9 R_25 l1 l3 l4 u) u := by
  unfold B_sum_25
  refine KE4_rd (fun _ => ?_)
  refine KE4_if ?_ ?_
  · skip
    exact (h_R_9 _).tr je4_rf
  · skip
    refine KE4_bn (e4_F_numberOf.tr je4_rf) (fun _ _ => ?_)
    exact (h_R_25 _).tr je4_rf
theorem e4_LP_sum_25 {N : Nat} {R_9 : Int64 × Int32 × RSt → Option (Int64 × RSt)} (h_R_9 : ∀ a, KE4 (R_9 a) a.2.2) (n : Nat) : ∀ a : Int64 × Int32 × Int32 × RSt, KE4 (LP_sum_25 N R_9 n a) a.2.2.2 := by
  induction n with
  | zero => exact fun a r z e => by have e : (none : Option _) = some (r, z) := e; cases e
  | succ n ih =>
    intro a
    show KE4 (B_sum_25 N R_9 (LP_sum_25 N R_9 n) a.1 a.2.1 a.2.2.1 a.2.2.2) a.2.2.2
    exact e4_B_sum_25 h_R_9 ih
theorem e4_B_sum_103 {N : Nat} {R_79 : Int64 × Int32 × RSt → Option (Int64 × RSt)} {R_103 : Int64 × Int32 × Int32 × RSt → Option (Int64 × RSt)} {l1 : Int64} {l3 : Int32} {l4 : Int32} {u : RSt} (h_R_79 : ∀ a, KE4 (R_79 a) a.2.2) (h_R_103 : ∀ a, KE4 (R_103 a) a.2.2.2) : KE4 (B_sum_103 N R_79 R_103 l1 l3 l4 u) u := by
  unfold B_sum_103
  refine KE4_rd (fun _ => ?_)
  refine KE4_rd (fun _ => ?_)
  refine KE4_if ?_ ?_
  · skip
    exact (h_R_79 _).tr je4_rf
  · skip
    refine KE4_rd (fun _ => ?_)
    refine KE4_rd (fun _ => ?_)
    exact (h_R_103 _).tr je4_rf
theorem e4_LP_sum_103 {N : Nat} {R_79 : Int64 × Int32 × RSt → Option (Int64 × RSt)} (h_R_79 : ∀ a, KE4 (R_79 a) a.2.2) (n : Nat) : ∀ a : Int64 × Int32 × Int32 × RSt, KE4 (LP_sum_103 N R_79 n a) a.2.2.2 := by
  induction n with
  | zero => exact fun a r z e => by have e : (none : Option _) = some (r, z) := e; cases e
  | succ n ih =>
    intro a
    show KE4 (B_sum_103 N R_79 (LP_sum_103 N R_79 n) a.1 a.2.1 a.2.2.1 a.2.2.2) a.2.2.2
    exact e4_B_sum_103 h_R_79 ih
theorem e4_B_sum_79 {N : Nat} {R_79 : Int64 × Int32 × RSt → Option (Int64 × RSt)} {l1 : Int64} {l3 : Int32} {u : RSt} (h_R_79 : ∀ a, KE4 (R_79 a) a.2.2) : KE4 (B_sum_79 N R_79 l1 l3 u) u := by
  unfold B_sum_79
  refine KE4_rd (fun _ => ?_)
  refine KE4_if ?_ ?_
  · skip
    exact KE4_some je4_rf
  · skip
    exact (e4_LP_sum_103 h_R_79 _ _).tr je4_rf
theorem e4_LP_sum_79 {N : Nat}  (n : Nat) : ∀ a : Int64 × Int32 × RSt, KE4 (LP_sum_79 N n a) a.2.2 := by
  induction n with
  | zero => exact fun a r z e => by have e : (none : Option _) = some (r, z) := e; cases e
  | succ n ih =>
    intro a
    show KE4 (B_sum_79 N (LP_sum_79 N n) a.1 a.2.1 a.2.2) a.2.2
    exact e4_B_sum_79 ih
theorem e4_B_sum_9 {N : Nat} {R_9 : Int64 × Int32 × RSt → Option (Int64 × RSt)} {l1 : Int64} {l3 : Int32} {u : RSt} (h_R_9 : ∀ a, KE4 (R_9 a) a.2.2) : KE4 (B_sum_9 N R_9 l1 l3 u) u := by
  unfold B_sum_9
  refine KE4_rd (fun _ => ?_)
  refine KE4_if ?_ ?_
  · skip
    exact (e4_LP_sum_79  _ _).tr je4_rf
  · skip
    exact (e4_LP_sum_25 h_R_9 _ _).tr je4_rf
theorem e4_LP_sum_9 {N : Nat}  (n : Nat) : ∀ a : Int64 × Int32 × RSt, KE4 (LP_sum_9 N n a) a.2.2 := by
  induction n with
  | zero => exact fun a r z e => by have e : (none : Option _) = some (r, z) := e; cases e
  | succ n ih =>
    intro a
    show KE4 (B_sum_9 N (LP_sum_9 N n) a.1 a.2.1 a.2.2) a.2.2
    exact e4_B_sum_9 ih
theorem e4_B_sum_0 {N : Nat} {u : RSt}  : KE4 (B_sum_0 N u) u := by
  unfold B_sum_0
  refine KE4_pu ?_
  exact (e4_LP_sum_9  _ _).tr (fe4_sI je4_rf)
theorem e4_F_sum {N : Nat} {u : RSt}  : KE4 (F_sum N u) u := by
  unfold F_sum
  exact e4_B_sum_0.tr je4_rf
theorem e4_B_areKinds_28 {N : Nat} {s1 : Int32} {u : RSt}  : KE4 (B_areKinds_28 N s1 u) u := by
  unfold B_areKinds_28
  refine KE4_pu ?_
  refine KE4_if ?_ ?_
  · skip
    exact KE4_some (fe4_sI je4_rf)
  · skip
    exact KE4_some (fe4_sI je4_rf)
theorem e4_B_areKinds_27 {N : Nat} {u : RSt}  : KE4 (B_areKinds_27 N u) u := by
  unfold B_areKinds_27
  exact e4_B_areKinds_28.tr je4_rf
theorem e4_B_areKinds_0 {N : Nat} {l1 : Int32} {l2 : Int32} {l3 : Int32} {u : RSt}  : KE4 (B_areKinds_0 N l1 l2 l3 u) u := by
  unfold B_areKinds_0
  refine KE4_if ?_ ?_
  · skip
    exact e4_B_areKinds_27.tr je4_rf
  · skip
    refine KE4_if ?_ ?_
    · skip
      exact e4_B_areKinds_27.tr je4_rf
    · skip
      refine KE4_if ?_ ?_
      · skip
        exact e4_B_areKinds_27.tr je4_rf
      · skip
        exact e4_B_areKinds_28.tr je4_rf
theorem e4_F_areKinds {N : Nat} {l1 : Int32} {l2 : Int32} {l3 : Int32} {u : RSt}  : KE4 (F_areKinds N l1 l2 l3 u) u := by
  unfold F_areKinds
  exact e4_B_areKinds_0.tr je4_rf
theorem e4_B_cut_0 {N : Nat} {l1 : Int32} {l2 : Int64} {u : RSt}  : KE4 (B_cut_0 N l1 l2 u) u := by
  unfold B_cut_0
  refine KE4_bn (e4_F_areKinds.tr je4_rf) (fun _ _ => ?_)
  refine KE4_if ?_ ?_
  · skip
    exact KE4_some je4_rf
  · skip
    exact KE4_some je4_rf
theorem e4_F_cut {N : Nat} {l1 : Int32} {l2 : Int64} {u : RSt}  : KE4 (F_cut N l1 l2 u) u := by
  unfold F_cut
  exact e4_B_cut_0.tr je4_rf
theorem e4_B_work_195 {N : Nat} {l2 : Int32} {l8 : Int32} {l9 : Int64} {l11 : Int64} {s0 : Int32} {u : RSt}  : KE4 (B_work_195 N l2 l8 l9 l11 s0 u) u := by
  unfold B_work_195
  refine KE4_if ?_ ?_
  · skip
    refine KE4_ok ?_
    exact KE4_some je4_rf
  · skip
    exact KE4_some je4_rf
theorem e4_B_work_190 {N : Nat} {l2 : Int32} {l8 : Int32} {l9 : Int64} {l11 : Int64} {u : RSt}  : KE4 (B_work_190 N l2 l8 l9 l11 u) u := by
  unfold B_work_190
  exact e4_B_work_195.tr je4_rf
theorem e4_B_work_194 {N : Nat} {l2 : Int32} {l8 : Int32} {l9 : Int64} {l11 : Int64} {u : RSt}  : KE4 (B_work_194 N l2 l8 l9 l11 u) u := by
  unfold B_work_194
  exact e4_B_work_195.tr je4_rf
theorem e4_B_work_174 {N : Nat} {l1 : Int32} {l2 : Int32} {l3 : Int32} {l8 : Int32} {l9 : Int64} {l11 : Int64} {u : RSt}  : KE4 (B_work_174 N l1 l2 l3 l8 l9 l11 u) u := by
  unfold B_work_174
  refine KE4_if ?_ ?_
  · skip
    exact e4_B_work_190.tr je4_rf
  · skip
    refine KE4_if ?_ ?_
    · skip
      exact e4_B_work_194.tr je4_rf
    · skip
      refine KE4_if ?_ ?_
      · skip
        exact e4_B_work_190.tr je4_rf
      · skip
        exact e4_B_work_194.tr je4_rf
theorem e4_B_work_162 {N : Nat} {l1 : Int32} {l2 : Int32} {l3 : Int32} {l8 : Int32} {l9 : Int64} {l11 : Int64} {u : RSt}  : KE4 (B_work_162 N l1 l2 l3 l8 l9 l11 u) u := by
  unfold B_work_162
  refine KE4_if ?_ ?_
  · skip
    refine KE4_pu ?_
    exact e4_B_work_174.tr (fe4_sI je4_rf)
  · skip
    exact e4_B_work_174.tr je4_rf
theorem e4_B_work_134 {N : Nat} {l1 : Int32} {l2 : Int32} {l3 : Int32} {l4 : Int64} {l6 : Int64} {s0 : Int32} {u : RSt}  : KE4 (B_work_134 N l1 l2 l3 l4 l6 s0 u) u := by
  unfold B_work_134
  refine KE4_if ?_ ?_
  · skip
    exact e4_B_work_162.tr je4_rf
  · skip
    refine KE4_if ?_ ?_
    · skip
      exact e4_B_work_162.tr je4_rf
    · skip
      exact e4_B_work_174.tr je4_rf
theorem e4_B_work_0 {N : Nat} {l1 : Int32} {l2 : Int32} {l3 : Int32} {l4 : Int64} {l6 : Int64} {u : RSt}  : KE4 (B_work_0 N l1 l2 l3 l4 l6 u) u := by
  unfold B_work_0
  refine KE4_bn (e4_F_areKinds.tr je4_rf) (fun _ _ => ?_)
  refine KE4_if ?_ ?_
  · skip
    exact KE4_some je4_rf
  · skip
    refine KE4_if ?_ ?_
    · skip
      exact e4_B_work_134.tr je4_rf
    · skip
      refine KE4_if ?_ ?_
      · skip
        exact e4_B_work_134.tr je4_rf
      · skip
        refine KE4_if ?_ ?_
        · skip
          exact e4_B_work_134.tr je4_rf
        · skip
          refine KE4_if ?_ ?_
          · skip
            exact e4_B_work_134.tr je4_rf
          · skip
            refine KE4_if ?_ ?_
            · skip
              exact e4_B_work_134.tr je4_rf
            · skip
              refine KE4_if ?_ ?_
              · skip
                exact e4_B_work_134.tr je4_rf
              · skip
                refine KE4_if ?_ ?_
                · skip
                  exact e4_B_work_134.tr je4_rf
                · skip
                  refine KE4_if ?_ ?_
                  · skip
                    exact e4_B_work_134.tr je4_rf
                  · skip
                    refine KE4_if ?_ ?_
                    · skip
                      exact e4_B_work_134.tr je4_rf
                    · skip
                      refine KE4_if ?_ ?_
                      · skip
                        exact e4_B_work_134.tr je4_rf
                      · skip
                        exact e4_B_work_134.tr je4_rf
theorem e4_F_work {N : Nat} {l1 : Int32} {l2 : Int32} {l3 : Int32} {l4 : Int64} {l6 : Int64} {u : RSt}  : KE4 (F_work N l1 l2 l3 l4 l6 u) u := by
  unfold F_work
  exact e4_B_work_0.tr je4_rf
theorem e4_B_tell_109 {N : Nat} {l8 : Int64} {l10 : Int64} {s0 : Int32} {u : RSt}  : KE4 (B_tell_109 N l8 l10 s0 u) u := by
  unfold B_tell_109
  refine KE4_ok ?_
  exact KE4_some je4_rf
theorem e4_B_tell_44 {N : Nat} {l1 : Int32} {l8 : Int64} {l10 : Int64} {s0 : Int32} {u : RSt}  : KE4 (B_tell_44 N l1 l8 l10 s0 u) u := by
  unfold B_tell_44
  refine KE4_if ?_ ?_
  · skip
    refine KE4_if ?_ ?_
    · skip
      refine KE4_if ?_ ?_
      · skip
        refine KE4_if ?_ ?_
        · skip
          exact KE4_some je4_rf
        · skip
          refine KE4_if ?_ ?_
          · skip
            refine KE4_if ?_ ?_
            · skip
              exact KE4_some je4_rf
            · skip
              refine KE4_if ?_ ?_
              · skip
                exact KE4_some je4_rf
              · skip
                refine KE4_if ?_ ?_
                · skip
                  exact KE4_some je4_rf
                · skip
                  exact KE4_some je4_rf
          · skip
            exact KE4_some je4_rf
      · skip
        exact KE4_some je4_rf
    · skip
      exact KE4_some je4_rf
  · skip
    refine KE4_if ?_ ?_
    · skip
      exact e4_B_tell_109.tr je4_rf
    · skip
      refine KE4_if ?_ ?_
      · skip
        exact e4_B_tell_109.tr je4_rf
      · skip
        refine KE4_if ?_ ?_
        · skip
          exact e4_B_tell_109.tr je4_rf
        · skip
          refine KE4_if ?_ ?_
          · skip
            exact e4_B_tell_109.tr je4_rf
          · skip
            refine KE4_if ?_ ?_
            · skip
              exact e4_B_tell_109.tr je4_rf
            · skip
              exact e4_B_tell_109.tr je4_rf
theorem e4_B_tell_0 {N : Nat} {l1 : Int32} {l2 : Int32} {l3 : Int32} {l4 : Int64} {l6 : Int64} {u : RSt}  : KE4 (B_tell_0 N l1 l2 l3 l4 l6 u) u := by
  unfold B_tell_0
  refine KE4_bn (e4_F_areKinds.tr je4_rf) (fun _ _ => ?_)
  refine KE4_if ?_ ?_
  · skip
    exact KE4_some je4_rf
  · skip
    refine KE4_if ?_ ?_
    · skip
      exact e4_B_tell_44.tr je4_rf
    · skip
      exact e4_B_tell_44.tr je4_rf
theorem e4_F_tell {N : Nat} {l1 : Int32} {l2 : Int32} {l3 : Int32} {l4 : Int64} {l6 : Int64} {u : RSt}  : KE4 (F_tell N l1 l2 l3 l4 l6 u) u := by
  unfold F_tell
  exact e4_B_tell_0.tr je4_rf
theorem e4_B_feed_77 {N : Nat} {R_23 : Int32 × Int32 × Int32 × Int32 × Int32 × Int32 × RSt → Option (Int32 × RSt)} {R_77 : Int32 × Int32 × Int32 × Int32 × Int32 × Int32 × Int32 × Int32 × RSt → Option (Int32 × RSt)} {l1 : Int32} {l2 : Int32} {l3 : Int32} {l4 : Int32} {l5 : Int32} {l6 : Int32} {l7 : Int32} {l8 : Int32} {u : RSt} (h_R_23 : ∀ a, KE4 (R_23 a) a.2.2.2.2.2.2) (h_R_77 : ∀ a, KE4 (R_77 a) a.2.2.2.2.2.2.2.2) : KE4 (B_feed_77 N R_23 R_77 l1 l2 l3 l4 l5 l6 l7 l8 u) u := by
  unfold B_feed_77
  refine KE4_if ?_ ?_
  · skip
    exact (h_R_23 _).tr je4_rf
  · skip
    refine KE4_pu ?_
    refine KE4_wr ?_
    exact (h_R_77 _).tr (fe4_sA (by decide) (fe4_sI je4_rf))
theorem e4_LP_feed_77 {N : Nat} {R_23 : Int32 × Int32 × Int32 × Int32 × Int32 × Int32 × RSt → Option (Int32 × RSt)} (h_R_23 : ∀ a, KE4 (R_23 a) a.2.2.2.2.2.2) (n : Nat) : ∀ a : Int32 × Int32 × Int32 × Int32 × Int32 × Int32 × Int32 × Int32 × RSt, KE4 (LP_feed_77 N R_23 n a) a.2.2.2.2.2.2.2.2 := by
  induction n with
  | zero => exact fun a r z e => by have e : (none : Option _) = some (r, z) := e; cases e
  | succ n ih =>
    intro a
    show KE4 (B_feed_77 N R_23 (LP_feed_77 N R_23 n) a.1 a.2.1 a.2.2.1 a.2.2.2.1 a.2.2.2.2.1 a.2.2.2.2.2.1 a.2.2.2.2.2.2.1 a.2.2.2.2.2.2.2.1 a.2.2.2.2.2.2.2.2) a.2.2.2.2.2.2.2.2
    exact e4_B_feed_77 h_R_23 ih
theorem e4_B_feed_71 {N : Nat} {R_23 : Int32 × Int32 × Int32 × Int32 × Int32 × Int32 × RSt → Option (Int32 × RSt)} {l1 : Int32} {l2 : Int32} {l3 : Int32} {l4 : Int32} {l5 : Int32} {l6 : Int32} {s0 : Int32} {u : RSt} (h_R_23 : ∀ a, KE4 (R_23 a) a.2.2.2.2.2.2) : KE4 (B_feed_71 N R_23 l1 l2 l3 l4 l5 l6 s0 u) u := by
  unfold B_feed_71
  exact (e4_LP_feed_77 h_R_23 _ _).tr je4_rf
theorem e4_B_feed_23 {N : Nat} {R_23 : Int32 × Int32 × Int32 × Int32 × Int32 × Int32 × RSt → Option (Int32 × RSt)} {l1 : Int32} {l2 : Int32} {l3 : Int32} {l4 : Int32} {l5 : Int32} {l6 : Int32} {u : RSt} (h_R_23 : ∀ a, KE4 (R_23 a) a.2.2.2.2.2.2) : KE4 (B_feed_23 N R_23 l1 l2 l3 l4 l5 l6 u) u := by
  unfold B_feed_23
  refine KE4_if ?_ ?_
  · skip
    exact KE4_some je4_rf
  · skip
    refine KE4_if ?_ ?_
    · skip
      exact (e4_B_feed_71 h_R_23).tr je4_rf
    · skip
      refine KE4_if ?_ ?_
      · skip
        exact (e4_B_feed_71 h_R_23).tr je4_rf
      · skip
        refine KE4_if ?_ ?_
        · skip
          exact (e4_B_feed_71 h_R_23).tr je4_rf
        · skip
          refine KE4_if ?_ ?_
          · skip
            exact (e4_B_feed_71 h_R_23).tr je4_rf
          · skip
            exact (e4_B_feed_71 h_R_23).tr je4_rf
theorem e4_LP_feed_23 {N : Nat}  (n : Nat) : ∀ a : Int32 × Int32 × Int32 × Int32 × Int32 × Int32 × RSt, KE4 (LP_feed_23 N n a) a.2.2.2.2.2.2 := by
  induction n with
  | zero => exact fun a r z e => by have e : (none : Option _) = some (r, z) := e; cases e
  | succ n ih =>
    intro a
    show KE4 (B_feed_23 N (LP_feed_23 N n) a.1 a.2.1 a.2.2.1 a.2.2.2.1 a.2.2.2.2.1 a.2.2.2.2.2.1 a.2.2.2.2.2.2) a.2.2.2.2.2.2
    exact e4_B_feed_23 ih
theorem e4_B_feed_0 {N : Nat} {l1 : Int32} {l2 : Int32} {l3 : Int32} {l4 : Int32} {l5 : Int32} {u : RSt}  : KE4 (B_feed_0 N l1 l2 l3 l4 l5 u) u := by
  unfold B_feed_0
  refine KE4_pu ?_
  refine KE4_if ?_ ?_
  · skip
    exact (e4_LP_feed_23  _ _).tr (fe4_sI je4_rf)
  · skip
    exact KE4_some (fe4_sI je4_rf)
theorem e4_F_feed {N : Nat} {l1 : Int32} {l2 : Int32} {l3 : Int32} {l4 : Int32} {l5 : Int32} {u : RSt}  : KE4 (F_feed N l1 l2 l3 l4 l5 u) u := by
  unfold F_feed
  exact e4_B_feed_0.tr je4_rf
theorem e4_B_end_0 {N : Nat} {l1 : Int32} {u : RSt}  : KE4 (B_end_0 N l1 u) u := by
  unfold B_end_0
  refine KE4_pu ?_
  refine KE4_if ?_ ?_
  · skip
    exact KE4_some (fe4_sI je4_rf)
  · skip
    refine KE4_if ?_ ?_
    · skip
      refine KE4_pu ?_
      exact KE4_some (fe4_sI (fe4_sI je4_rf))
    · skip
      exact KE4_some (fe4_sI je4_rf)
theorem e4_F_end {N : Nat} {l1 : Int32} {u : RSt}  : KE4 (F_end N l1 u) u := by
  unfold F_end
  exact e4_B_end_0.tr je4_rf
theorem e4_B_place_0 {N : Nat} {u : RSt}  : KE4 (B_place_0 N u) u := by
  unfold B_place_0
  refine KE4_pu ?_
  exact KE4_some (fe4_sI je4_rf)
theorem e4_F_place {N : Nat} {u : RSt}  : KE4 (F_place N u) u := by
  unfold F_place
  exact e4_B_place_0.tr je4_rf
theorem e4_B_packed_8 {N : Nat} {R_8 : Int32 × Int32 × Int32 × Int64 × Int32 × RSt → Option (Int64 × RSt)} {l1 : Int32} {l2 : Int32} {l3 : Int32} {l4 : Int64} {l6 : Int32} {u : RSt} (h_R_8 : ∀ a, KE4 (R_8 a) a.2.2.2.2.2) : KE4 (B_packed_8 N R_8 l1 l2 l3 l4 l6 u) u := by
  unfold B_packed_8
  refine KE4_if ?_ ?_
  · skip
    exact KE4_some je4_rf
  · skip
    refine KE4_if ?_ ?_
    · skip
      exact KE4_some je4_rf
    · skip
      refine KE4_bn (e4_F_see.tr je4_rf) (fun _ _ => ?_)
      exact (h_R_8 _).tr je4_rf
theorem e4_LP_packed_8 {N : Nat}  (n : Nat) : ∀ a : Int32 × Int32 × Int32 × Int64 × Int32 × RSt, KE4 (LP_packed_8 N n a) a.2.2.2.2.2 := by
  induction n with
  | zero => exact fun a r z e => by have e : (none : Option _) = some (r, z) := e; cases e
  | succ n ih =>
    intro a
    show KE4 (B_packed_8 N (LP_packed_8 N n) a.1 a.2.1 a.2.2.1 a.2.2.2.1 a.2.2.2.2.1 a.2.2.2.2.2) a.2.2.2.2.2
    exact e4_B_packed_8 ih
theorem e4_B_packed_0 {N : Nat} {l1 : Int32} {l2 : Int32} {l3 : Int32} {u : RSt}  : KE4 (B_packed_0 N l1 l2 l3 u) u := by
  unfold B_packed_0
  exact (e4_LP_packed_8  _ _).tr je4_rf
theorem e4_F_packed {N : Nat} {l1 : Int32} {l2 : Int32} {l3 : Int32} {u : RSt}  : KE4 (F_packed N l1 l2 l3 u) u := by
  unfold F_packed
  exact e4_B_packed_0.tr je4_rf
theorem e4_B_find_75 {N : Nat} {R_49 : Int32 × Int32 × Int32 × RSt → Option (Int32 × RSt)} {l1 : Int32} {l3 : Int32} {s0 : Int32} {u : RSt} (h_R_49 : ∀ a, KE4 (R_49 a) a.2.2.2) : KE4 (B_find_75 N R_49 l1 l3 s0 u) u := by
  unfold B_find_75
  exact (h_R_49 _).tr je4_rf
theorem e4_B_find_453 {N : Nat} {R_204 : Int32 × Int64 × Int64 × Int32 × Int32 × RSt → Option (Int32 × RSt)} {l1 : Int32} {l3 : Int64} {l5 : Int64} {l7 : Int32} {l8 : Int32} {u : RSt} (h_R_204 : ∀ a, KE4 (R_204 a) a.2.2.2.2.2) : KE4 (B_find_453 N R_204 l1 l3 l5 l7 l8 u) u := by
  unfold B_find_453
  exact (h_R_204 _).tr je4_rf
theorem e4_B_find_433 {N : Nat} {R_204 : Int32 × Int64 × Int64 × Int32 × Int32 × RSt → Option (Int32 × RSt)} {l1 : Int32} {l3 : Int64} {l5 : Int64} {l7 : Int32} {l8 : Int32} {l9 : Int64} {s0 : Int64} {u : RSt} (h_R_204 : ∀ a, KE4 (R_204 a) a.2.2.2.2.2) : KE4 (B_find_433 N R_204 l1 l3 l5 l7 l8 l9 s0 u) u := by
  unfold B_find_433
  refine KE4_if ?_ ?_
  · skip
    refine KE4_if ?_ ?_
    · skip
      exact KE4_some je4_rf
    · skip
      exact (e4_B_find_453 h_R_204).tr je4_rf
  · skip
    exact (e4_B_find_453 h_R_204).tr je4_rf
theorem e4_B_find_321 {N : Nat} {R_204 : Int32 × Int64 × Int64 × Int32 × Int32 × RSt → Option (Int32 × RSt)} {l1 : Int32} {l3 : Int64} {l5 : Int64} {l7 : Int32} {l8 : Int32} {s0 : Int64} {u : RSt} (h_R_204 : ∀ a, KE4 (R_204 a) a.2.2.2.2.2) : KE4 (B_find_321 N R_204 l1 l3 l5 l7 l8 s0 u) u := by
  unfold B_find_321
  refine KE4_if ?_ ?_
  · skip
    refine KE4_rd (fun _ => ?_)
    exact (e4_B_find_433 h_R_204).tr je4_rf
  · skip
    refine KE4_if ?_ ?_
    · skip
      refine KE4_rd (fun _ => ?_)
      exact (e4_B_find_433 h_R_204).tr je4_rf
    · skip
      refine KE4_if ?_ ?_
      · skip
        refine KE4_rd (fun _ => ?_)
        exact (e4_B_find_433 h_R_204).tr je4_rf
      · skip
        refine KE4_if ?_ ?_
        · skip
          refine KE4_rd (fun _ => ?_)
          exact (e4_B_find_433 h_R_204).tr je4_rf
        · skip
          refine KE4_rd (fun _ => ?_)
          exact (e4_B_find_433 h_R_204).tr je4_rf
theorem e4_B_find_204 {N : Nat} {R_204 : Int32 × Int64 × Int64 × Int32 × Int32 × RSt → Option (Int32 × RSt)} {l1 : Int32} {l3 : Int64} {l5 : Int64} {l7 : Int32} {l8 : Int32} {u : RSt} (h_R_204 : ∀ a, KE4 (R_204 a) a.2.2.2.2.2) : KE4 (B_find_204 N R_204 l1 l3 l5 l7 l8 u) u := by
  unfold B_find_204
  refine KE4_if ?_ ?_
  · skip
    exact KE4_some je4_rf
  · skip
    refine KE4_if ?_ ?_
    · skip
      refine KE4_rd (fun _ => ?_)
      exact (e4_B_find_321 h_R_204).tr je4_rf
    · skip
      refine KE4_if ?_ ?_
      · skip
        refine KE4_rd (fun _ => ?_)
        exact (e4_B_find_321 h_R_204).tr je4_rf
      · skip
        refine KE4_if ?_ ?_
        · skip
          refine KE4_rd (fun _ => ?_)
          exact (e4_B_find_321 h_R_204).tr je4_rf
        · skip
          refine KE4_if ?_ ?_
          · skip
            refine KE4_rd (fun _ => ?_)
            exact (e4_B_find_321 h_R_204).tr je4_rf
          · skip
            refine KE4_rd (fun _ => ?_)
            exact (e4_B_find_321 h_R_204).tr je4_rf
theorem e4_LP_find_204 {N : Nat}  (n : Nat) : ∀ a : Int32 × Int64 × Int64 × Int32 × Int32 × RSt, KE4 (LP_find_204 N n a) a.2.2.2.2.2 := by
  induction n with
  | zero => exact fun a r z e => by have e : (none : Option _) = some (r, z) := e; cases e
  | succ n ih =>
    intro a
    show KE4 (B_find_204 N (LP_find_204 N n) a.1 a.2.1 a.2.2.1 a.2.2.2.1 a.2.2.2.2.1 a.2.2.2.2.2) a.2.2.2.2.2
    exact e4_B_find_204 ih
theorem e4_B_find_199 {N : Nat} {l1 : Int32} {l3 : Int64} {l5 : Int64} {s0 : Int32} {u : RSt}  : KE4 (B_find_199 N l1 l3 l5 s0 u) u := by
  unfold B_find_199
  exact (e4_LP_find_204  _ _).tr je4_rf
theorem e4_B_find_82 {N : Nat} {l1 : Int32} {l2 : Int32} {u : RSt}  : KE4 (B_find_82 N l1 l2 u) u := by
  unfold B_find_82
  refine KE4_if ?_ ?_
  · skip
    refine KE4_if ?_ ?_
    · skip
      exact KE4_some je4_rf
    · skip
      exact KE4_some je4_rf
  · skip
    refine KE4_bn (e4_F_packed.tr je4_rf) (fun _ _ => ?_)
    refine KE4_bn (e4_F_packed.tr je4_rf) (fun _ _ => ?_)
    refine KE4_if ?_ ?_
    · skip
      refine KE4_rd (fun _ => ?_)
      exact e4_B_find_199.tr je4_rf
    · skip
      refine KE4_if ?_ ?_
      · skip
        refine KE4_rd (fun _ => ?_)
        exact e4_B_find_199.tr je4_rf
      · skip
        refine KE4_if ?_ ?_
        · skip
          refine KE4_rd (fun _ => ?_)
          exact e4_B_find_199.tr je4_rf
        · skip
          refine KE4_if ?_ ?_
          · skip
            refine KE4_rd (fun _ => ?_)
            exact e4_B_find_199.tr je4_rf
          · skip
            refine KE4_rd (fun _ => ?_)
            exact e4_B_find_199.tr je4_rf
theorem e4_B_find_49 {N : Nat} {R_49 : Int32 × Int32 × Int32 × RSt → Option (Int32 × RSt)} {l1 : Int32} {l2 : Int32} {l3 : Int32} {u : RSt} (h_R_49 : ∀ a, KE4 (R_49 a) a.2.2.2) : KE4 (B_find_49 N R_49 l1 l2 l3 u) u := by
  unfold B_find_49
  refine KE4_if ?_ ?_
  · skip
    exact e4_B_find_82.tr je4_rf
  · skip
    refine KE4_if ?_ ?_
    · skip
      exact e4_B_find_82.tr je4_rf
    · skip
      refine KE4_rd (fun _ => ?_)
      refine KE4_if ?_ ?_
      · skip
        exact (e4_B_find_75 h_R_49).tr je4_rf
      · skip
        exact (e4_B_find_75 h_R_49).tr je4_rf
theorem e4_LP_find_49 {N : Nat}  (n : Nat) : ∀ a : Int32 × Int32 × Int32 × RSt, KE4 (LP_find_49 N n a) a.2.2.2 := by
  induction n with
  | zero => exact fun a r z e => by have e : (none : Option _) = some (r, z) := e; cases e
  | succ n ih =>
    intro a
    show KE4 (B_find_49 N (LP_find_49 N n) a.1 a.2.1 a.2.2.1 a.2.2.2) a.2.2.2
    exact e4_B_find_49 ih
theorem e4_B_find_46 {N : Nat} {l1 : Int32} {s0 : Int32} {u : RSt}  : KE4 (B_find_46 N l1 s0 u) u := by
  unfold B_find_46
  exact (e4_LP_find_49  _ _).tr je4_rf
theorem e4_B_find_45 {N : Nat} {l1 : Int32} {u : RSt}  : KE4 (B_find_45 N l1 u) u := by
  unfold B_find_45
  exact e4_B_find_46.tr je4_rf
theorem e4_B_find_15 {N : Nat} {l1 : Int32} {s1 : Int32} {u : RSt}  : KE4 (B_find_15 N l1 s1 u) u := by
  unfold B_find_15
  refine KE4_pu ?_
  refine KE4_if ?_ ?_
  · skip
    exact e4_B_find_45.tr (fe4_sI je4_rf)
  · skip
    refine KE4_if ?_ ?_
    · skip
      exact e4_B_find_45.tr (fe4_sI je4_rf)
    · skip
      refine KE4_if ?_ ?_
      · skip
        exact e4_B_find_46.tr (fe4_sI je4_rf)
      · skip
        exact e4_B_find_45.tr (fe4_sI je4_rf)
theorem e4_B_find_0 {N : Nat} {l1 : Int32} {u : RSt}  : KE4 (B_find_0 N l1 u) u := by
  unfold B_find_0
  refine KE4_if ?_ ?_
  · skip
    exact e4_B_find_15.tr je4_rf
  · skip
    exact e4_B_find_15.tr je4_rf
theorem e4_F_find {N : Nat} {l1 : Int32} {u : RSt}  : KE4 (F_find N l1 u) u := by
  unfold F_find
  exact e4_B_find_0.tr je4_rf
def je5 (u w : RSt) : Prop := (∀ k, k ∈ rfI → w.1 k = u.1 k) ∧ (∀ k, k ∈ rfA → w.2.2.1 k = u.2.2.1 k) ∧ (∀ k, k ∈ rfB → w.2.2.2 k = u.2.2.2 k)
def KE5 {β : Type} (x : Option (β × RSt)) (u : RSt) : Prop := ∀ r w, x = some (r, w) → je5 u w
section KE5s
variable {α β γ : Type} {u v w : RSt}
theorem je5_rf : je5 u u := ⟨fun _ _ => rfl, fun _ _ => rfl, fun _ _ => rfl⟩
theorem je5_tr (h : je5 u v) (h2 : je5 v w) : je5 u w := ⟨fun k hk => (h2.1 k hk).trans (h.1 k hk), fun k hk => (h2.2.1 k hk).trans (h.2.1 k hk), fun k hk => (h2.2.2 k hk).trans (h.2.2 k hk)⟩
theorem KE5.tr {x : Option (β × RSt)} (hx : KE5 x w) (h : je5 u w) : KE5 x u := fun r z e => je5_tr h (hx r z e)
theorem fe5_sI {k : Nat} {a : Int32} (hk : k ∉ rfI) (h : je5 u w) : je5 u (sI w k a) := by
  refine je5_tr h ⟨fun j hj => ?_, fun _ _ => rfl, fun _ _ => rfl⟩
  show (if j = k then a else w.1 j) = _
  rw [if_neg (fun z : j = k => hk (z ▸ hj))]
theorem fe5_sL {k : Nat} {a : Int64} (h : je5 u w) : je5 u (sL w k a) := h
theorem fe5_sA {k i : Nat} {a : Int32} (hk : k ∉ rfA) (h : je5 u w) : je5 u (sA w k i a) := by
  refine je5_tr h ⟨fun _ _ => rfl, fun j hj => ?_, fun _ _ => rfl⟩
  show (if j = k then upd (w.2.2.1 k) i a else w.2.2.1 j) = _
  rw [if_neg (fun z : j = k => hk (z ▸ hj))]
theorem fe5_sB {k i : Nat} {a : Int64} (hk : k ∉ rfB) (h : je5 u w) : je5 u (sB w k i a) := by
  refine je5_tr h ⟨fun _ _ => rfl, fun _ _ => rfl, fun j hj => ?_⟩
  show (if j = k then vp_updL (w.2.2.2 k) i a else w.2.2.2 j) = _
  rw [if_neg (fun z : j = k => hk (z ▸ hj))]
theorem KE5_some {r : β} (h : je5 u w) : KE5 (some (r, w)) u := fun _ _ e => by cases e; exact h
theorem KE5_none : KE5 (none : Option (β × RSt)) u := fun _ _ e => nomatch e
theorem KE5_rd {f : Nat → α} {n : Nat} {i : Int32} {k : α → Option (β × RSt)} (h : ∀ a, KE5 (k a) u) : KE5 (rd f n i k) u := by
  intro r z e
  have q : wp (rd f n i k) (fun r' z' => r' = r ∧ z' = z) := ⟨r, z, e, rfl, rfl⟩
  obtain ⟨r1, z1, e1, rfl, rfl⟩ := (wp_rd.mp q).2
  exact h _ _ _ e1
theorem KE5_if {c : Prop} {d : Decidable c} {a b : Option (β × RSt)} (ha : KE5 a u) (hb : KE5 b u) : KE5 (if c then a else b) u := by
  by_cases q : c
  · rw [if_pos q]; exact ha
  · rw [if_neg q]; exact hb
theorem KE5_zr {v : Int32} {x : Option (β × RSt)} (h : KE5 x u) : KE5 (zr v x) u := fun r z e => h r z (zr_of e).2
theorem KE5_nz {v : Int32} {x : Option (β × RSt)} (h : KE5 x u) : KE5 (nz v x) u := fun r z e => h r z (nz_of e).2
theorem KE5_ok {P : Prop} {d : Decidable P} {x : Option (β × RSt)} (h : KE5 x u) : KE5 (ok P d x) u := fun r z e => h r z (ok_of e).2
theorem KE5_pu {x : RSt} {k : RSt → Option (β × RSt)} (h : KE5 (k x) u) : KE5 (pu x k) u := h
theorem KE5_wr {n : Nat} {i : Int32} {x : RSt} {k : RSt → Option (β × RSt)} (h : KE5 (k x) u) : KE5 (wr n i x k) u := by
  intro r z e
  have q : wp (wr n i x k) (fun r' z' => r' = r ∧ z' = z) := ⟨r, z, e, rfl, rfl⟩
  obtain ⟨r1, z1, e1, rfl, rfl⟩ := (wp_wr.mp q).2
  exact h _ _ e1
theorem KE5_bn {x : Option (α × RSt)} {k : α → RSt → Option (β × RSt)} (hx : KE5 x u) (h : ∀ r w, KE5 (k r w) w) : KE5 (bn x k) u := by
  intro r z e
  have q : wp (bn x k) (fun r' z' => r' = r ∧ z' = z) := ⟨r, z, e, rfl, rfl⟩
  obtain ⟨r1, z1, e1, r2, z2, e2, rfl, rfl⟩ := wp_bn.mp q
  exact je5_tr (hx _ _ e1) (h _ _ _ _ e2)
end KE5s

theorem e5_B_see_0 {N : Nat} {l1 : Int32} {u : RSt}  : KE5 (B_see_0 N l1 u) u := by
  unfold B_see_0
  refine KE5_if ?_ ?_
  · skip
    exact KE5_some je5_rf
  · skip
    refine KE5_rd (fun _ => ?_)
    exact KE5_some je5_rf
theorem e5_F_see {N : Nat} {l1 : Int32} {u : RSt}  : KE5 (F_see N l1 u) u := by
  unfold F_see
  exact e5_B_see_0.tr je5_rf
theorem e5_B_read_44 {N : Nat} {R_44 : Int32 × Int32 × Int64 × Int32 × RSt → Option (Int64 × RSt)} {l2 : Int32} {l3 : Int32} {l4 : Int64} {l6 : Int32} {u : RSt} (h_R_44 : ∀ a, KE5 (R_44 a) a.2.2.2.2) : KE5 (B_read_44 N R_44 l2 l3 l4 l6 u) u := by
  unfold B_read_44
  refine KE5_if ?_ ?_
  · skip
    exact KE5_some je5_rf
  · skip
    refine KE5_rd (fun _ => ?_)
    exact (h_R_44 _).tr je5_rf
theorem e5_LP_read_44 {N : Nat}  (n : Nat) : ∀ a : Int32 × Int32 × Int64 × Int32 × RSt, KE5 (LP_read_44 N n a) a.2.2.2.2 := by
  induction n with
  | zero => exact fun a r z e => by have e : (none : Option _) = some (r, z) := e; cases e
  | succ n ih =>
    intro a
    show KE5 (B_read_44 N (LP_read_44 N n) a.1 a.2.1 a.2.2.1 a.2.2.2.1 a.2.2.2.2) a.2.2.2.2
    exact e5_B_read_44 ih
theorem e5_B_read_37 {N : Nat} {l2 : Int32} {s0 : Int32} {u : RSt}  : KE5 (B_read_37 N l2 s0 u) u := by
  unfold B_read_37
  exact (e5_LP_read_44  _ _).tr je5_rf
theorem e5_B_read_0 {N : Nat} {l1 : Int32} {l2 : Int32} {u : RSt}  : KE5 (B_read_0 N l1 l2 u) u := by
  unfold B_read_0
  refine KE5_if ?_ ?_
  · skip
    refine KE5_if ?_ ?_
    · skip
      exact e5_B_read_37.tr je5_rf
    · skip
      exact e5_B_read_37.tr je5_rf
  · skip
    refine KE5_rd (fun _ => ?_)
    exact KE5_some je5_rf
theorem e5_F_read {N : Nat} {l1 : Int32} {l2 : Int32} {u : RSt}  : KE5 (F_read N l1 l2 u) u := by
  unfold F_read
  exact e5_B_read_0.tr je5_rf
theorem e5_B_numberOf_0 {N : Nat} {l1 : Int32} {l2 : Int32} {u : RSt}  : KE5 (B_numberOf_0 N l1 l2 u) u := by
  unfold B_numberOf_0
  refine KE5_rd (fun _ => ?_)
  refine KE5_if ?_ ?_
  · skip
    refine KE5_rd (fun _ => ?_)
    refine KE5_rd (fun _ => ?_)
    refine KE5_bn (e5_F_read.tr je5_rf) (fun _ _ => ?_)
    exact KE5_some je5_rf
  · skip
    refine KE5_rd (fun _ => ?_)
    refine KE5_rd (fun _ => ?_)
    exact KE5_some je5_rf
theorem e5_F_numberOf {N : Nat} {l1 : Int32} {l2 : Int32} {u : RSt}  : KE5 (F_numberOf N l1 l2 u) u := by
  unfold F_numberOf
  exact e5_B_numberOf_0.tr je5_rf
theorem e5_B_hasByte_16 {N : Nat} {s1 : Int32} {u : RSt}  : KE5 (B_hasByte_16 N s1 u) u := by
  unfold B_hasByte_16
  refine KE5_pu ?_
  refine KE5_if ?_ ?_
  · skip
    exact KE5_some (fe5_sI (by decide) je5_rf)
  · skip
    exact KE5_some (fe5_sI (by decide) je5_rf)
theorem e5_B_hasByte_0 {N : Nat} {l1 : Int32} {l2 : Int32} {u : RSt}  : KE5 (B_hasByte_0 N l1 l2 u) u := by
  unfold B_hasByte_0
  refine KE5_if ?_ ?_
  · skip
    exact e5_B_hasByte_16.tr je5_rf
  · skip
    exact e5_B_hasByte_16.tr je5_rf
theorem e5_F_hasByte {N : Nat} {l1 : Int32} {l2 : Int32} {u : RSt}  : KE5 (F_hasByte N l1 l2 u) u := by
  unfold F_hasByte
  exact e5_B_hasByte_0.tr je5_rf
theorem e5_B_look_51 {N : Nat} {l1 : Int32} {s0 : Int32} {u : RSt}  : KE5 (B_look_51 N l1 s0 u) u := by
  unfold B_look_51
  refine KE5_if ?_ ?_
  · skip
    refine KE5_if ?_ ?_
    · skip
      refine KE5_if ?_ ?_
      · skip
        refine KE5_rd (fun _ => ?_)
        exact KE5_some je5_rf
      · skip
        refine KE5_rd (fun _ => ?_)
        exact KE5_some je5_rf
    · skip
      refine KE5_rd (fun _ => ?_)
      exact KE5_some je5_rf
  · skip
    refine KE5_rd (fun _ => ?_)
    exact KE5_some je5_rf
theorem e5_B_look_16 {N : Nat} {l1 : Int32} {l2 : Int32} {s1 : Int32} {u : RSt}  : KE5 (B_look_16 N l1 l2 s1 u) u := by
  unfold B_look_16
  refine KE5_pu ?_
  refine KE5_if ?_ ?_
  · skip
    exact KE5_some (fe5_sI (by decide) je5_rf)
  · skip
    refine KE5_bn (e5_F_hasByte.tr (fe5_sI (by decide) je5_rf)) (fun _ _ => ?_)
    refine KE5_if ?_ ?_
    · skip
      exact KE5_some je5_rf
    · skip
      refine KE5_if ?_ ?_
      · skip
        exact e5_B_look_51.tr je5_rf
      · skip
        exact e5_B_look_51.tr je5_rf
theorem e5_B_look_0 {N : Nat} {l1 : Int32} {l2 : Int32} {u : RSt}  : KE5 (B_look_0 N l1 l2 u) u := by
  unfold B_look_0
  refine KE5_if ?_ ?_
  · skip
    exact e5_B_look_16.tr je5_rf
  · skip
    exact e5_B_look_16.tr je5_rf
theorem e5_F_look {N : Nat} {l1 : Int32} {l2 : Int32} {u : RSt}  : KE5 (F_look N l1 l2 u) u := by
  unfold F_look
  exact e5_B_look_0.tr je5_rf
theorem e5_B_hasTask_25 {N : Nat} {s1 : Int32} {u : RSt}  : KE5 (B_hasTask_25 N s1 u) u := by
  unfold B_hasTask_25
  refine KE5_pu ?_
  refine KE5_if ?_ ?_
  · skip
    exact KE5_some (fe5_sI (by decide) je5_rf)
  · skip
    exact KE5_some (fe5_sI (by decide) je5_rf)
theorem e5_B_hasTask_0 {N : Nat} {l1 : Int32} {u : RSt}  : KE5 (B_hasTask_0 N l1 u) u := by
  unfold B_hasTask_0
  refine KE5_rd (fun _ => ?_)
  refine KE5_if ?_ ?_
  · skip
    exact e5_B_hasTask_25.tr je5_rf
  · skip
    exact e5_B_hasTask_25.tr je5_rf
theorem e5_F_hasTask {N : Nat} {l1 : Int32} {u : RSt}  : KE5 (F_hasTask N l1 u) u := by
  unfold F_hasTask
  exact e5_B_hasTask_0.tr je5_rf
theorem e5_B_task_0 {N : Nat} {l1 : Int32} {l2 : Int32} {u : RSt}  : KE5 (B_task_0 N l1 l2 u) u := by
  unfold B_task_0
  refine KE5_bn (e5_F_hasTask.tr je5_rf) (fun _ _ => ?_)
  refine KE5_if ?_ ?_
  · skip
    exact KE5_some je5_rf
  · skip
    refine KE5_if ?_ ?_
    · skip
      refine KE5_rd (fun _ => ?_)
      exact KE5_some je5_rf
    · skip
      refine KE5_if ?_ ?_
      · skip
        refine KE5_rd (fun _ => ?_)
        exact KE5_some je5_rf
      · skip
        refine KE5_if ?_ ?_
        · skip
          refine KE5_rd (fun _ => ?_)
          refine KE5_if ?_ ?_
          · skip
            exact KE5_some je5_rf
          · skip
            exact KE5_some je5_rf
        · skip
          refine KE5_if ?_ ?_
          · skip
            refine KE5_rd (fun _ => ?_)
            exact KE5_some je5_rf
          · skip
            refine KE5_if ?_ ?_
            · skip
              refine KE5_rd (fun _ => ?_)
              exact KE5_some je5_rf
            · skip
              refine KE5_if ?_ ?_
              · skip
                refine KE5_rd (fun _ => ?_)
                exact KE5_some je5_rf
              · skip
                refine KE5_if ?_ ?_
                · skip
                  refine KE5_rd (fun _ => ?_)
                  exact KE5_some je5_rf
                · skip
                  refine KE5_if ?_ ?_
                  · skip
                    refine KE5_rd (fun _ => ?_)
                    exact KE5_some je5_rf
                  · skip
                    refine KE5_if ?_ ?_
                    · skip
                      refine KE5_rd (fun _ => ?_)
                      exact KE5_some je5_rf
                    · skip
                      refine KE5_pu ?_
                      exact KE5_some (fe5_sI (by decide) je5_rf)
theorem e5_F_task {N : Nat} {l1 : Int32} {l2 : Int32} {u : RSt}  : KE5 (F_task N l1 l2 u) u := by
  unfold F_task
  exact e5_B_task_0.tr je5_rf
theorem e5_B_hasVariable_25 {N : Nat} {s1 : Int32} {u : RSt}  : KE5 (B_hasVariable_25 N s1 u) u := by
  unfold B_hasVariable_25
  refine KE5_pu ?_
  refine KE5_if ?_ ?_
  · skip
    exact KE5_some (fe5_sI (by decide) je5_rf)
  · skip
    exact KE5_some (fe5_sI (by decide) je5_rf)
theorem e5_B_hasVariable_0 {N : Nat} {l1 : Int32} {u : RSt}  : KE5 (B_hasVariable_0 N l1 u) u := by
  unfold B_hasVariable_0
  refine KE5_rd (fun _ => ?_)
  refine KE5_if ?_ ?_
  · skip
    exact e5_B_hasVariable_25.tr je5_rf
  · skip
    exact e5_B_hasVariable_25.tr je5_rf
theorem e5_F_hasVariable {N : Nat} {l1 : Int32} {u : RSt}  : KE5 (F_hasVariable N l1 u) u := by
  unfold F_hasVariable
  exact e5_B_hasVariable_0.tr je5_rf
theorem e5_B_hasPlace_38 {N : Nat} {u : RSt}  : KE5 (B_hasPlace_38 N u) u := by
  unfold B_hasPlace_38
  refine KE5_if ?_ ?_
  · skip
    exact KE5_some je5_rf
  · skip
    exact KE5_some je5_rf
theorem e5_B_hasPlace_0 {N : Nat} {l1 : Int32} {l2 : Int32} {u : RSt}  : KE5 (B_hasPlace_0 N l1 l2 u) u := by
  unfold B_hasPlace_0
  refine KE5_bn (e5_F_hasVariable.tr je5_rf) (fun _ _ => ?_)
  refine KE5_if ?_ ?_
  · skip
    exact e5_B_hasPlace_38.tr je5_rf
  · skip
    refine KE5_rd (fun _ => ?_)
    refine KE5_if ?_ ?_
    · skip
      refine KE5_pu ?_
      exact e5_B_hasPlace_38.tr (fe5_sI (by decide) je5_rf)
    · skip
      exact e5_B_hasPlace_38.tr je5_rf
theorem e5_F_hasPlace {N : Nat} {l1 : Int32} {l2 : Int32} {u : RSt}  : KE5 (F_hasPlace N l1 l2 u) u := by
  unfold F_hasPlace
  exact e5_B_hasPlace_0.tr je5_rf
theorem e5_B_value_0 {N : Nat} {l1 : Int32} {l2 : Int32} {u : RSt}  : KE5 (B_value_0 N l1 l2 u) u := by
  unfold B_value_0
  refine KE5_bn (e5_F_hasPlace.tr je5_rf) (fun _ _ => ?_)
  refine KE5_if ?_ ?_
  · skip
    exact KE5_some je5_rf
  · skip
    refine KE5_bn (e5_F_numberOf.tr je5_rf) (fun _ _ => ?_)
    exact KE5_some je5_rf
theorem e5_F_value {N : Nat} {l1 : Int32} {l2 : Int32} {u : RSt}  : KE5 (F_value N l1 l2 u) u := by
  unfold F_value
  exact e5_B_value_0.tr je5_rf
theorem e5_B_variable_0 {N : Nat} {l1 : Int32} {l2 : Int32} {u : RSt}  : KE5 (B_variable_0 N l1 l2 u) u := by
  unfold B_variable_0
  refine KE5_bn (e5_F_hasVariable.tr je5_rf) (fun _ _ => ?_)
  refine KE5_if ?_ ?_
  · skip
    exact KE5_some je5_rf
  · skip
    refine KE5_if ?_ ?_
    · skip
      refine KE5_rd (fun _ => ?_)
      exact KE5_some je5_rf
    · skip
      refine KE5_if ?_ ?_
      · skip
        refine KE5_rd (fun _ => ?_)
        exact KE5_some je5_rf
      · skip
        refine KE5_if ?_ ?_
        · skip
          refine KE5_rd (fun _ => ?_)
          exact KE5_some je5_rf
        · skip
          refine KE5_if ?_ ?_
          · skip
            refine KE5_rd (fun _ => ?_)
            refine KE5_if ?_ ?_
            · skip
              exact KE5_some je5_rf
            · skip
              exact KE5_some je5_rf
          · skip
            refine KE5_if ?_ ?_
            · skip
              refine KE5_rd (fun _ => ?_)
              exact KE5_some je5_rf
            · skip
              refine KE5_pu ?_
              exact KE5_some (fe5_sI (by decide) je5_rf)
theorem e5_F_variable {N : Nat} {l1 : Int32} {l2 : Int32} {u : RSt}  : KE5 (F_variable N l1 l2 u) u := by
  unfold F_variable
  exact e5_B_variable_0.tr je5_rf
theorem e5_B_field_0 {N : Nat} {l1 : Int32} {l2 : Int32} {l3 : Int32} {u : RSt}  : KE5 (B_field_0 N l1 l2 l3 u) u := by
  unfold B_field_0
  refine KE5_pu ?_
  refine KE5_rd (fun _ => ?_)
  refine KE5_if ?_ ?_
  · skip
    exact KE5_some (fe5_sI (by decide) je5_rf)
  · skip
    refine KE5_rd (fun _ => ?_)
    refine KE5_rd (fun _ => ?_)
    refine KE5_if ?_ ?_
    · skip
      exact KE5_some (fe5_sI (by decide) je5_rf)
    · skip
      refine KE5_rd (fun _ => ?_)
      refine KE5_rd (fun _ => ?_)
      refine KE5_if ?_ ?_
      · skip
        exact KE5_some (fe5_sI (by decide) je5_rf)
      · skip
        refine KE5_pu ?_
        refine KE5_rd (fun _ => ?_)
        refine KE5_rd (fun _ => ?_)
        refine KE5_rd (fun _ => ?_)
        exact KE5_some (fe5_sI (by decide) (fe5_sI (by decide) je5_rf))
theorem e5_F_field {N : Nat} {l1 : Int32} {l2 : Int32} {l3 : Int32} {u : RSt}  : KE5 (F_field N l1 l2 l3 u) u := by
  unfold F_field
  exact e5_B_field_0.tr je5_rf
theorem e5_B_event_33 {N : Nat} {l1 : Int32} {l2 : Int32} {s1 : Int32} {u : RSt}  : KE5 (B_event_33 N l1 l2 s1 u) u := by
  unfold B_event_33
  refine KE5_pu ?_
  refine KE5_if ?_ ?_
  · skip
    refine KE5_if ?_ ?_
    · skip
      refine KE5_rd (fun _ => ?_)
      exact KE5_some (fe5_sI (by decide) je5_rf)
    · skip
      refine KE5_if ?_ ?_
      · skip
        refine KE5_rd (fun _ => ?_)
        exact KE5_some (fe5_sI (by decide) je5_rf)
      · skip
        refine KE5_if ?_ ?_
        · skip
          refine KE5_rd (fun _ => ?_)
          exact KE5_some (fe5_sI (by decide) je5_rf)
        · skip
          refine KE5_rd (fun _ => ?_)
          exact KE5_some (fe5_sI (by decide) je5_rf)
  · skip
    exact KE5_some (fe5_sI (by decide) je5_rf)
theorem e5_B_event_0 {N : Nat} {l1 : Int32} {l2 : Int32} {u : RSt}  : KE5 (B_event_0 N l1 l2 u) u := by
  unfold B_event_0
  refine KE5_if ?_ ?_
  · skip
    exact e5_B_event_33.tr je5_rf
  · skip
    refine KE5_if ?_ ?_
    · skip
      exact e5_B_event_33.tr je5_rf
    · skip
      exact e5_B_event_33.tr je5_rf
theorem e5_F_event {N : Nat} {l1 : Int32} {l2 : Int32} {u : RSt}  : KE5 (F_event N l1 l2 u) u := by
  unfold F_event
  exact e5_B_event_0.tr je5_rf
theorem e5_B_count_51 {N : Nat} {R_23 : Int32 × Int32 × Int32 × RSt → Option (Int32 × RSt)} {l1 : Int32} {l3 : Int32} {s0 : Int32} {s1 : Int32} {u : RSt} (h_R_23 : ∀ a, KE5 (R_23 a) a.2.2.2) : KE5 (B_count_51 N R_23 l1 l3 s0 s1 u) u := by
  unfold B_count_51
  exact (h_R_23 _).tr je5_rf
theorem e5_B_count_23 {N : Nat} {R_23 : Int32 × Int32 × Int32 × RSt → Option (Int32 × RSt)} {l1 : Int32} {l2 : Int32} {l3 : Int32} {u : RSt} (h_R_23 : ∀ a, KE5 (R_23 a) a.2.2.2) : KE5 (B_count_23 N R_23 l1 l2 l3 u) u := by
  unfold B_count_23
  refine KE5_rd (fun _ => ?_)
  refine KE5_if ?_ ?_
  · skip
    refine KE5_if ?_ ?_
    · skip
      refine KE5_rd (fun _ => ?_)
      exact KE5_some je5_rf
    · skip
      refine KE5_if ?_ ?_
      · skip
        refine KE5_rd (fun _ => ?_)
        exact KE5_some je5_rf
      · skip
        refine KE5_if ?_ ?_
        · skip
          refine KE5_rd (fun _ => ?_)
          exact KE5_some je5_rf
        · skip
          refine KE5_if ?_ ?_
          · skip
            refine KE5_rd (fun _ => ?_)
            exact KE5_some je5_rf
          · skip
            refine KE5_if ?_ ?_
            · skip
              refine KE5_rd (fun _ => ?_)
              exact KE5_some je5_rf
            · skip
              refine KE5_if ?_ ?_
              · skip
                exact KE5_some je5_rf
              · skip
                refine KE5_if ?_ ?_
                · skip
                  exact KE5_some je5_rf
                · skip
                  refine KE5_if ?_ ?_
                  · skip
                    exact KE5_some je5_rf
                  · skip
                    refine KE5_if ?_ ?_
                    · skip
                      exact KE5_some je5_rf
                    · skip
                      refine KE5_if ?_ ?_
                      · skip
                        exact KE5_some je5_rf
                      · skip
                        refine KE5_if ?_ ?_
                        · skip
                          exact KE5_some je5_rf
                        · skip
                          exact KE5_some je5_rf
  · skip
    refine KE5_rd (fun _ => ?_)
    refine KE5_if ?_ ?_
    · skip
      exact (e5_B_count_51 h_R_23).tr je5_rf
    · skip
      exact (e5_B_count_51 h_R_23).tr je5_rf
theorem e5_LP_count_23 {N : Nat}  (n : Nat) : ∀ a : Int32 × Int32 × Int32 × RSt, KE5 (LP_count_23 N n a) a.2.2.2 := by
  induction n with
  | zero => exact fun a r z e => by have e : (none : Option _) = some (r, z) := e; cases e
  | succ n ih =>
    intro a
    show KE5 (B_count_23 N (LP_count_23 N n) a.1 a.2.1 a.2.2.1 a.2.2.2) a.2.2.2
    exact e5_B_count_23 ih
theorem e5_B_count_16 {N : Nat} {l1 : Int32} {s1 : Int32} {u : RSt}  : KE5 (B_count_16 N l1 s1 u) u := by
  unfold B_count_16
  refine KE5_pu ?_
  exact (e5_LP_count_23  _ _).tr (fe5_sI (by decide) je5_rf)
theorem e5_B_count_0 {N : Nat} {l1 : Int32} {u : RSt}  : KE5 (B_count_0 N l1 u) u := by
  unfold B_count_0
  refine KE5_if ?_ ?_
  · skip
    exact e5_B_count_16.tr je5_rf
  · skip
    exact e5_B_count_16.tr je5_rf
theorem e5_F_count {N : Nat} {l1 : Int32} {u : RSt}  : KE5 (F_count N l1 u) u := by
  unfold F_count
  exact e5_B_count_0.tr je5_rf
theorem e5_B_sum_25 {N : Nat} {R_9 : Int64 × Int32 × RSt → Option (Int64 × RSt)} {R_25 : Int64 × Int32 × Int32 × RSt → Option (Int64 × RSt)} {l1 : Int64} {l3 : Int32} {l4 : Int32} {u : RSt} (h_R_9 : ∀ a, KE5 (R_9 a) a.2.2) (h_R_25 : ∀ a, KE5 (R_25 a) a.2.2.2) : KE5 (B_sum_25 N R_9 R_25 l1 l3 l4 u) u := by
  unfold B_sum_25
  refine KE5_rd (fun _ => ?_)
  refine KE5_if ?_ ?_
  · skip
    exact (h_R_9 _).tr je5_rf
  · skip
    refine KE5_bn (e5_F_numberOf.tr je5_rf) (fun _ _ => ?_)
    exact (h_R_25 _).tr je5_rf
theorem e5_LP_sum_25 {N : Nat} {R_9 : Int64 × Int32 × RSt → Option (Int64 × RSt)} (h_R_9 : ∀ a, KE5 (R_9 a) a.2.2) (n : Nat) : ∀ a : Int64 × Int32 × Int32 × RSt, KE5 (LP_sum_25 N R_9 n a) a.2.2.2 := by
  induction n with
  | zero => exact fun a r z e => by have e : (none : Option _) = some (r, z) := e; cases e
  | succ n ih =>
    intro a
    show KE5 (B_sum_25 N R_9 (LP_sum_25 N R_9 n) a.1 a.2.1 a.2.2.1 a.2.2.2) a.2.2.2
    exact e5_B_sum_25 h_R_9 ih
theorem e5_B_sum_103 {N : Nat} {R_79 : Int64 × Int32 × RSt → Option (Int64 × RSt)} {R_103 : Int64 × Int32 × Int32 × RSt → Option (Int64 × RSt)} {l1 : Int64} {l3 : Int32} {l4 : Int32} {u : RSt} (h_R_79 : ∀ a, KE5 (R_79 a) a.2.2) (h_R_103 : ∀ a, KE5 (R_103 a) a.2.2.2) : KE5 (B_sum_103 N R_79 R_103 l1 l3 l4 u) u := by
  unfold B_sum_103
  refine KE5_rd (fun _ => ?_)
  refine KE5_rd (fun _ => ?_)
  refine KE5_if ?_ ?_
  · skip
    exact (h_R_79 _).tr je5_rf
  · skip
    refine KE5_rd (fun _ => ?_)
    refine KE5_rd (fun _ => ?_)
    exact (h_R_103 _).tr je5_rf
theorem e5_LP_sum_103 {N : Nat} {R_79 : Int64 × Int32 × RSt → Option (Int64 × RSt)} (h_R_79 : ∀ a, KE5 (R_79 a) a.2.2) (n : Nat) : ∀ a : Int64 × Int32 × Int32 × RSt, KE5 (LP_sum_103 N R_79 n a) a.2.2.2 := by
  induction n with
  | zero => exact fun a r z e => by have e : (none : Option _) = some (r, z) := e; cases e
  | succ n ih =>
    intro a
    show KE5 (B_sum_103 N R_79 (LP_sum_103 N R_79 n) a.1 a.2.1 a.2.2.1 a.2.2.2) a.2.2.2
    exact e5_B_sum_103 h_R_79 ih
theorem e5_B_sum_79 {N : Nat} {R_79 : Int64 × Int32 × RSt → Option (Int64 × RSt)} {l1 : Int64} {l3 : Int32} {u : RSt} (h_R_79 : ∀ a, KE5 (R_79 a) a.2.2) : KE5 (B_sum_79 N R_79 l1 l3 u) u := by
  unfold B_sum_79
  refine KE5_rd (fun _ => ?_)
  refine KE5_if ?_ ?_
  · skip
    exact KE5_some je5_rf
  · skip
    exact (e5_LP_sum_103 h_R_79 _ _).tr je5_rf
theorem e5_LP_sum_79 {N : Nat}  (n : Nat) : ∀ a : Int64 × Int32 × RSt, KE5 (LP_sum_79 N n a) a.2.2 := by
  induction n with
  | zero => exact fun a r z e => by have e : (none : Option _) = some (r, z) := e; cases e
  | succ n ih =>
    intro a
    show KE5 (B_sum_79 N (LP_sum_79 N n) a.1 a.2.1 a.2.2) a.2.2
    exact e5_B_sum_79 ih
theorem e5_B_sum_9 {N : Nat} {R_9 : Int64 × Int32 × RSt → Option (Int64 × RSt)} {l1 : Int64} {l3 : Int32} {u : RSt} (h_R_9 : ∀ a, KE5 (R_9 a) a.2.2) : KE5 (B_sum_9 N R_9 l1 l3 u) u := by
  unfold B_sum_9
  refine KE5_rd (fun _ => ?_)
  refine KE5_if ?_ ?_
  · skip
    exact (e5_LP_sum_79  _ _).tr je5_rf
  · skip
    exact (e5_LP_sum_25 h_R_9 _ _).tr je5_rf
theorem e5_LP_sum_9 {N : Nat}  (n : Nat) : ∀ a : Int64 × Int32 × RSt, KE5 (LP_sum_9 N n a) a.2.2 := by
  induction n with
  | zero => exact fun a r z e => by have e : (none : Option _) = some (r, z) := e; cases e
  | succ n ih =>
    intro a
    show KE5 (B_sum_9 N (LP_sum_9 N n) a.1 a.2.1 a.2.2) a.2.2
    exact e5_B_sum_9 ih
theorem e5_B_sum_0 {N : Nat} {u : RSt}  : KE5 (B_sum_0 N u) u := by
  unfold B_sum_0
  refine KE5_pu ?_
  exact (e5_LP_sum_9  _ _).tr (fe5_sI (by decide) je5_rf)
theorem e5_F_sum {N : Nat} {u : RSt}  : KE5 (F_sum N u) u := by
  unfold F_sum
  exact e5_B_sum_0.tr je5_rf
theorem e5_B_areKinds_28 {N : Nat} {s1 : Int32} {u : RSt}  : KE5 (B_areKinds_28 N s1 u) u := by
  unfold B_areKinds_28
  refine KE5_pu ?_
  refine KE5_if ?_ ?_
  · skip
    exact KE5_some (fe5_sI (by decide) je5_rf)
  · skip
    exact KE5_some (fe5_sI (by decide) je5_rf)
theorem e5_B_areKinds_27 {N : Nat} {u : RSt}  : KE5 (B_areKinds_27 N u) u := by
  unfold B_areKinds_27
  exact e5_B_areKinds_28.tr je5_rf
theorem e5_B_areKinds_0 {N : Nat} {l1 : Int32} {l2 : Int32} {l3 : Int32} {u : RSt}  : KE5 (B_areKinds_0 N l1 l2 l3 u) u := by
  unfold B_areKinds_0
  refine KE5_if ?_ ?_
  · skip
    exact e5_B_areKinds_27.tr je5_rf
  · skip
    refine KE5_if ?_ ?_
    · skip
      exact e5_B_areKinds_27.tr je5_rf
    · skip
      refine KE5_if ?_ ?_
      · skip
        exact e5_B_areKinds_27.tr je5_rf
      · skip
        exact e5_B_areKinds_28.tr je5_rf
theorem e5_F_areKinds {N : Nat} {l1 : Int32} {l2 : Int32} {l3 : Int32} {u : RSt}  : KE5 (F_areKinds N l1 l2 l3 u) u := by
  unfold F_areKinds
  exact e5_B_areKinds_0.tr je5_rf
theorem e5_B_cut_0 {N : Nat} {l1 : Int32} {l2 : Int64} {u : RSt}  : KE5 (B_cut_0 N l1 l2 u) u := by
  unfold B_cut_0
  refine KE5_bn (e5_F_areKinds.tr je5_rf) (fun _ _ => ?_)
  refine KE5_if ?_ ?_
  · skip
    exact KE5_some je5_rf
  · skip
    exact KE5_some je5_rf
theorem e5_F_cut {N : Nat} {l1 : Int32} {l2 : Int64} {u : RSt}  : KE5 (F_cut N l1 l2 u) u := by
  unfold F_cut
  exact e5_B_cut_0.tr je5_rf
theorem e5_B_work_195 {N : Nat} {l2 : Int32} {l8 : Int32} {l9 : Int64} {l11 : Int64} {s0 : Int32} {u : RSt}  : KE5 (B_work_195 N l2 l8 l9 l11 s0 u) u := by
  unfold B_work_195
  refine KE5_if ?_ ?_
  · skip
    refine KE5_ok ?_
    exact KE5_some je5_rf
  · skip
    exact KE5_some je5_rf
theorem e5_B_work_190 {N : Nat} {l2 : Int32} {l8 : Int32} {l9 : Int64} {l11 : Int64} {u : RSt}  : KE5 (B_work_190 N l2 l8 l9 l11 u) u := by
  unfold B_work_190
  exact e5_B_work_195.tr je5_rf
theorem e5_B_work_194 {N : Nat} {l2 : Int32} {l8 : Int32} {l9 : Int64} {l11 : Int64} {u : RSt}  : KE5 (B_work_194 N l2 l8 l9 l11 u) u := by
  unfold B_work_194
  exact e5_B_work_195.tr je5_rf
theorem e5_B_work_174 {N : Nat} {l1 : Int32} {l2 : Int32} {l3 : Int32} {l8 : Int32} {l9 : Int64} {l11 : Int64} {u : RSt}  : KE5 (B_work_174 N l1 l2 l3 l8 l9 l11 u) u := by
  unfold B_work_174
  refine KE5_if ?_ ?_
  · skip
    exact e5_B_work_190.tr je5_rf
  · skip
    refine KE5_if ?_ ?_
    · skip
      exact e5_B_work_194.tr je5_rf
    · skip
      refine KE5_if ?_ ?_
      · skip
        exact e5_B_work_190.tr je5_rf
      · skip
        exact e5_B_work_194.tr je5_rf
theorem e5_B_work_162 {N : Nat} {l1 : Int32} {l2 : Int32} {l3 : Int32} {l8 : Int32} {l9 : Int64} {l11 : Int64} {u : RSt}  : KE5 (B_work_162 N l1 l2 l3 l8 l9 l11 u) u := by
  unfold B_work_162
  refine KE5_if ?_ ?_
  · skip
    refine KE5_pu ?_
    exact e5_B_work_174.tr (fe5_sI (by decide) je5_rf)
  · skip
    exact e5_B_work_174.tr je5_rf
theorem e5_B_work_134 {N : Nat} {l1 : Int32} {l2 : Int32} {l3 : Int32} {l4 : Int64} {l6 : Int64} {s0 : Int32} {u : RSt}  : KE5 (B_work_134 N l1 l2 l3 l4 l6 s0 u) u := by
  unfold B_work_134
  refine KE5_if ?_ ?_
  · skip
    exact e5_B_work_162.tr je5_rf
  · skip
    refine KE5_if ?_ ?_
    · skip
      exact e5_B_work_162.tr je5_rf
    · skip
      exact e5_B_work_174.tr je5_rf
theorem e5_B_work_0 {N : Nat} {l1 : Int32} {l2 : Int32} {l3 : Int32} {l4 : Int64} {l6 : Int64} {u : RSt}  : KE5 (B_work_0 N l1 l2 l3 l4 l6 u) u := by
  unfold B_work_0
  refine KE5_bn (e5_F_areKinds.tr je5_rf) (fun _ _ => ?_)
  refine KE5_if ?_ ?_
  · skip
    exact KE5_some je5_rf
  · skip
    refine KE5_if ?_ ?_
    · skip
      exact e5_B_work_134.tr je5_rf
    · skip
      refine KE5_if ?_ ?_
      · skip
        exact e5_B_work_134.tr je5_rf
      · skip
        refine KE5_if ?_ ?_
        · skip
          exact e5_B_work_134.tr je5_rf
        · skip
          refine KE5_if ?_ ?_
          · skip
            exact e5_B_work_134.tr je5_rf
          · skip
            refine KE5_if ?_ ?_
            · skip
              exact e5_B_work_134.tr je5_rf
            · skip
              refine KE5_if ?_ ?_
              · skip
                exact e5_B_work_134.tr je5_rf
              · skip
                refine KE5_if ?_ ?_
                · skip
                  exact e5_B_work_134.tr je5_rf
                · skip
                  refine KE5_if ?_ ?_
                  · skip
                    exact e5_B_work_134.tr je5_rf
                  · skip
                    refine KE5_if ?_ ?_
                    · skip
                      exact e5_B_work_134.tr je5_rf
                    · skip
                      refine KE5_if ?_ ?_
                      · skip
                        exact e5_B_work_134.tr je5_rf
                      · skip
                        exact e5_B_work_134.tr je5_rf
theorem e5_F_work {N : Nat} {l1 : Int32} {l2 : Int32} {l3 : Int32} {l4 : Int64} {l6 : Int64} {u : RSt}  : KE5 (F_work N l1 l2 l3 l4 l6 u) u := by
  unfold F_work
  exact e5_B_work_0.tr je5_rf
theorem e5_B_tell_109 {N : Nat} {l8 : Int64} {l10 : Int64} {s0 : Int32} {u : RSt}  : KE5 (B_tell_109 N l8 l10 s0 u) u := by
  unfold B_tell_109
  refine KE5_ok ?_
  exact KE5_some je5_rf
theorem e5_B_tell_44 {N : Nat} {l1 : Int32} {l8 : Int64} {l10 : Int64} {s0 : Int32} {u : RSt}  : KE5 (B_tell_44 N l1 l8 l10 s0 u) u := by
  unfold B_tell_44
  refine KE5_if ?_ ?_
  · skip
    refine KE5_if ?_ ?_
    · skip
      refine KE5_if ?_ ?_
      · skip
        refine KE5_if ?_ ?_
        · skip
          exact KE5_some je5_rf
        · skip
          refine KE5_if ?_ ?_
          · skip
            refine KE5_if ?_ ?_
            · skip
              exact KE5_some je5_rf
            · skip
              refine KE5_if ?_ ?_
              · skip
                exact KE5_some je5_rf
              · skip
                refine KE5_if ?_ ?_
                · skip
                  exact KE5_some je5_rf
                · skip
                  exact KE5_some je5_rf
          · skip
            exact KE5_some je5_rf
      · skip
        exact KE5_some je5_rf
    · skip
      exact KE5_some je5_rf
  · skip
    refine KE5_if ?_ ?_
    · skip
      exact e5_B_tell_109.tr je5_rf
    · skip
      refine KE5_if ?_ ?_
      · skip
        exact e5_B_tell_109.tr je5_rf
      · skip
        refine KE5_if ?_ ?_
        · skip
          exact e5_B_tell_109.tr je5_rf
        · skip
          refine KE5_if ?_ ?_
          · skip
            exact e5_B_tell_109.tr je5_rf
          · skip
            refine KE5_if ?_ ?_
            · skip
              exact e5_B_tell_109.tr je5_rf
            · skip
              exact e5_B_tell_109.tr je5_rf
theorem e5_B_tell_0 {N : Nat} {l1 : Int32} {l2 : Int32} {l3 : Int32} {l4 : Int64} {l6 : Int64} {u : RSt}  : KE5 (B_tell_0 N l1 l2 l3 l4 l6 u) u := by
  unfold B_tell_0
  refine KE5_bn (e5_F_areKinds.tr je5_rf) (fun _ _ => ?_)
  refine KE5_if ?_ ?_
  · skip
    exact KE5_some je5_rf
  · skip
    refine KE5_if ?_ ?_
    · skip
      exact e5_B_tell_44.tr je5_rf
    · skip
      exact e5_B_tell_44.tr je5_rf
theorem e5_F_tell {N : Nat} {l1 : Int32} {l2 : Int32} {l3 : Int32} {l4 : Int64} {l6 : Int64} {u : RSt}  : KE5 (F_tell N l1 l2 l3 l4 l6 u) u := by
  unfold F_tell
  exact e5_B_tell_0.tr je5_rf
theorem e5_B_feed_77 {N : Nat} {R_23 : Int32 × Int32 × Int32 × Int32 × Int32 × Int32 × RSt → Option (Int32 × RSt)} {R_77 : Int32 × Int32 × Int32 × Int32 × Int32 × Int32 × Int32 × Int32 × RSt → Option (Int32 × RSt)} {l1 : Int32} {l2 : Int32} {l3 : Int32} {l4 : Int32} {l5 : Int32} {l6 : Int32} {l7 : Int32} {l8 : Int32} {u : RSt} (h_R_23 : ∀ a, KE5 (R_23 a) a.2.2.2.2.2.2) (h_R_77 : ∀ a, KE5 (R_77 a) a.2.2.2.2.2.2.2.2) : KE5 (B_feed_77 N R_23 R_77 l1 l2 l3 l4 l5 l6 l7 l8 u) u := by
  unfold B_feed_77
  refine KE5_if ?_ ?_
  · skip
    exact (h_R_23 _).tr je5_rf
  · skip
    refine KE5_pu ?_
    refine KE5_wr ?_
    exact (h_R_77 _).tr (fe5_sA (by decide) (fe5_sI (by decide) je5_rf))
theorem e5_LP_feed_77 {N : Nat} {R_23 : Int32 × Int32 × Int32 × Int32 × Int32 × Int32 × RSt → Option (Int32 × RSt)} (h_R_23 : ∀ a, KE5 (R_23 a) a.2.2.2.2.2.2) (n : Nat) : ∀ a : Int32 × Int32 × Int32 × Int32 × Int32 × Int32 × Int32 × Int32 × RSt, KE5 (LP_feed_77 N R_23 n a) a.2.2.2.2.2.2.2.2 := by
  induction n with
  | zero => exact fun a r z e => by have e : (none : Option _) = some (r, z) := e; cases e
  | succ n ih =>
    intro a
    show KE5 (B_feed_77 N R_23 (LP_feed_77 N R_23 n) a.1 a.2.1 a.2.2.1 a.2.2.2.1 a.2.2.2.2.1 a.2.2.2.2.2.1 a.2.2.2.2.2.2.1 a.2.2.2.2.2.2.2.1 a.2.2.2.2.2.2.2.2) a.2.2.2.2.2.2.2.2
    exact e5_B_feed_77 h_R_23 ih
theorem e5_B_feed_71 {N : Nat} {R_23 : Int32 × Int32 × Int32 × Int32 × Int32 × Int32 × RSt → Option (Int32 × RSt)} {l1 : Int32} {l2 : Int32} {l3 : Int32} {l4 : Int32} {l5 : Int32} {l6 : Int32} {s0 : Int32} {u : RSt} (h_R_23 : ∀ a, KE5 (R_23 a) a.2.2.2.2.2.2) : KE5 (B_feed_71 N R_23 l1 l2 l3 l4 l5 l6 s0 u) u := by
  unfold B_feed_71
  exact (e5_LP_feed_77 h_R_23 _ _).tr je5_rf
theorem e5_B_feed_23 {N : Nat} {R_23 : Int32 × Int32 × Int32 × Int32 × Int32 × Int32 × RSt → Option (Int32 × RSt)} {l1 : Int32} {l2 : Int32} {l3 : Int32} {l4 : Int32} {l5 : Int32} {l6 : Int32} {u : RSt} (h_R_23 : ∀ a, KE5 (R_23 a) a.2.2.2.2.2.2) : KE5 (B_feed_23 N R_23 l1 l2 l3 l4 l5 l6 u) u := by
  unfold B_feed_23
  refine KE5_if ?_ ?_
  · skip
    exact KE5_some je5_rf
  · skip
    refine KE5_if ?_ ?_
    · skip
      exact (e5_B_feed_71 h_R_23).tr je5_rf
    · skip
      refine KE5_if ?_ ?_
      · skip
        exact (e5_B_feed_71 h_R_23).tr je5_rf
      · skip
        refine KE5_if ?_ ?_
        · skip
          exact (e5_B_feed_71 h_R_23).tr je5_rf
        · skip
          refine KE5_if ?_ ?_
          · skip
            exact (e5_B_feed_71 h_R_23).tr je5_rf
          · skip
            exact (e5_B_feed_71 h_R_23).tr je5_rf
theorem e5_LP_feed_23 {N : Nat}  (n : Nat) : ∀ a : Int32 × Int32 × Int32 × Int32 × Int32 × Int32 × RSt, KE5 (LP_feed_23 N n a) a.2.2.2.2.2.2 := by
  induction n with
  | zero => exact fun a r z e => by have e : (none : Option _) = some (r, z) := e; cases e
  | succ n ih =>
    intro a
    show KE5 (B_feed_23 N (LP_feed_23 N n) a.1 a.2.1 a.2.2.1 a.2.2.2.1 a.2.2.2.2.1 a.2.2.2.2.2.1 a.2.2.2.2.2.2) a.2.2.2.2.2.2
    exact e5_B_feed_23 ih
theorem e5_B_feed_0 {N : Nat} {l1 : Int32} {l2 : Int32} {l3 : Int32} {l4 : Int32} {l5 : Int32} {u : RSt}  : KE5 (B_feed_0 N l1 l2 l3 l4 l5 u) u := by
  unfold B_feed_0
  refine KE5_pu ?_
  refine KE5_if ?_ ?_
  · skip
    exact (e5_LP_feed_23  _ _).tr (fe5_sI (by decide) je5_rf)
  · skip
    exact KE5_some (fe5_sI (by decide) je5_rf)
theorem e5_F_feed {N : Nat} {l1 : Int32} {l2 : Int32} {l3 : Int32} {l4 : Int32} {l5 : Int32} {u : RSt}  : KE5 (F_feed N l1 l2 l3 l4 l5 u) u := by
  unfold F_feed
  exact e5_B_feed_0.tr je5_rf
theorem e5_B_end_0 {N : Nat} {l1 : Int32} {u : RSt}  : KE5 (B_end_0 N l1 u) u := by
  unfold B_end_0
  refine KE5_pu ?_
  refine KE5_if ?_ ?_
  · skip
    exact KE5_some (fe5_sI (by decide) je5_rf)
  · skip
    refine KE5_if ?_ ?_
    · skip
      refine KE5_pu ?_
      exact KE5_some (fe5_sI (by decide) (fe5_sI (by decide) je5_rf))
    · skip
      exact KE5_some (fe5_sI (by decide) je5_rf)
theorem e5_F_end {N : Nat} {l1 : Int32} {u : RSt}  : KE5 (F_end N l1 u) u := by
  unfold F_end
  exact e5_B_end_0.tr je5_rf
theorem e5_B_place_0 {N : Nat} {u : RSt}  : KE5 (B_place_0 N u) u := by
  unfold B_place_0
  refine KE5_pu ?_
  exact KE5_some (fe5_sI (by decide) je5_rf)
theorem e5_F_place {N : Nat} {u : RSt}  : KE5 (F_place N u) u := by
  unfold F_place
  exact e5_B_place_0.tr je5_rf
theorem e5_B_figures_75 {N : Nat} {R_43 : Int32 × Int32 × Int32 × RSt → Option (Int32 × RSt)} {l2 : Int32} {l3 : Int32} {l4 : Int32} {u : RSt} (h_R_43 : ∀ a, KE5 (R_43 a) a.2.2.2) : KE5 (B_figures_75 N R_43 l2 l3 l4 u) u := by
  unfold B_figures_75
  exact (h_R_43 _).tr je5_rf
theorem e5_B_figures_294 {N : Nat} {R_210 : Int32 × Int32 × Int32 × Int32 × Int64 × Int32 × Int32 × RSt → Option (Int32 × RSt)} {l2 : Int32} {l4 : Int32} {l6 : Int32} {l7 : Int32} {l11 : Int32} {l12 : Int32} {s0 : Int64} {u : RSt} (h_R_210 : ∀ a, KE5 (R_210 a) a.2.2.2.2.2.2.2) : KE5 (B_figures_294 N R_210 l2 l4 l6 l7 l11 l12 s0 u) u := by
  unfold B_figures_294
  exact (h_R_210 _).tr je5_rf
theorem e5_B_figures_267 {N : Nat} {R_210 : Int32 × Int32 × Int32 × Int32 × Int64 × Int32 × Int32 × RSt → Option (Int32 × RSt)} {l2 : Int32} {l4 : Int32} {l6 : Int32} {l7 : Int32} {l9 : Int64} {l12 : Int32} {l13 : Int32} {s0 : Int32} {u : RSt} (h_R_210 : ∀ a, KE5 (R_210 a) a.2.2.2.2.2.2.2) : KE5 (B_figures_267 N R_210 l2 l4 l6 l7 l9 l12 l13 s0 u) u := by
  unfold B_figures_267
  refine KE5_if ?_ ?_
  · skip
    exact (e5_B_figures_294 h_R_210).tr je5_rf
  · skip
    exact (e5_B_figures_294 h_R_210).tr je5_rf
theorem e5_B_figures_262 {N : Nat} {R_210 : Int32 × Int32 × Int32 × Int32 × Int64 × Int32 × Int32 × RSt → Option (Int32 × RSt)} {l2 : Int32} {l4 : Int32} {l6 : Int32} {l7 : Int32} {l9 : Int64} {l12 : Int32} {l13 : Int32} {u : RSt} (h_R_210 : ∀ a, KE5 (R_210 a) a.2.2.2.2.2.2.2) : KE5 (B_figures_262 N R_210 l2 l4 l6 l7 l9 l12 l13 u) u := by
  unfold B_figures_262
  exact (e5_B_figures_267 h_R_210).tr je5_rf
theorem e5_B_figures_266 {N : Nat} {R_210 : Int32 × Int32 × Int32 × Int32 × Int64 × Int32 × Int32 × RSt → Option (Int32 × RSt)} {l2 : Int32} {l4 : Int32} {l6 : Int32} {l7 : Int32} {l9 : Int64} {l12 : Int32} {l13 : Int32} {u : RSt} (h_R_210 : ∀ a, KE5 (R_210 a) a.2.2.2.2.2.2.2) : KE5 (B_figures_266 N R_210 l2 l4 l6 l7 l9 l12 l13 u) u := by
  unfold B_figures_266
  exact (e5_B_figures_267 h_R_210).tr je5_rf
theorem e5_B_figures_355 {N : Nat} {l6 : Int32} {l7 : Int32} {l9 : Int64} {l12 : Int32} {s1 : Int32} {s2 : Int32} {u : RSt}  : KE5 (B_figures_355 N l6 l7 l9 l12 s1 s2 u) u := by
  unfold B_figures_355
  refine KE5_wr ?_
  refine KE5_wr ?_
  refine KE5_wr ?_
  exact KE5_some (fe5_sA (by decide) (fe5_sB (by decide) (fe5_sA (by decide) je5_rf)))
theorem e5_B_figures_333 {N : Nat} {l6 : Int32} {l7 : Int32} {l9 : Int64} {l11 : Int32} {u : RSt}  : KE5 (B_figures_333 N l6 l7 l9 l11 u) u := by
  unfold B_figures_333
  refine KE5_if ?_ ?_
  · skip
    exact e5_B_figures_355.tr je5_rf
  · skip
    exact e5_B_figures_355.tr je5_rf
theorem e5_B_figures_325 {N : Nat} {l6 : Int32} {l7 : Int32} {l9 : Int64} {s0 : Int32} {u : RSt}  : KE5 (B_figures_325 N l6 l7 l9 s0 u) u := by
  unfold B_figures_325
  exact e5_B_figures_333.tr je5_rf
theorem e5_B_figures_324 {N : Nat} {l6 : Int32} {l7 : Int32} {l9 : Int64} {u : RSt}  : KE5 (B_figures_324 N l6 l7 l9 u) u := by
  unfold B_figures_324
  exact e5_B_figures_325.tr je5_rf
theorem e5_B_figures_210 {N : Nat} {R_210 : Int32 × Int32 × Int32 × Int32 × Int64 × Int32 × Int32 × RSt → Option (Int32 × RSt)} {l2 : Int32} {l4 : Int32} {l6 : Int32} {l7 : Int32} {l9 : Int64} {l11 : Int32} {l12 : Int32} {u : RSt} (h_R_210 : ∀ a, KE5 (R_210 a) a.2.2.2.2.2.2.2) : KE5 (B_figures_210 N R_210 l2 l4 l6 l7 l9 l11 l12 u) u := by
  unfold B_figures_210
  refine KE5_if ?_ ?_
  · skip
    refine KE5_if ?_ ?_
    · skip
      refine KE5_if ?_ ?_
      · skip
        refine KE5_if ?_ ?_
        · skip
          exact e5_B_figures_324.tr je5_rf
        · skip
          exact e5_B_figures_325.tr je5_rf
      · skip
        exact e5_B_figures_324.tr je5_rf
    · skip
      exact e5_B_figures_333.tr je5_rf
  · skip
    refine KE5_bn (e5_F_see.tr je5_rf) (fun _ _ => ?_)
    refine KE5_if ?_ ?_
    · skip
      refine KE5_if ?_ ?_
      · skip
        refine KE5_if ?_ ?_
        · skip
          exact (e5_B_figures_262 h_R_210).tr je5_rf
        · skip
          refine KE5_if ?_ ?_
          · skip
            refine KE5_if ?_ ?_
            · skip
              exact (e5_B_figures_266 h_R_210).tr je5_rf
            · skip
              exact (e5_B_figures_262 h_R_210).tr je5_rf
          · skip
            exact (e5_B_figures_266 h_R_210).tr je5_rf
      · skip
        exact (e5_B_figures_266 h_R_210).tr je5_rf
    · skip
      exact (e5_B_figures_262 h_R_210).tr je5_rf
theorem e5_LP_figures_210 {N : Nat}  (n : Nat) : ∀ a : Int32 × Int32 × Int32 × Int32 × Int64 × Int32 × Int32 × RSt, KE5 (LP_figures_210 N n a) a.2.2.2.2.2.2.2 := by
  induction n with
  | zero => exact fun a r z e => by have e : (none : Option _) = some (r, z) := e; cases e
  | succ n ih =>
    intro a
    show KE5 (B_figures_210 N (LP_figures_210 N n) a.1 a.2.1 a.2.2.1 a.2.2.2.1 a.2.2.2.2.1 a.2.2.2.2.2.1 a.2.2.2.2.2.2.1 a.2.2.2.2.2.2.2) a.2.2.2.2.2.2.2
    exact e5_B_figures_210 ih
theorem e5_B_figures_191 {N : Nat} {l2 : Int32} {l3 : Int32} {l4 : Int32} {l6 : Int32} {l7 : Int32} {s0 : Int32} {u : RSt}  : KE5 (B_figures_191 N l2 l3 l4 l6 l7 s0 u) u := by
  unfold B_figures_191
  refine KE5_if ?_ ?_
  · skip
    exact KE5_some je5_rf
  · skip
    exact (e5_LP_figures_210  _ _).tr je5_rf
theorem e5_B_figures_190 {N : Nat} {l2 : Int32} {l3 : Int32} {l4 : Int32} {l6 : Int32} {l7 : Int32} {u : RSt}  : KE5 (B_figures_190 N l2 l3 l4 l6 l7 u) u := by
  unfold B_figures_190
  exact e5_B_figures_191.tr je5_rf
theorem e5_B_figures_159 {N : Nat} {l2 : Int32} {l3 : Int32} {l4 : Int32} {l6 : Int32} {l7 : Int32} {s0 : Int32} {s1 : Int32} {u : RSt}  : KE5 (B_figures_159 N l2 l3 l4 l6 l7 s0 s1 u) u := by
  unfold B_figures_159
  refine KE5_if ?_ ?_
  · skip
    exact e5_B_figures_190.tr je5_rf
  · skip
    refine KE5_bn (e5_F_see.tr je5_rf) (fun _ _ => ?_)
    refine KE5_if ?_ ?_
    · skip
      refine KE5_bn (e5_F_see.tr je5_rf) (fun _ _ => ?_)
      refine KE5_if ?_ ?_
      · skip
        exact e5_B_figures_191.tr je5_rf
      · skip
        exact e5_B_figures_190.tr je5_rf
    · skip
      exact e5_B_figures_190.tr je5_rf
theorem e5_B_figures_119 {N : Nat} {l2 : Int32} {l3 : Int32} {l4 : Int32} {l5 : Int32} {l6 : Int32} {s0 : Int32} {u : RSt}  : KE5 (B_figures_119 N l2 l3 l4 l5 l6 s0 u) u := by
  unfold B_figures_119
  refine KE5_if ?_ ?_
  · skip
    exact e5_B_figures_190.tr je5_rf
  · skip
    refine KE5_if ?_ ?_
    · skip
      refine KE5_if ?_ ?_
      · skip
        exact e5_B_figures_159.tr je5_rf
      · skip
        exact e5_B_figures_159.tr je5_rf
    · skip
      refine KE5_if ?_ ?_
      · skip
        exact e5_B_figures_159.tr je5_rf
      · skip
        exact e5_B_figures_159.tr je5_rf
theorem e5_B_figures_103 {N : Nat} {l2 : Int32} {l3 : Int32} {l4 : Int32} {l5 : Int32} {s0 : Int32} {u : RSt}  : KE5 (B_figures_103 N l2 l3 l4 l5 s0 u) u := by
  unfold B_figures_103
  refine KE5_if ?_ ?_
  · skip
    exact e5_B_figures_119.tr je5_rf
  · skip
    exact e5_B_figures_119.tr je5_rf
theorem e5_B_figures_81 {N : Nat} {l2 : Int32} {l3 : Int32} {l4 : Int32} {u : RSt}  : KE5 (B_figures_81 N l2 l3 l4 u) u := by
  unfold B_figures_81
  refine KE5_bn (e5_F_see.tr je5_rf) (fun _ _ => ?_)
  refine KE5_if ?_ ?_
  · skip
    exact e5_B_figures_103.tr je5_rf
  · skip
    exact e5_B_figures_103.tr je5_rf
theorem e5_B_figures_43 {N : Nat} {R_43 : Int32 × Int32 × Int32 × RSt → Option (Int32 × RSt)} {l2 : Int32} {l3 : Int32} {l4 : Int32} {u : RSt} (h_R_43 : ∀ a, KE5 (R_43 a) a.2.2.2) : KE5 (B_figures_43 N R_43 l2 l3 l4 u) u := by
  unfold B_figures_43
  refine KE5_if ?_ ?_
  · skip
    refine KE5_bn (e5_F_see.tr je5_rf) (fun _ _ => ?_)
    refine KE5_if ?_ ?_
    · skip
      exact e5_B_figures_81.tr je5_rf
    · skip
      exact (e5_B_figures_75 h_R_43).tr je5_rf
  · skip
    refine KE5_bn (e5_F_see.tr je5_rf) (fun _ _ => ?_)
    refine KE5_if ?_ ?_
    · skip
      exact e5_B_figures_81.tr je5_rf
    · skip
      exact (e5_B_figures_75 h_R_43).tr je5_rf
theorem e5_LP_figures_43 {N : Nat}  (n : Nat) : ∀ a : Int32 × Int32 × Int32 × RSt, KE5 (LP_figures_43 N n a) a.2.2.2 := by
  induction n with
  | zero => exact fun a r z e => by have e : (none : Option _) = some (r, z) := e; cases e
  | succ n ih =>
    intro a
    show KE5 (B_figures_43 N (LP_figures_43 N n) a.1 a.2.1 a.2.2.1 a.2.2.2) a.2.2.2
    exact e5_B_figures_43 ih
theorem e5_B_figures_39 {N : Nat} {l2 : Int32} {s0 : Int32} {u : RSt}  : KE5 (B_figures_39 N l2 s0 u) u := by
  unfold B_figures_39
  exact (e5_LP_figures_43  _ _).tr je5_rf
theorem e5_B_figures_27 {N : Nat} {l1 : Int32} {s0 : Int32} {u : RSt}  : KE5 (B_figures_27 N l1 s0 u) u := by
  unfold B_figures_27
  refine KE5_if ?_ ?_
  · skip
    exact e5_B_figures_39.tr je5_rf
  · skip
    exact e5_B_figures_39.tr je5_rf
theorem e5_B_figures_26 {N : Nat} {l1 : Int32} {u : RSt}  : KE5 (B_figures_26 N l1 u) u := by
  unfold B_figures_26
  exact e5_B_figures_27.tr je5_rf
theorem e5_B_figures_0 {N : Nat} {l1 : Int32} {u : RSt}  : KE5 (B_figures_0 N l1 u) u := by
  unfold B_figures_0
  refine KE5_bn (e5_F_see.tr je5_rf) (fun _ _ => ?_)
  refine KE5_if ?_ ?_
  · skip
    refine KE5_bn (e5_F_see.tr je5_rf) (fun _ _ => ?_)
    refine KE5_if ?_ ?_
    · skip
      exact e5_B_figures_27.tr je5_rf
    · skip
      exact e5_B_figures_26.tr je5_rf
  · skip
    exact e5_B_figures_26.tr je5_rf
theorem e5_F_figures {N : Nat} {l1 : Int32} {u : RSt}  : KE5 (F_figures N l1 u) u := by
  unfold F_figures
  exact e5_B_figures_0.tr je5_rf
theorem e5_B_packed_8 {N : Nat} {R_8 : Int32 × Int32 × Int32 × Int64 × Int32 × RSt → Option (Int64 × RSt)} {l1 : Int32} {l2 : Int32} {l3 : Int32} {l4 : Int64} {l6 : Int32} {u : RSt} (h_R_8 : ∀ a, KE5 (R_8 a) a.2.2.2.2.2) : KE5 (B_packed_8 N R_8 l1 l2 l3 l4 l6 u) u := by
  unfold B_packed_8
  refine KE5_if ?_ ?_
  · skip
    exact KE5_some je5_rf
  · skip
    refine KE5_if ?_ ?_
    · skip
      exact KE5_some je5_rf
    · skip
      refine KE5_bn (e5_F_see.tr je5_rf) (fun _ _ => ?_)
      exact (h_R_8 _).tr je5_rf
theorem e5_LP_packed_8 {N : Nat}  (n : Nat) : ∀ a : Int32 × Int32 × Int32 × Int64 × Int32 × RSt, KE5 (LP_packed_8 N n a) a.2.2.2.2.2 := by
  induction n with
  | zero => exact fun a r z e => by have e : (none : Option _) = some (r, z) := e; cases e
  | succ n ih =>
    intro a
    show KE5 (B_packed_8 N (LP_packed_8 N n) a.1 a.2.1 a.2.2.1 a.2.2.2.1 a.2.2.2.2.1 a.2.2.2.2.2) a.2.2.2.2.2
    exact e5_B_packed_8 ih
theorem e5_B_packed_0 {N : Nat} {l1 : Int32} {l2 : Int32} {l3 : Int32} {u : RSt}  : KE5 (B_packed_0 N l1 l2 l3 u) u := by
  unfold B_packed_0
  exact (e5_LP_packed_8  _ _).tr je5_rf
theorem e5_F_packed {N : Nat} {l1 : Int32} {l2 : Int32} {l3 : Int32} {u : RSt}  : KE5 (F_packed N l1 l2 l3 u) u := by
  unfold F_packed
  exact e5_B_packed_0.tr je5_rf
theorem e5_B_find_75 {N : Nat} {R_49 : Int32 × Int32 × Int32 × RSt → Option (Int32 × RSt)} {l1 : Int32} {l3 : Int32} {s0 : Int32} {u : RSt} (h_R_49 : ∀ a, KE5 (R_49 a) a.2.2.2) : KE5 (B_find_75 N R_49 l1 l3 s0 u) u := by
  unfold B_find_75
  exact (h_R_49 _).tr je5_rf
theorem e5_B_find_453 {N : Nat} {R_204 : Int32 × Int64 × Int64 × Int32 × Int32 × RSt → Option (Int32 × RSt)} {l1 : Int32} {l3 : Int64} {l5 : Int64} {l7 : Int32} {l8 : Int32} {u : RSt} (h_R_204 : ∀ a, KE5 (R_204 a) a.2.2.2.2.2) : KE5 (B_find_453 N R_204 l1 l3 l5 l7 l8 u) u := by
  unfold B_find_453
  exact (h_R_204 _).tr je5_rf
theorem e5_B_find_433 {N : Nat} {R_204 : Int32 × Int64 × Int64 × Int32 × Int32 × RSt → Option (Int32 × RSt)} {l1 : Int32} {l3 : Int64} {l5 : Int64} {l7 : Int32} {l8 : Int32} {l9 : Int64} {s0 : Int64} {u : RSt} (h_R_204 : ∀ a, KE5 (R_204 a) a.2.2.2.2.2) : KE5 (B_find_433 N R_204 l1 l3 l5 l7 l8 l9 s0 u) u := by
  unfold B_find_433
  refine KE5_if ?_ ?_
  · skip
    refine KE5_if ?_ ?_
    · skip
      exact KE5_some je5_rf
    · skip
      exact (e5_B_find_453 h_R_204).tr je5_rf
  · skip
    exact (e5_B_find_453 h_R_204).tr je5_rf
theorem e5_B_find_321 {N : Nat} {R_204 : Int32 × Int64 × Int64 × Int32 × Int32 × RSt → Option (Int32 × RSt)} {l1 : Int32} {l3 : Int64} {l5 : Int64} {l7 : Int32} {l8 : Int32} {s0 : Int64} {u : RSt} (h_R_204 : ∀ a, KE5 (R_204 a) a.2.2.2.2.2) : KE5 (B_find_321 N R_204 l1 l3 l5 l7 l8 s0 u) u := by
  unfold B_find_321
  refine KE5_if ?_ ?_
  · skip
    refine KE5_rd (fun _ => ?_)
    exact (e5_B_find_433 h_R_204).tr je5_rf
  · skip
    refine KE5_if ?_ ?_
    · skip
      refine KE5_rd (fun _ => ?_)
      exact (e5_B_find_433 h_R_204).tr je5_rf
    · skip
      refine KE5_if ?_ ?_
      · skip
        refine KE5_rd (fun _ => ?_)
        exact (e5_B_find_433 h_R_204).tr je5_rf
      · skip
        refine KE5_if ?_ ?_
        · skip
          refine KE5_rd (fun _ => ?_)
          exact (e5_B_find_433 h_R_204).tr je5_rf
        · skip
          refine KE5_rd (fun _ => ?_)
          exact (e5_B_find_433 h_R_204).tr je5_rf
theorem e5_B_find_204 {N : Nat} {R_204 : Int32 × Int64 × Int64 × Int32 × Int32 × RSt → Option (Int32 × RSt)} {l1 : Int32} {l3 : Int64} {l5 : Int64} {l7 : Int32} {l8 : Int32} {u : RSt} (h_R_204 : ∀ a, KE5 (R_204 a) a.2.2.2.2.2) : KE5 (B_find_204 N R_204 l1 l3 l5 l7 l8 u) u := by
  unfold B_find_204
  refine KE5_if ?_ ?_
  · skip
    exact KE5_some je5_rf
  · skip
    refine KE5_if ?_ ?_
    · skip
      refine KE5_rd (fun _ => ?_)
      exact (e5_B_find_321 h_R_204).tr je5_rf
    · skip
      refine KE5_if ?_ ?_
      · skip
        refine KE5_rd (fun _ => ?_)
        exact (e5_B_find_321 h_R_204).tr je5_rf
      · skip
        refine KE5_if ?_ ?_
        · skip
          refine KE5_rd (fun _ => ?_)
          exact (e5_B_find_321 h_R_204).tr je5_rf
        · skip
          refine KE5_if ?_ ?_
          · skip
            refine KE5_rd (fun _ => ?_)
            exact (e5_B_find_321 h_R_204).tr je5_rf
          · skip
            refine KE5_rd (fun _ => ?_)
            exact (e5_B_find_321 h_R_204).tr je5_rf
theorem e5_LP_find_204 {N : Nat}  (n : Nat) : ∀ a : Int32 × Int64 × Int64 × Int32 × Int32 × RSt, KE5 (LP_find_204 N n a) a.2.2.2.2.2 := by
  induction n with
  | zero => exact fun a r z e => by have e : (none : Option _) = some (r, z) := e; cases e
  | succ n ih =>
    intro a
    show KE5 (B_find_204 N (LP_find_204 N n) a.1 a.2.1 a.2.2.1 a.2.2.2.1 a.2.2.2.2.1 a.2.2.2.2.2) a.2.2.2.2.2
    exact e5_B_find_204 ih
theorem e5_B_find_199 {N : Nat} {l1 : Int32} {l3 : Int64} {l5 : Int64} {s0 : Int32} {u : RSt}  : KE5 (B_find_199 N l1 l3 l5 s0 u) u := by
  unfold B_find_199
  exact (e5_LP_find_204  _ _).tr je5_rf
theorem e5_B_find_82 {N : Nat} {l1 : Int32} {l2 : Int32} {u : RSt}  : KE5 (B_find_82 N l1 l2 u) u := by
  unfold B_find_82
  refine KE5_if ?_ ?_
  · skip
    refine KE5_if ?_ ?_
    · skip
      exact KE5_some je5_rf
    · skip
      exact KE5_some je5_rf
  · skip
    refine KE5_bn (e5_F_packed.tr je5_rf) (fun _ _ => ?_)
    refine KE5_bn (e5_F_packed.tr je5_rf) (fun _ _ => ?_)
    refine KE5_if ?_ ?_
    · skip
      refine KE5_rd (fun _ => ?_)
      exact e5_B_find_199.tr je5_rf
    · skip
      refine KE5_if ?_ ?_
      · skip
        refine KE5_rd (fun _ => ?_)
        exact e5_B_find_199.tr je5_rf
      · skip
        refine KE5_if ?_ ?_
        · skip
          refine KE5_rd (fun _ => ?_)
          exact e5_B_find_199.tr je5_rf
        · skip
          refine KE5_if ?_ ?_
          · skip
            refine KE5_rd (fun _ => ?_)
            exact e5_B_find_199.tr je5_rf
          · skip
            refine KE5_rd (fun _ => ?_)
            exact e5_B_find_199.tr je5_rf
theorem e5_B_find_49 {N : Nat} {R_49 : Int32 × Int32 × Int32 × RSt → Option (Int32 × RSt)} {l1 : Int32} {l2 : Int32} {l3 : Int32} {u : RSt} (h_R_49 : ∀ a, KE5 (R_49 a) a.2.2.2) : KE5 (B_find_49 N R_49 l1 l2 l3 u) u := by
  unfold B_find_49
  refine KE5_if ?_ ?_
  · skip
    exact e5_B_find_82.tr je5_rf
  · skip
    refine KE5_if ?_ ?_
    · skip
      exact e5_B_find_82.tr je5_rf
    · skip
      refine KE5_rd (fun _ => ?_)
      refine KE5_if ?_ ?_
      · skip
        exact (e5_B_find_75 h_R_49).tr je5_rf
      · skip
        exact (e5_B_find_75 h_R_49).tr je5_rf
theorem e5_LP_find_49 {N : Nat}  (n : Nat) : ∀ a : Int32 × Int32 × Int32 × RSt, KE5 (LP_find_49 N n a) a.2.2.2 := by
  induction n with
  | zero => exact fun a r z e => by have e : (none : Option _) = some (r, z) := e; cases e
  | succ n ih =>
    intro a
    show KE5 (B_find_49 N (LP_find_49 N n) a.1 a.2.1 a.2.2.1 a.2.2.2) a.2.2.2
    exact e5_B_find_49 ih
theorem e5_B_find_46 {N : Nat} {l1 : Int32} {s0 : Int32} {u : RSt}  : KE5 (B_find_46 N l1 s0 u) u := by
  unfold B_find_46
  exact (e5_LP_find_49  _ _).tr je5_rf
theorem e5_B_find_45 {N : Nat} {l1 : Int32} {u : RSt}  : KE5 (B_find_45 N l1 u) u := by
  unfold B_find_45
  exact e5_B_find_46.tr je5_rf
theorem e5_B_find_15 {N : Nat} {l1 : Int32} {s1 : Int32} {u : RSt}  : KE5 (B_find_15 N l1 s1 u) u := by
  unfold B_find_15
  refine KE5_pu ?_
  refine KE5_if ?_ ?_
  · skip
    exact e5_B_find_45.tr (fe5_sI (by decide) je5_rf)
  · skip
    refine KE5_if ?_ ?_
    · skip
      exact e5_B_find_45.tr (fe5_sI (by decide) je5_rf)
    · skip
      refine KE5_if ?_ ?_
      · skip
        exact e5_B_find_46.tr (fe5_sI (by decide) je5_rf)
      · skip
        exact e5_B_find_45.tr (fe5_sI (by decide) je5_rf)
theorem e5_B_find_0 {N : Nat} {l1 : Int32} {u : RSt}  : KE5 (B_find_0 N l1 u) u := by
  unfold B_find_0
  refine KE5_if ?_ ?_
  · skip
    exact e5_B_find_15.tr je5_rf
  · skip
    exact e5_B_find_15.tr je5_rf
theorem e5_F_find {N : Nat} {l1 : Int32} {u : RSt}  : KE5 (F_find N l1 u) u := by
  unfold F_find
  exact e5_B_find_0.tr je5_rf
theorem e5_B_among_3_87 {N : Nat} {R_9 : Int32 × Int32 × Int32 × Int32 × Int32 × RSt → Option (Int32 × RSt)} {R_51 : Int32 × Int32 × Int32 × Int32 × Int32 × Int32 × Int32 × RSt → Option (Int32 × RSt)} {l2 : Int32} {l3 : Int32} {l4 : Int32} {l5 : Int32} {l6 : Int32} {l8 : Int32} {s0 : Int32} {u : RSt} (h_R_9 : ∀ a, KE5 (R_9 a) a.2.2.2.2.2) (h_R_51 : ∀ a, KE5 (R_51 a) a.2.2.2.2.2.2.2) : KE5 (B_among_3_87 N R_9 R_51 l2 l3 l4 l5 l6 l8 s0 u) u := by
  unfold B_among_3_87
  exact (h_R_51 _).tr je5_rf
theorem e5_B_among_3_112 {N : Nat} {R_9 : Int32 × Int32 × Int32 × Int32 × Int32 × RSt → Option (Int32 × RSt)} {l2 : Int32} {l3 : Int32} {l4 : Int32} {l5 : Int32} {l6 : Int32} {u : RSt} (h_R_9 : ∀ a, KE5 (R_9 a) a.2.2.2.2.2) : KE5 (B_among_3_112 N R_9 l2 l3 l4 l5 l6 u) u := by
  unfold B_among_3_112
  exact (h_R_9 _).tr je5_rf
theorem e5_B_among_3_95 {N : Nat} {R_9 : Int32 × Int32 × Int32 × Int32 × Int32 × RSt → Option (Int32 × RSt)} {l2 : Int32} {l3 : Int32} {l4 : Int32} {l6 : Int32} {l7 : Int32} {u : RSt} (h_R_9 : ∀ a, KE5 (R_9 a) a.2.2.2.2.2) : KE5 (B_among_3_95 N R_9 l2 l3 l4 l6 l7 u) u := by
  unfold B_among_3_95
  refine KE5_if ?_ ?_
  · skip
    exact (e5_B_among_3_112 h_R_9).tr je5_rf
  · skip
    exact KE5_some je5_rf
theorem e5_B_among_3_51 {N : Nat} {R_9 : Int32 × Int32 × Int32 × Int32 × Int32 × RSt → Option (Int32 × RSt)} {R_51 : Int32 × Int32 × Int32 × Int32 × Int32 × Int32 × Int32 × RSt → Option (Int32 × RSt)} {l2 : Int32} {l3 : Int32} {l4 : Int32} {l5 : Int32} {l6 : Int32} {l7 : Int32} {l8 : Int32} {u : RSt} (h_R_9 : ∀ a, KE5 (R_9 a) a.2.2.2.2.2) (h_R_51 : ∀ a, KE5 (R_51 a) a.2.2.2.2.2.2.2) : KE5 (B_among_3_51 N R_9 R_51 l2 l3 l4 l5 l6 l7 l8 u) u := by
  unfold B_among_3_51
  refine KE5_if ?_ ?_
  · skip
    exact (e5_B_among_3_95 h_R_9).tr je5_rf
  · skip
    refine KE5_if ?_ ?_
    · skip
      exact (e5_B_among_3_95 h_R_9).tr je5_rf
    · skip
      refine KE5_rd (fun _ => ?_)
      refine KE5_bn (e5_F_see.tr je5_rf) (fun _ _ => ?_)
      refine KE5_if ?_ ?_
      · skip
        exact (e5_B_among_3_87 h_R_9 h_R_51).tr je5_rf
      · skip
        exact (e5_B_among_3_87 h_R_9 h_R_51).tr je5_rf
theorem e5_LP_among_3_51 {N : Nat} {R_9 : Int32 × Int32 × Int32 × Int32 × Int32 × RSt → Option (Int32 × RSt)} (h_R_9 : ∀ a, KE5 (R_9 a) a.2.2.2.2.2) (n : Nat) : ∀ a : Int32 × Int32 × Int32 × Int32 × Int32 × Int32 × Int32 × RSt, KE5 (LP_among_3_51 N R_9 n a) a.2.2.2.2.2.2.2 := by
  induction n with
  | zero => exact fun a r z e => by have e : (none : Option _) = some (r, z) := e; cases e
  | succ n ih =>
    intro a
    show KE5 (B_among_3_51 N R_9 (LP_among_3_51 N R_9 n) a.1 a.2.1 a.2.2.1 a.2.2.2.1 a.2.2.2.2.1 a.2.2.2.2.2.1 a.2.2.2.2.2.2.1 a.2.2.2.2.2.2.2) a.2.2.2.2.2.2.2
    exact e5_B_among_3_51 h_R_9 ih
theorem e5_B_among_3_46 {N : Nat} {R_9 : Int32 × Int32 × Int32 × Int32 × Int32 × RSt → Option (Int32 × RSt)} {l2 : Int32} {l3 : Int32} {l4 : Int32} {l5 : Int32} {l6 : Int32} {s0 : Int32} {u : RSt} (h_R_9 : ∀ a, KE5 (R_9 a) a.2.2.2.2.2) : KE5 (B_among_3_46 N R_9 l2 l3 l4 l5 l6 s0 u) u := by
  unfold B_among_3_46
  exact (e5_LP_among_3_51 h_R_9 _ _).tr je5_rf
theorem e5_B_among_3_9 {N : Nat} {R_9 : Int32 × Int32 × Int32 × Int32 × Int32 × RSt → Option (Int32 × RSt)} {l2 : Int32} {l3 : Int32} {l4 : Int32} {l5 : Int32} {l6 : Int32} {u : RSt} (h_R_9 : ∀ a, KE5 (R_9 a) a.2.2.2.2.2) : KE5 (B_among_3_9 N R_9 l2 l3 l4 l5 l6 u) u := by
  unfold B_among_3_9
  refine KE5_if ?_ ?_
  · skip
    exact KE5_some je5_rf
  · skip
    refine KE5_rd (fun _ => ?_)
    refine KE5_if ?_ ?_
    · skip
      refine KE5_if ?_ ?_
      · skip
        exact (e5_B_among_3_46 h_R_9).tr je5_rf
      · skip
        exact (e5_B_among_3_46 h_R_9).tr je5_rf
    · skip
      exact (e5_B_among_3_112 h_R_9).tr je5_rf
theorem e5_LP_among_3_9 {N : Nat}  (n : Nat) : ∀ a : Int32 × Int32 × Int32 × Int32 × Int32 × RSt, KE5 (LP_among_3_9 N n a) a.2.2.2.2.2 := by
  induction n with
  | zero => exact fun a r z e => by have e : (none : Option _) = some (r, z) := e; cases e
  | succ n ih =>
    intro a
    show KE5 (B_among_3_9 N (LP_among_3_9 N n) a.1 a.2.1 a.2.2.1 a.2.2.2.1 a.2.2.2.2.1 a.2.2.2.2.2) a.2.2.2.2.2
    exact e5_B_among_3_9 ih
theorem e5_B_among_3_0 {N : Nat} {l2 : Int32} {l3 : Int32} {u : RSt}  : KE5 (B_among_3_0 N l2 l3 u) u := by
  unfold B_among_3_0
  exact (e5_LP_among_3_9  _ _).tr je5_rf
theorem e5_F_among_3 {N : Nat} {l2 : Int32} {l3 : Int32} {u : RSt}  : KE5 (F_among_3 N l2 l3 u) u := by
  unfold F_among_3
  exact e5_B_among_3_0.tr je5_rf
theorem e5_B_among_4_87 {N : Nat} {R_9 : Int32 × Int32 × Int32 × Int32 × Int32 × RSt → Option (Int32 × RSt)} {R_51 : Int32 × Int32 × Int32 × Int32 × Int32 × Int32 × Int32 × RSt → Option (Int32 × RSt)} {l2 : Int32} {l3 : Int32} {l4 : Int32} {l5 : Int32} {l6 : Int32} {l8 : Int32} {s0 : Int32} {u : RSt} (h_R_9 : ∀ a, KE5 (R_9 a) a.2.2.2.2.2) (h_R_51 : ∀ a, KE5 (R_51 a) a.2.2.2.2.2.2.2) : KE5 (B_among_4_87 N R_9 R_51 l2 l3 l4 l5 l6 l8 s0 u) u := by
  unfold B_among_4_87
  exact (h_R_51 _).tr je5_rf
theorem e5_B_among_4_112 {N : Nat} {R_9 : Int32 × Int32 × Int32 × Int32 × Int32 × RSt → Option (Int32 × RSt)} {l2 : Int32} {l3 : Int32} {l4 : Int32} {l5 : Int32} {l6 : Int32} {u : RSt} (h_R_9 : ∀ a, KE5 (R_9 a) a.2.2.2.2.2) : KE5 (B_among_4_112 N R_9 l2 l3 l4 l5 l6 u) u := by
  unfold B_among_4_112
  exact (h_R_9 _).tr je5_rf
theorem e5_B_among_4_95 {N : Nat} {R_9 : Int32 × Int32 × Int32 × Int32 × Int32 × RSt → Option (Int32 × RSt)} {l2 : Int32} {l3 : Int32} {l4 : Int32} {l6 : Int32} {l7 : Int32} {u : RSt} (h_R_9 : ∀ a, KE5 (R_9 a) a.2.2.2.2.2) : KE5 (B_among_4_95 N R_9 l2 l3 l4 l6 l7 u) u := by
  unfold B_among_4_95
  refine KE5_if ?_ ?_
  · skip
    exact (e5_B_among_4_112 h_R_9).tr je5_rf
  · skip
    exact KE5_some je5_rf
theorem e5_B_among_4_51 {N : Nat} {R_9 : Int32 × Int32 × Int32 × Int32 × Int32 × RSt → Option (Int32 × RSt)} {R_51 : Int32 × Int32 × Int32 × Int32 × Int32 × Int32 × Int32 × RSt → Option (Int32 × RSt)} {l2 : Int32} {l3 : Int32} {l4 : Int32} {l5 : Int32} {l6 : Int32} {l7 : Int32} {l8 : Int32} {u : RSt} (h_R_9 : ∀ a, KE5 (R_9 a) a.2.2.2.2.2) (h_R_51 : ∀ a, KE5 (R_51 a) a.2.2.2.2.2.2.2) : KE5 (B_among_4_51 N R_9 R_51 l2 l3 l4 l5 l6 l7 l8 u) u := by
  unfold B_among_4_51
  refine KE5_if ?_ ?_
  · skip
    exact (e5_B_among_4_95 h_R_9).tr je5_rf
  · skip
    refine KE5_if ?_ ?_
    · skip
      exact (e5_B_among_4_95 h_R_9).tr je5_rf
    · skip
      refine KE5_rd (fun _ => ?_)
      refine KE5_bn (e5_F_see.tr je5_rf) (fun _ _ => ?_)
      refine KE5_if ?_ ?_
      · skip
        exact (e5_B_among_4_87 h_R_9 h_R_51).tr je5_rf
      · skip
        exact (e5_B_among_4_87 h_R_9 h_R_51).tr je5_rf
theorem e5_LP_among_4_51 {N : Nat} {R_9 : Int32 × Int32 × Int32 × Int32 × Int32 × RSt → Option (Int32 × RSt)} (h_R_9 : ∀ a, KE5 (R_9 a) a.2.2.2.2.2) (n : Nat) : ∀ a : Int32 × Int32 × Int32 × Int32 × Int32 × Int32 × Int32 × RSt, KE5 (LP_among_4_51 N R_9 n a) a.2.2.2.2.2.2.2 := by
  induction n with
  | zero => exact fun a r z e => by have e : (none : Option _) = some (r, z) := e; cases e
  | succ n ih =>
    intro a
    show KE5 (B_among_4_51 N R_9 (LP_among_4_51 N R_9 n) a.1 a.2.1 a.2.2.1 a.2.2.2.1 a.2.2.2.2.1 a.2.2.2.2.2.1 a.2.2.2.2.2.2.1 a.2.2.2.2.2.2.2) a.2.2.2.2.2.2.2
    exact e5_B_among_4_51 h_R_9 ih
theorem e5_B_among_4_46 {N : Nat} {R_9 : Int32 × Int32 × Int32 × Int32 × Int32 × RSt → Option (Int32 × RSt)} {l2 : Int32} {l3 : Int32} {l4 : Int32} {l5 : Int32} {l6 : Int32} {s0 : Int32} {u : RSt} (h_R_9 : ∀ a, KE5 (R_9 a) a.2.2.2.2.2) : KE5 (B_among_4_46 N R_9 l2 l3 l4 l5 l6 s0 u) u := by
  unfold B_among_4_46
  exact (e5_LP_among_4_51 h_R_9 _ _).tr je5_rf
theorem e5_B_among_4_9 {N : Nat} {R_9 : Int32 × Int32 × Int32 × Int32 × Int32 × RSt → Option (Int32 × RSt)} {l2 : Int32} {l3 : Int32} {l4 : Int32} {l5 : Int32} {l6 : Int32} {u : RSt} (h_R_9 : ∀ a, KE5 (R_9 a) a.2.2.2.2.2) : KE5 (B_among_4_9 N R_9 l2 l3 l4 l5 l6 u) u := by
  unfold B_among_4_9
  refine KE5_if ?_ ?_
  · skip
    exact KE5_some je5_rf
  · skip
    refine KE5_rd (fun _ => ?_)
    refine KE5_if ?_ ?_
    · skip
      refine KE5_if ?_ ?_
      · skip
        exact (e5_B_among_4_46 h_R_9).tr je5_rf
      · skip
        exact (e5_B_among_4_46 h_R_9).tr je5_rf
    · skip
      exact (e5_B_among_4_112 h_R_9).tr je5_rf
theorem e5_LP_among_4_9 {N : Nat}  (n : Nat) : ∀ a : Int32 × Int32 × Int32 × Int32 × Int32 × RSt, KE5 (LP_among_4_9 N n a) a.2.2.2.2.2 := by
  induction n with
  | zero => exact fun a r z e => by have e : (none : Option _) = some (r, z) := e; cases e
  | succ n ih =>
    intro a
    show KE5 (B_among_4_9 N (LP_among_4_9 N n) a.1 a.2.1 a.2.2.1 a.2.2.2.1 a.2.2.2.2.1 a.2.2.2.2.2) a.2.2.2.2.2
    exact e5_B_among_4_9 ih
theorem e5_B_among_4_0 {N : Nat} {l2 : Int32} {l3 : Int32} {u : RSt}  : KE5 (B_among_4_0 N l2 l3 u) u := by
  unfold B_among_4_0
  exact (e5_LP_among_4_9  _ _).tr je5_rf
theorem e5_F_among_4 {N : Nat} {l2 : Int32} {l3 : Int32} {u : RSt}  : KE5 (F_among_4 N l2 l3 u) u := by
  unfold F_among_4
  exact e5_B_among_4_0.tr je5_rf
theorem e5_B_word_24 {N : Nat} {R_2 : Int32 × Int32 × RSt → Option (Int32 × RSt)} {l1 : Int32} {l2 : Int32} {u : RSt} (h_R_2 : ∀ a, KE5 (R_2 a) a.2.2) : KE5 (B_word_24 N R_2 l1 l2 u) u := by
  unfold B_word_24
  exact (h_R_2 _).tr je5_rf
theorem e5_B_word_2 {N : Nat} {R_2 : Int32 × Int32 × RSt → Option (Int32 × RSt)} {l1 : Int32} {l2 : Int32} {u : RSt} (h_R_2 : ∀ a, KE5 (R_2 a) a.2.2) : KE5 (B_word_2 N R_2 l1 l2 u) u := by
  unfold B_word_2
  refine KE5_bn (e5_F_see.tr je5_rf) (fun _ _ => ?_)
  refine KE5_if ?_ ?_
  · skip
    refine KE5_bn (e5_F_see.tr je5_rf) (fun _ _ => ?_)
    refine KE5_if ?_ ?_
    · skip
      refine KE5_bn (e5_F_among_3.tr je5_rf) (fun _ _ => ?_)
      refine KE5_if ?_ ?_
      · skip
        refine KE5_if ?_ ?_
        · skip
          exact KE5_some je5_rf
        · skip
          refine KE5_wr ?_
          refine KE5_bn (e5_F_packed.tr (fe5_sA (by decide) je5_rf)) (fun _ _ => ?_)
          refine KE5_wr ?_
          refine KE5_bn (e5_F_packed.tr (fe5_sB (by decide) je5_rf)) (fun _ _ => ?_)
          refine KE5_wr ?_
          exact KE5_some (fe5_sB (by decide) je5_rf)
      · skip
        refine KE5_wr ?_
        exact KE5_some (fe5_sA (by decide) je5_rf)
    · skip
      exact (e5_B_word_24 h_R_2).tr je5_rf
  · skip
    exact (e5_B_word_24 h_R_2).tr je5_rf
theorem e5_LP_word_2 {N : Nat}  (n : Nat) : ∀ a : Int32 × Int32 × RSt, KE5 (LP_word_2 N n a) a.2.2 := by
  induction n with
  | zero => exact fun a r z e => by have e : (none : Option _) = some (r, z) := e; cases e
  | succ n ih =>
    intro a
    show KE5 (B_word_2 N (LP_word_2 N n) a.1 a.2.1 a.2.2) a.2.2
    exact e5_B_word_2 ih
theorem e5_B_word_0 {N : Nat} {l1 : Int32} {u : RSt}  : KE5 (B_word_0 N l1 u) u := by
  unfold B_word_0
  exact (e5_LP_word_2  _ _).tr je5_rf
theorem e5_F_word {N : Nat} {l1 : Int32} {u : RSt}  : KE5 (F_word N l1 u) u := by
  unfold F_word
  exact e5_B_word_0.tr je5_rf
theorem e5_B_token_164 {N : Nat} {R_135 : Int32 × Int32 × Int32 × RSt → Option (Int32 × RSt)} {l1 : Int32} {l3 : Int32} {l4 : Int32} {s0 : Int32} {u : RSt} (h_R_135 : ∀ a, KE5 (R_135 a) a.2.2.2) : KE5 (B_token_164 N R_135 l1 l3 l4 s0 u) u := by
  unfold B_token_164
  refine KE5_if ?_ ?_
  · skip
    exact (h_R_135 _).tr je5_rf
  · skip
    refine KE5_wr ?_
    exact KE5_some (fe5_sA (by decide) je5_rf)
theorem e5_B_token_135 {N : Nat} {R_135 : Int32 × Int32 × Int32 × RSt → Option (Int32 × RSt)} {l1 : Int32} {l3 : Int32} {l4 : Int32} {u : RSt} (h_R_135 : ∀ a, KE5 (R_135 a) a.2.2.2) : KE5 (B_token_135 N R_135 l1 l3 l4 u) u := by
  unfold B_token_135
  refine KE5_if ?_ ?_
  · skip
    exact KE5_some je5_rf
  · skip
    refine KE5_if ?_ ?_
    · skip
      exact (e5_B_token_164 h_R_135).tr je5_rf
    · skip
      refine KE5_bn (e5_F_among_4.tr je5_rf) (fun _ _ => ?_)
      exact (e5_B_token_164 h_R_135).tr je5_rf
theorem e5_LP_token_135 {N : Nat}  (n : Nat) : ∀ a : Int32 × Int32 × Int32 × RSt, KE5 (LP_token_135 N n a) a.2.2.2 := by
  induction n with
  | zero => exact fun a r z e => by have e : (none : Option _) = some (r, z) := e; cases e
  | succ n ih =>
    intro a
    show KE5 (B_token_135 N (LP_token_135 N n) a.1 a.2.1 a.2.2.1 a.2.2.2) a.2.2.2
    exact e5_B_token_135 ih
theorem e5_B_token_0 {N : Nat} {l1 : Int32} {u : RSt}  : KE5 (B_token_0 N l1 u) u := by
  unfold B_token_0
  refine KE5_bn (e5_F_see.tr je5_rf) (fun _ _ => ?_)
  refine KE5_wr ?_
  refine KE5_wr ?_
  refine KE5_wr ?_
  refine KE5_wr ?_
  refine KE5_if ?_ ?_
  · skip
    refine KE5_if ?_ ?_
    · skip
      refine KE5_if ?_ ?_
      · skip
        refine KE5_bn (e5_F_see.tr (fe5_sB (by decide) (fe5_sA (by decide) (fe5_sA (by decide) (fe5_sA (by decide) je5_rf))))) (fun _ _ => ?_)
        refine KE5_if ?_ ?_
        · skip
          exact KE5_some je5_rf
        · skip
          refine KE5_bn (e5_F_see.tr je5_rf) (fun _ _ => ?_)
          refine KE5_if ?_ ?_
          · skip
            exact KE5_some je5_rf
          · skip
            refine KE5_bn (e5_F_see.tr je5_rf) (fun _ _ => ?_)
            refine KE5_if ?_ ?_
            · skip
              refine KE5_wr ?_
              refine KE5_bn (e5_F_see.tr (fe5_sA (by decide) je5_rf)) (fun _ _ => ?_)
              refine KE5_wr ?_
              exact KE5_some (fe5_sB (by decide) je5_rf)
            · skip
              exact KE5_some je5_rf
      · skip
        exact (e5_LP_token_135  _ _).tr (fe5_sB (by decide) (fe5_sA (by decide) (fe5_sA (by decide) (fe5_sA (by decide) je5_rf))))
    · skip
      refine KE5_bn (e5_F_figures.tr (fe5_sB (by decide) (fe5_sA (by decide) (fe5_sA (by decide) (fe5_sA (by decide) je5_rf))))) (fun _ _ => ?_)
      exact KE5_some je5_rf
  · skip
    refine KE5_bn (e5_F_word.tr (fe5_sB (by decide) (fe5_sA (by decide) (fe5_sA (by decide) (fe5_sA (by decide) je5_rf))))) (fun _ _ => ?_)
    exact KE5_some je5_rf
theorem e5_F_token {N : Nat} {l1 : Int32} {u : RSt}  : KE5 (F_token N l1 u) u := by
  unfold F_token
  exact e5_B_token_0.tr je5_rf
theorem e5_B_cutAll_58 {N : Nat} {R_9 : Int32 × Int32 × RSt → Option (Int32 × RSt)} {R_15 : Int32 × Int32 × Int32 × RSt → Option (Int32 × RSt)} {R_58 : Int32 × Int32 × Int32 × RSt → Option (Int32 × RSt)} {l1 : Int32} {l2 : Int32} {l3 : Int32} {u : RSt} (h_R_9 : ∀ a, KE5 (R_9 a) a.2.2) (h_R_15 : ∀ a, KE5 (R_15 a) a.2.2.2) (h_R_58 : ∀ a, KE5 (R_58 a) a.2.2.2) : KE5 (B_cutAll_58 N R_9 R_15 R_58 l1 l2 l3 u) u := by
  unfold B_cutAll_58
  refine KE5_if ?_ ?_
  · skip
    exact (h_R_15 _).tr je5_rf
  · skip
    refine KE5_bn (e5_F_see.tr je5_rf) (fun _ _ => ?_)
    refine KE5_if ?_ ?_
    · skip
      exact (h_R_15 _).tr je5_rf
    · skip
      exact (h_R_58 _).tr je5_rf
theorem e5_LP_cutAll_58 {N : Nat} {R_9 : Int32 × Int32 × RSt → Option (Int32 × RSt)} {R_15 : Int32 × Int32 × Int32 × RSt → Option (Int32 × RSt)} (h_R_9 : ∀ a, KE5 (R_9 a) a.2.2) (h_R_15 : ∀ a, KE5 (R_15 a) a.2.2.2) (n : Nat) : ∀ a : Int32 × Int32 × Int32 × RSt, KE5 (LP_cutAll_58 N R_9 R_15 n a) a.2.2.2 := by
  induction n with
  | zero => exact fun a r z e => by have e : (none : Option _) = some (r, z) := e; cases e
  | succ n ih =>
    intro a
    show KE5 (B_cutAll_58 N R_9 R_15 (LP_cutAll_58 N R_9 R_15 n) a.1 a.2.1 a.2.2.1 a.2.2.2) a.2.2.2
    exact e5_B_cutAll_58 h_R_9 h_R_15 ih
theorem e5_B_cutAll_82 {N : Nat} {R_9 : Int32 × Int32 × RSt → Option (Int32 × RSt)} {R_15 : Int32 × Int32 × Int32 × RSt → Option (Int32 × RSt)} {l1 : Int32} {l2 : Int32} {u : RSt} (h_R_9 : ∀ a, KE5 (R_9 a) a.2.2) (h_R_15 : ∀ a, KE5 (R_15 a) a.2.2.2) : KE5 (B_cutAll_82 N R_9 R_15 l1 l2 u) u := by
  unfold B_cutAll_82
  exact (h_R_15 _).tr je5_rf
theorem e5_B_cutAll_179 {N : Nat} {R_9 : Int32 × Int32 × RSt → Option (Int32 × RSt)} {l1 : Int32} {l2 : Int32} {u : RSt} (h_R_9 : ∀ a, KE5 (R_9 a) a.2.2) : KE5 (B_cutAll_179 N R_9 l1 l2 u) u := by
  unfold B_cutAll_179
  exact (h_R_9 _).tr je5_rf
theorem e5_B_cutAll_169 {N : Nat} {R_9 : Int32 × Int32 × RSt → Option (Int32 × RSt)} {l1 : Int32} {l2 : Int32} {u : RSt} (h_R_9 : ∀ a, KE5 (R_9 a) a.2.2) : KE5 (B_cutAll_169 N R_9 l1 l2 u) u := by
  unfold B_cutAll_169
  refine KE5_pu ?_
  exact (e5_B_cutAll_179 h_R_9).tr (fe5_sI (by decide) je5_rf)
theorem e5_B_cutAll_15 {N : Nat} {R_9 : Int32 × Int32 × RSt → Option (Int32 × RSt)} {R_15 : Int32 × Int32 × Int32 × RSt → Option (Int32 × RSt)} {l1 : Int32} {l2 : Int32} {l3 : Int32} {u : RSt} (h_R_9 : ∀ a, KE5 (R_9 a) a.2.2) (h_R_15 : ∀ a, KE5 (R_15 a) a.2.2.2) : KE5 (B_cutAll_15 N R_9 R_15 l1 l2 l3 u) u := by
  unfold B_cutAll_15
  refine KE5_if ?_ ?_
  · skip
    refine KE5_if ?_ ?_
    · skip
      refine KE5_bn (e5_F_token.tr je5_rf) (fun _ _ => ?_)
      refine KE5_rd (fun _ => ?_)
      refine KE5_if ?_ ?_
      · skip
        exact (e5_B_cutAll_169 h_R_9).tr je5_rf
      · skip
        refine KE5_if ?_ ?_
        · skip
          refine KE5_wr ?_
          exact (e5_B_cutAll_169 h_R_9).tr (fe5_sA (by decide) je5_rf)
        · skip
          exact (e5_B_cutAll_169 h_R_9).tr je5_rf
    · skip
      refine KE5_wr ?_
      refine KE5_wr ?_
      exact (e5_B_cutAll_179 h_R_9).tr (fe5_sA (by decide) (fe5_sA (by decide) je5_rf))
  · skip
    refine KE5_bn (e5_F_see.tr je5_rf) (fun _ _ => ?_)
    refine KE5_if ?_ ?_
    · skip
      refine KE5_bn (e5_F_see.tr je5_rf) (fun _ _ => ?_)
      refine KE5_if ?_ ?_
      · skip
        refine KE5_bn (e5_F_see.tr je5_rf) (fun _ _ => ?_)
        refine KE5_if ?_ ?_
        · skip
          exact (e5_LP_cutAll_58 h_R_9 h_R_15 _ _).tr je5_rf
        · skip
          exact (e5_B_cutAll_82 h_R_9 h_R_15).tr je5_rf
      · skip
        exact (e5_B_cutAll_82 h_R_9 h_R_15).tr je5_rf
    · skip
      exact (h_R_15 _).tr je5_rf
theorem e5_LP_cutAll_15 {N : Nat} {R_9 : Int32 × Int32 × RSt → Option (Int32 × RSt)} (h_R_9 : ∀ a, KE5 (R_9 a) a.2.2) (n : Nat) : ∀ a : Int32 × Int32 × Int32 × RSt, KE5 (LP_cutAll_15 N R_9 n a) a.2.2.2 := by
  induction n with
  | zero => exact fun a r z e => by have e : (none : Option _) = some (r, z) := e; cases e
  | succ n ih =>
    intro a
    show KE5 (B_cutAll_15 N R_9 (LP_cutAll_15 N R_9 n) a.1 a.2.1 a.2.2.1 a.2.2.2) a.2.2.2
    exact e5_B_cutAll_15 h_R_9 ih
theorem e5_B_cutAll_9 {N : Nat} {R_9 : Int32 × Int32 × RSt → Option (Int32 × RSt)} {l1 : Int32} {l2 : Int32} {u : RSt} (h_R_9 : ∀ a, KE5 (R_9 a) a.2.2) : KE5 (B_cutAll_9 N R_9 l1 l2 u) u := by
  unfold B_cutAll_9
  refine KE5_if ?_ ?_
  · skip
    exact KE5_some je5_rf
  · skip
    exact (e5_LP_cutAll_15 h_R_9 _ _).tr je5_rf
theorem e5_LP_cutAll_9 {N : Nat}  (n : Nat) : ∀ a : Int32 × Int32 × RSt, KE5 (LP_cutAll_9 N n a) a.2.2 := by
  induction n with
  | zero => exact fun a r z e => by have e : (none : Option _) = some (r, z) := e; cases e
  | succ n ih =>
    intro a
    show KE5 (B_cutAll_9 N (LP_cutAll_9 N n) a.1 a.2.1 a.2.2) a.2.2
    exact e5_B_cutAll_9 ih
theorem e5_B_cutAll_0 {N : Nat} {u : RSt}  : KE5 (B_cutAll_0 N u) u := by
  unfold B_cutAll_0
  refine KE5_pu ?_
  exact (e5_LP_cutAll_9  _ _).tr (fe5_sI (by decide) je5_rf)
theorem e5_F_cutAll {N : Nat} {u : RSt}  : KE5 (F_cutAll N u) u := by
  unfold F_cutAll
  exact e5_B_cutAll_0.tr je5_rf
theorem e5_B_eight_101 {N : Nat} {R_9 : Int64 × Int32 × RSt → Option (Int32 × RSt)} {l1 : Int64} {l3 : Int32} {u : RSt} (h_R_9 : ∀ a, KE5 (R_9 a) a.2.2) : KE5 (B_eight_101 N R_9 l1 l3 u) u := by
  unfold B_eight_101
  exact (h_R_9 _).tr je5_rf
theorem e5_B_eight_9 {N : Nat} {R_9 : Int64 × Int32 × RSt → Option (Int32 × RSt)} {l1 : Int64} {l3 : Int32} {u : RSt} (h_R_9 : ∀ a, KE5 (R_9 a) a.2.2) : KE5 (B_eight_9 N R_9 l1 l3 u) u := by
  unfold B_eight_9
  refine KE5_if ?_ ?_
  · skip
    exact KE5_some je5_rf
  · skip
    refine KE5_rd (fun _ => ?_)
    refine KE5_if ?_ ?_
    · skip
      refine KE5_wr ?_
      refine KE5_wr ?_
      refine KE5_wr ?_
      refine KE5_wr ?_
      refine KE5_pu ?_
      exact (e5_B_eight_101 h_R_9).tr (fe5_sI (by decide) (fe5_sA (by decide) (fe5_sA (by decide) (fe5_sB (by decide) (fe5_sB (by decide) je5_rf)))))
    · skip
      refine KE5_rd (fun _ => ?_)
      exact (e5_B_eight_101 h_R_9).tr je5_rf
theorem e5_LP_eight_9 {N : Nat}  (n : Nat) : ∀ a : Int64 × Int32 × RSt, KE5 (LP_eight_9 N n a) a.2.2 := by
  induction n with
  | zero => exact fun a r z e => by have e : (none : Option _) = some (r, z) := e; cases e
  | succ n ih =>
    intro a
    show KE5 (B_eight_9 N (LP_eight_9 N n) a.1 a.2.1 a.2.2) a.2.2
    exact e5_B_eight_9 ih
theorem e5_B_eight_0 {N : Nat} {u : RSt}  : KE5 (B_eight_0 N u) u := by
  unfold B_eight_0
  refine KE5_pu ?_
  exact (e5_LP_eight_9  _ _).tr (fe5_sI (by decide) je5_rf)
theorem e5_F_eight {N : Nat} {u : RSt}  : KE5 (F_eight N u) u := by
  unfold F_eight
  exact e5_B_eight_0.tr je5_rf
def je7 (u w : RSt) : Prop := (∀ k, k ∈ rgI → w.1 k = u.1 k) ∧ (∀ k, k ∈ rgA → w.2.2.1 k = u.2.2.1 k) ∧ (∀ k, k ∈ rgB → w.2.2.2 k = u.2.2.2 k)
def KE7 {β : Type} (x : Option (β × RSt)) (u : RSt) : Prop := ∀ r w, x = some (r, w) → je7 u w
section KE7s
variable {α β γ : Type} {u v w : RSt}
theorem je7_rf : je7 u u := ⟨fun _ _ => rfl, fun _ _ => rfl, fun _ _ => rfl⟩
theorem je7_tr (h : je7 u v) (h2 : je7 v w) : je7 u w := ⟨fun k hk => (h2.1 k hk).trans (h.1 k hk), fun k hk => (h2.2.1 k hk).trans (h.2.1 k hk), fun k hk => (h2.2.2 k hk).trans (h.2.2 k hk)⟩
theorem KE7.tr {x : Option (β × RSt)} (hx : KE7 x w) (h : je7 u w) : KE7 x u := fun r z e => je7_tr h (hx r z e)
theorem fe7_sI {k : Nat} {a : Int32} (hk : k ∉ rgI) (h : je7 u w) : je7 u (sI w k a) := by
  refine je7_tr h ⟨fun j hj => ?_, fun _ _ => rfl, fun _ _ => rfl⟩
  show (if j = k then a else w.1 j) = _
  rw [if_neg (fun z : j = k => hk (z ▸ hj))]
theorem fe7_sL {k : Nat} {a : Int64} (h : je7 u w) : je7 u (sL w k a) := h
theorem fe7_sA {k i : Nat} {a : Int32} (hk : k ∉ rgA) (h : je7 u w) : je7 u (sA w k i a) := by
  refine je7_tr h ⟨fun _ _ => rfl, fun j hj => ?_, fun _ _ => rfl⟩
  show (if j = k then upd (w.2.2.1 k) i a else w.2.2.1 j) = _
  rw [if_neg (fun z : j = k => hk (z ▸ hj))]
theorem fe7_sB {k i : Nat} {a : Int64} (hk : k ∉ rgB) (h : je7 u w) : je7 u (sB w k i a) := by
  refine je7_tr h ⟨fun _ _ => rfl, fun _ _ => rfl, fun j hj => ?_⟩
  show (if j = k then vp_updL (w.2.2.2 k) i a else w.2.2.2 j) = _
  rw [if_neg (fun z : j = k => hk (z ▸ hj))]
theorem KE7_some {r : β} (h : je7 u w) : KE7 (some (r, w)) u := fun _ _ e => by cases e; exact h
theorem KE7_none : KE7 (none : Option (β × RSt)) u := fun _ _ e => nomatch e
theorem KE7_rd {f : Nat → α} {n : Nat} {i : Int32} {k : α → Option (β × RSt)} (h : ∀ a, KE7 (k a) u) : KE7 (rd f n i k) u := by
  intro r z e
  have q : wp (rd f n i k) (fun r' z' => r' = r ∧ z' = z) := ⟨r, z, e, rfl, rfl⟩
  obtain ⟨r1, z1, e1, rfl, rfl⟩ := (wp_rd.mp q).2
  exact h _ _ _ e1
theorem KE7_if {c : Prop} {d : Decidable c} {a b : Option (β × RSt)} (ha : KE7 a u) (hb : KE7 b u) : KE7 (if c then a else b) u := by
  by_cases q : c
  · rw [if_pos q]; exact ha
  · rw [if_neg q]; exact hb
theorem KE7_zr {v : Int32} {x : Option (β × RSt)} (h : KE7 x u) : KE7 (zr v x) u := fun r z e => h r z (zr_of e).2
theorem KE7_nz {v : Int32} {x : Option (β × RSt)} (h : KE7 x u) : KE7 (nz v x) u := fun r z e => h r z (nz_of e).2
theorem KE7_ok {P : Prop} {d : Decidable P} {x : Option (β × RSt)} (h : KE7 x u) : KE7 (ok P d x) u := fun r z e => h r z (ok_of e).2
theorem KE7_pu {x : RSt} {k : RSt → Option (β × RSt)} (h : KE7 (k x) u) : KE7 (pu x k) u := h
theorem KE7_wr {n : Nat} {i : Int32} {x : RSt} {k : RSt → Option (β × RSt)} (h : KE7 (k x) u) : KE7 (wr n i x k) u := by
  intro r z e
  have q : wp (wr n i x k) (fun r' z' => r' = r ∧ z' = z) := ⟨r, z, e, rfl, rfl⟩
  obtain ⟨r1, z1, e1, rfl, rfl⟩ := (wp_wr.mp q).2
  exact h _ _ e1
theorem KE7_bn {x : Option (α × RSt)} {k : α → RSt → Option (β × RSt)} (hx : KE7 x u) (h : ∀ r w, KE7 (k r w) w) : KE7 (bn x k) u := by
  intro r z e
  have q : wp (bn x k) (fun r' z' => r' = r ∧ z' = z) := ⟨r, z, e, rfl, rfl⟩
  obtain ⟨r1, z1, e1, r2, z2, e2, rfl, rfl⟩ := wp_bn.mp q
  exact je7_tr (hx _ _ e1) (h _ _ _ _ e2)
end KE7s

theorem e7_B_read_44 {N : Nat} {R_44 : Int32 × Int32 × Int64 × Int32 × RSt → Option (Int64 × RSt)} {l2 : Int32} {l3 : Int32} {l4 : Int64} {l6 : Int32} {u : RSt} (h_R_44 : ∀ a, KE7 (R_44 a) a.2.2.2.2) : KE7 (B_read_44 N R_44 l2 l3 l4 l6 u) u := by
  unfold B_read_44
  refine KE7_if ?_ ?_
  · skip
    exact KE7_some je7_rf
  · skip
    refine KE7_rd (fun _ => ?_)
    exact (h_R_44 _).tr je7_rf
theorem e7_LP_read_44 {N : Nat}  (n : Nat) : ∀ a : Int32 × Int32 × Int64 × Int32 × RSt, KE7 (LP_read_44 N n a) a.2.2.2.2 := by
  induction n with
  | zero => exact fun a r z e => by have e : (none : Option _) = some (r, z) := e; cases e
  | succ n ih =>
    intro a
    show KE7 (B_read_44 N (LP_read_44 N n) a.1 a.2.1 a.2.2.1 a.2.2.2.1 a.2.2.2.2) a.2.2.2.2
    exact e7_B_read_44 ih
theorem e7_B_read_37 {N : Nat} {l2 : Int32} {s0 : Int32} {u : RSt}  : KE7 (B_read_37 N l2 s0 u) u := by
  unfold B_read_37
  exact (e7_LP_read_44  _ _).tr je7_rf
theorem e7_B_read_0 {N : Nat} {l1 : Int32} {l2 : Int32} {u : RSt}  : KE7 (B_read_0 N l1 l2 u) u := by
  unfold B_read_0
  refine KE7_if ?_ ?_
  · skip
    refine KE7_if ?_ ?_
    · skip
      exact e7_B_read_37.tr je7_rf
    · skip
      exact e7_B_read_37.tr je7_rf
  · skip
    refine KE7_rd (fun _ => ?_)
    exact KE7_some je7_rf
theorem e7_F_read {N : Nat} {l1 : Int32} {l2 : Int32} {u : RSt}  : KE7 (F_read N l1 l2 u) u := by
  unfold F_read
  exact e7_B_read_0.tr je7_rf
theorem e7_B_numberOf_0 {N : Nat} {l1 : Int32} {l2 : Int32} {u : RSt}  : KE7 (B_numberOf_0 N l1 l2 u) u := by
  unfold B_numberOf_0
  refine KE7_rd (fun _ => ?_)
  refine KE7_if ?_ ?_
  · skip
    refine KE7_rd (fun _ => ?_)
    refine KE7_rd (fun _ => ?_)
    refine KE7_bn (e7_F_read.tr je7_rf) (fun _ _ => ?_)
    exact KE7_some je7_rf
  · skip
    refine KE7_rd (fun _ => ?_)
    refine KE7_rd (fun _ => ?_)
    exact KE7_some je7_rf
theorem e7_F_numberOf {N : Nat} {l1 : Int32} {l2 : Int32} {u : RSt}  : KE7 (F_numberOf N l1 l2 u) u := by
  unfold F_numberOf
  exact e7_B_numberOf_0.tr je7_rf
theorem e7_B_hasVariable_25 {N : Nat} {s1 : Int32} {u : RSt}  : KE7 (B_hasVariable_25 N s1 u) u := by
  unfold B_hasVariable_25
  refine KE7_pu ?_
  refine KE7_if ?_ ?_
  · skip
    exact KE7_some (fe7_sI (by decide) je7_rf)
  · skip
    exact KE7_some (fe7_sI (by decide) je7_rf)
theorem e7_B_hasVariable_0 {N : Nat} {l1 : Int32} {u : RSt}  : KE7 (B_hasVariable_0 N l1 u) u := by
  unfold B_hasVariable_0
  refine KE7_rd (fun _ => ?_)
  refine KE7_if ?_ ?_
  · skip
    exact e7_B_hasVariable_25.tr je7_rf
  · skip
    exact e7_B_hasVariable_25.tr je7_rf
theorem e7_F_hasVariable {N : Nat} {l1 : Int32} {u : RSt}  : KE7 (F_hasVariable N l1 u) u := by
  unfold F_hasVariable
  exact e7_B_hasVariable_0.tr je7_rf
theorem e7_B_hasPlace_38 {N : Nat} {u : RSt}  : KE7 (B_hasPlace_38 N u) u := by
  unfold B_hasPlace_38
  refine KE7_if ?_ ?_
  · skip
    exact KE7_some je7_rf
  · skip
    exact KE7_some je7_rf
theorem e7_B_hasPlace_0 {N : Nat} {l1 : Int32} {l2 : Int32} {u : RSt}  : KE7 (B_hasPlace_0 N l1 l2 u) u := by
  unfold B_hasPlace_0
  refine KE7_bn (e7_F_hasVariable.tr je7_rf) (fun _ _ => ?_)
  refine KE7_if ?_ ?_
  · skip
    exact e7_B_hasPlace_38.tr je7_rf
  · skip
    refine KE7_rd (fun _ => ?_)
    refine KE7_if ?_ ?_
    · skip
      refine KE7_pu ?_
      exact e7_B_hasPlace_38.tr (fe7_sI (by decide) je7_rf)
    · skip
      exact e7_B_hasPlace_38.tr je7_rf
theorem e7_F_hasPlace {N : Nat} {l1 : Int32} {l2 : Int32} {u : RSt}  : KE7 (F_hasPlace N l1 l2 u) u := by
  unfold F_hasPlace
  exact e7_B_hasPlace_0.tr je7_rf
theorem e7_B_trace_45 {N : Nat} {R_14 : Int32 × Int32 × Int32 × Int32 × RSt → Option (Int32 × RSt)} {l1 : Int32} {l2 : Int32} {l3 : Int32} {l4 : Int32} {u : RSt} (h_R_14 : ∀ a, KE7 (R_14 a) a.2.2.2.2) : KE7 (B_trace_45 N R_14 l1 l2 l3 l4 u) u := by
  unfold B_trace_45
  exact (h_R_14 _).tr je7_rf
theorem e7_B_trace_164 {N : Nat} {R_164 : Int32 × RSt → Option (Int32 × RSt)} {l6 : Int32} {u : RSt} (h_R_164 : ∀ a, KE7 (R_164 a) a.2) : KE7 (B_trace_164 N R_164 l6 u) u := by
  unfold B_trace_164
  refine KE7_if ?_ ?_
  · skip
    exact KE7_some je7_rf
  · skip
    refine KE7_rd (fun _ => ?_)
    refine KE7_wr ?_
    refine KE7_rd (fun _ => ?_)
    refine KE7_wr ?_
    refine KE7_rd (fun _ => ?_)
    refine KE7_wr ?_
    exact (h_R_164 _).tr (fe7_sB (by decide) (fe7_sA (by decide) (fe7_sA (by decide) je7_rf)))
theorem e7_LP_trace_164 {N : Nat}  (n : Nat) : ∀ a : Int32 × RSt, KE7 (LP_trace_164 N n a) a.2 := by
  induction n with
  | zero => exact fun a r z e => by have e : (none : Option _) = some (r, z) := e; cases e
  | succ n ih =>
    intro a
    show KE7 (B_trace_164 N (LP_trace_164 N n) a.1 a.2) a.2
    exact e7_B_trace_164 ih
theorem e7_B_trace_90 {N : Nat} {l1 : Int32} {l2 : Int32} {l3 : Int32} {l4 : Int32} {l5 : Int32} {u : RSt}  : KE7 (B_trace_90 N l1 l2 l3 l4 l5 u) u := by
  unfold B_trace_90
  refine KE7_if ?_ ?_
  · skip
    exact KE7_some je7_rf
  · skip
    refine KE7_if ?_ ?_
    · skip
      exact KE7_some je7_rf
    · skip
      refine KE7_if ?_ ?_
      · skip
        refine KE7_pu ?_
        exact (e7_LP_trace_164  _ _).tr (fe7_sI (by decide) je7_rf)
      · skip
        refine KE7_wr ?_
        refine KE7_wr ?_
        refine KE7_bn (e7_F_numberOf.tr (fe7_sA (by decide) (fe7_sA (by decide) je7_rf))) (fun _ _ => ?_)
        refine KE7_wr ?_
        refine KE7_pu ?_
        exact KE7_some (fe7_sI (by decide) (fe7_sB (by decide) je7_rf))
theorem e7_B_trace_65 {N : Nat} {l1 : Int32} {l2 : Int32} {l3 : Int32} {l4 : Int32} {s0 : Int32} {u : RSt}  : KE7 (B_trace_65 N l1 l2 l3 l4 s0 u) u := by
  unfold B_trace_65
  refine KE7_if ?_ ?_
  · skip
    exact e7_B_trace_90.tr je7_rf
  · skip
    refine KE7_if ?_ ?_
    · skip
      refine KE7_if ?_ ?_
      · skip
        refine KE7_pu ?_
        exact e7_B_trace_90.tr (fe7_sI (by decide) je7_rf)
      · skip
        exact e7_B_trace_90.tr je7_rf
    · skip
      exact e7_B_trace_90.tr je7_rf
theorem e7_B_trace_51 {N : Nat} {l1 : Int32} {l2 : Int32} {l3 : Int32} {l4 : Int32} {u : RSt}  : KE7 (B_trace_51 N l1 l2 l3 l4 u) u := by
  unfold B_trace_51
  refine KE7_if ?_ ?_
  · skip
    exact e7_B_trace_65.tr je7_rf
  · skip
    exact e7_B_trace_65.tr je7_rf
theorem e7_B_trace_14 {N : Nat} {R_14 : Int32 × Int32 × Int32 × Int32 × RSt → Option (Int32 × RSt)} {l1 : Int32} {l2 : Int32} {l3 : Int32} {l4 : Int32} {u : RSt} (h_R_14 : ∀ a, KE7 (R_14 a) a.2.2.2.2) : KE7 (B_trace_14 N R_14 l1 l2 l3 l4 u) u := by
  unfold B_trace_14
  refine KE7_if ?_ ?_
  · skip
    exact e7_B_trace_51.tr je7_rf
  · skip
    refine KE7_rd (fun _ => ?_)
    refine KE7_if ?_ ?_
    · skip
      refine KE7_rd (fun _ => ?_)
      refine KE7_if ?_ ?_
      · skip
        exact e7_B_trace_51.tr je7_rf
      · skip
        exact (e7_B_trace_45 h_R_14).tr je7_rf
    · skip
      exact (e7_B_trace_45 h_R_14).tr je7_rf
theorem e7_LP_trace_14 {N : Nat}  (n : Nat) : ∀ a : Int32 × Int32 × Int32 × Int32 × RSt, KE7 (LP_trace_14 N n a) a.2.2.2.2 := by
  induction n with
  | zero => exact fun a r z e => by have e : (none : Option _) = some (r, z) := e; cases e
  | succ n ih =>
    intro a
    show KE7 (B_trace_14 N (LP_trace_14 N n) a.1 a.2.1 a.2.2.1 a.2.2.2.1 a.2.2.2.2) a.2.2.2.2
    exact e7_B_trace_14 ih
theorem e7_B_trace_0 {N : Nat} {l1 : Int32} {l2 : Int32} {l3 : Int32} {u : RSt}  : KE7 (B_trace_0 N l1 l2 l3 u) u := by
  unfold B_trace_0
  refine KE7_bn (e7_F_hasPlace.tr je7_rf) (fun _ _ => ?_)
  refine KE7_if ?_ ?_
  · skip
    exact KE7_some je7_rf
  · skip
    exact (e7_LP_trace_14  _ _).tr je7_rf
theorem e7_F_trace {N : Nat} {l1 : Int32} {l2 : Int32} {l3 : Int32} {u : RSt}  : KE7 (F_trace N l1 l2 l3 u) u := by
  unfold F_trace
  exact e7_B_trace_0.tr je7_rf
def je8 (u w : RSt) : Prop := (∀ k, k ∈ rhI → w.1 k = u.1 k) ∧ (∀ k, k ∈ reA → w.2.2.1 k = u.2.2.1 k) ∧ (∀ k, k ∈ reB → w.2.2.2 k = u.2.2.2 k)
def KE8 {β : Type} (x : Option (β × RSt)) (u : RSt) : Prop := ∀ r w, x = some (r, w) → je8 u w
section KE8s
variable {α β γ : Type} {u v w : RSt}
theorem je8_rf : je8 u u := ⟨fun _ _ => rfl, fun _ _ => rfl, fun _ _ => rfl⟩
theorem je8_tr (h : je8 u v) (h2 : je8 v w) : je8 u w := ⟨fun k hk => (h2.1 k hk).trans (h.1 k hk), fun k hk => (h2.2.1 k hk).trans (h.2.1 k hk), fun k hk => (h2.2.2 k hk).trans (h.2.2 k hk)⟩
theorem KE8.tr {x : Option (β × RSt)} (hx : KE8 x w) (h : je8 u w) : KE8 x u := fun r z e => je8_tr h (hx r z e)
theorem fe8_sI {k : Nat} {a : Int32} (hk : k ∉ rhI) (h : je8 u w) : je8 u (sI w k a) := by
  refine je8_tr h ⟨fun j hj => ?_, fun _ _ => rfl, fun _ _ => rfl⟩
  show (if j = k then a else w.1 j) = _
  rw [if_neg (fun z : j = k => hk (z ▸ hj))]
theorem fe8_sL {k : Nat} {a : Int64} (h : je8 u w) : je8 u (sL w k a) := h
theorem fe8_sA {k i : Nat} {a : Int32} (hk : k ∉ reA) (h : je8 u w) : je8 u (sA w k i a) := by
  refine je8_tr h ⟨fun _ _ => rfl, fun j hj => ?_, fun _ _ => rfl⟩
  show (if j = k then upd (w.2.2.1 k) i a else w.2.2.1 j) = _
  rw [if_neg (fun z : j = k => hk (z ▸ hj))]
theorem fe8_sB {k i : Nat} {a : Int64} (hk : k ∉ reB) (h : je8 u w) : je8 u (sB w k i a) := by
  refine je8_tr h ⟨fun _ _ => rfl, fun _ _ => rfl, fun j hj => ?_⟩
  show (if j = k then vp_updL (w.2.2.2 k) i a else w.2.2.2 j) = _
  rw [if_neg (fun z : j = k => hk (z ▸ hj))]
theorem KE8_some {r : β} (h : je8 u w) : KE8 (some (r, w)) u := fun _ _ e => by cases e; exact h
theorem KE8_none : KE8 (none : Option (β × RSt)) u := fun _ _ e => nomatch e
theorem KE8_rd {f : Nat → α} {n : Nat} {i : Int32} {k : α → Option (β × RSt)} (h : ∀ a, KE8 (k a) u) : KE8 (rd f n i k) u := by
  intro r z e
  have q : wp (rd f n i k) (fun r' z' => r' = r ∧ z' = z) := ⟨r, z, e, rfl, rfl⟩
  obtain ⟨r1, z1, e1, rfl, rfl⟩ := (wp_rd.mp q).2
  exact h _ _ _ e1
theorem KE8_if {c : Prop} {d : Decidable c} {a b : Option (β × RSt)} (ha : KE8 a u) (hb : KE8 b u) : KE8 (if c then a else b) u := by
  by_cases q : c
  · rw [if_pos q]; exact ha
  · rw [if_neg q]; exact hb
theorem KE8_zr {v : Int32} {x : Option (β × RSt)} (h : KE8 x u) : KE8 (zr v x) u := fun r z e => h r z (zr_of e).2
theorem KE8_nz {v : Int32} {x : Option (β × RSt)} (h : KE8 x u) : KE8 (nz v x) u := fun r z e => h r z (nz_of e).2
theorem KE8_ok {P : Prop} {d : Decidable P} {x : Option (β × RSt)} (h : KE8 x u) : KE8 (ok P d x) u := fun r z e => h r z (ok_of e).2
theorem KE8_pu {x : RSt} {k : RSt → Option (β × RSt)} (h : KE8 (k x) u) : KE8 (pu x k) u := h
theorem KE8_wr {n : Nat} {i : Int32} {x : RSt} {k : RSt → Option (β × RSt)} (h : KE8 (k x) u) : KE8 (wr n i x k) u := by
  intro r z e
  have q : wp (wr n i x k) (fun r' z' => r' = r ∧ z' = z) := ⟨r, z, e, rfl, rfl⟩
  obtain ⟨r1, z1, e1, rfl, rfl⟩ := (wp_wr.mp q).2
  exact h _ _ e1
theorem KE8_bn {x : Option (α × RSt)} {k : α → RSt → Option (β × RSt)} (hx : KE8 x u) (h : ∀ r w, KE8 (k r w) w) : KE8 (bn x k) u := by
  intro r z e
  have q : wp (bn x k) (fun r' z' => r' = r ∧ z' = z) := ⟨r, z, e, rfl, rfl⟩
  obtain ⟨r1, z1, e1, r2, z2, e2, rfl, rfl⟩ := wp_bn.mp q
  exact je8_tr (hx _ _ e1) (h _ _ _ _ e2)
end KE8s

theorem e8_B_read_44 {N : Nat} {R_44 : Int32 × Int32 × Int64 × Int32 × RSt → Option (Int64 × RSt)} {l2 : Int32} {l3 : Int32} {l4 : Int64} {l6 : Int32} {u : RSt} (h_R_44 : ∀ a, KE8 (R_44 a) a.2.2.2.2) : KE8 (B_read_44 N R_44 l2 l3 l4 l6 u) u := by
  unfold B_read_44
  refine KE8_if ?_ ?_
  · skip
    exact KE8_some je8_rf
  · skip
    refine KE8_rd (fun _ => ?_)
    exact (h_R_44 _).tr je8_rf
theorem e8_LP_read_44 {N : Nat}  (n : Nat) : ∀ a : Int32 × Int32 × Int64 × Int32 × RSt, KE8 (LP_read_44 N n a) a.2.2.2.2 := by
  induction n with
  | zero => exact fun a r z e => by have e : (none : Option _) = some (r, z) := e; cases e
  | succ n ih =>
    intro a
    show KE8 (B_read_44 N (LP_read_44 N n) a.1 a.2.1 a.2.2.1 a.2.2.2.1 a.2.2.2.2) a.2.2.2.2
    exact e8_B_read_44 ih
theorem e8_B_read_37 {N : Nat} {l2 : Int32} {s0 : Int32} {u : RSt}  : KE8 (B_read_37 N l2 s0 u) u := by
  unfold B_read_37
  exact (e8_LP_read_44  _ _).tr je8_rf
theorem e8_B_read_0 {N : Nat} {l1 : Int32} {l2 : Int32} {u : RSt}  : KE8 (B_read_0 N l1 l2 u) u := by
  unfold B_read_0
  refine KE8_if ?_ ?_
  · skip
    refine KE8_if ?_ ?_
    · skip
      exact e8_B_read_37.tr je8_rf
    · skip
      exact e8_B_read_37.tr je8_rf
  · skip
    refine KE8_rd (fun _ => ?_)
    exact KE8_some je8_rf
theorem e8_F_read {N : Nat} {l1 : Int32} {l2 : Int32} {u : RSt}  : KE8 (F_read N l1 l2 u) u := by
  unfold F_read
  exact e8_B_read_0.tr je8_rf
theorem e8_B_write_31 {N : Nat} {R_31 : Int32 × Int64 × Int32 × Int32 × RSt → Option (Int32 × RSt)} {l1 : Int32} {l3 : Int64} {l5 : Int32} {l6 : Int32} {u : RSt} (h_R_31 : ∀ a, KE8 (R_31 a) a.2.2.2.2) : KE8 (B_write_31 N R_31 l1 l3 l5 l6 u) u := by
  unfold B_write_31
  refine KE8_if ?_ ?_
  · skip
    exact KE8_some je8_rf
  · skip
    refine KE8_wr ?_
    exact (h_R_31 _).tr (fe8_sA (by decide) je8_rf)
theorem e8_LP_write_31 {N : Nat}  (n : Nat) : ∀ a : Int32 × Int64 × Int32 × Int32 × RSt, KE8 (LP_write_31 N n a) a.2.2.2.2 := by
  induction n with
  | zero => exact fun a r z e => by have e : (none : Option _) = some (r, z) := e; cases e
  | succ n ih =>
    intro a
    show KE8 (B_write_31 N (LP_write_31 N n) a.1 a.2.1 a.2.2.1 a.2.2.2.1 a.2.2.2.2) a.2.2.2.2
    exact e8_B_write_31 ih
theorem e8_B_write_0 {N : Nat} {l1 : Int32} {l2 : Int32} {l3 : Int64} {u : RSt}  : KE8 (B_write_0 N l1 l2 l3 u) u := by
  unfold B_write_0
  refine KE8_if ?_ ?_
  · skip
    exact (e8_LP_write_31  _ _).tr je8_rf
  · skip
    refine KE8_wr ?_
    exact KE8_some (fe8_sB (by decide) je8_rf)
theorem e8_F_write {N : Nat} {l1 : Int32} {l2 : Int32} {l3 : Int64} {u : RSt}  : KE8 (F_write N l1 l2 l3 u) u := by
  unfold F_write
  exact e8_B_write_0.tr je8_rf
theorem e8_B_stops_0 {N : Nat} {l1 : Int32} {l2 : Int32} {u : RSt}  : KE8 (B_stops_0 N l1 l2 u) u := by
  unfold B_stops_0
  refine KE8_pu ?_
  refine KE8_pu ?_
  exact KE8_some (fe8_sI (by decide) (fe8_sI (by decide) je8_rf))
theorem e8_F_stops {N : Nat} {l1 : Int32} {l2 : Int32} {u : RSt}  : KE8 (F_stops N l1 l2 u) u := by
  unfold F_stops
  exact e8_B_stops_0.tr je8_rf
theorem e8_B_mayCall_0 {N : Nat} {l1 : Int32} {u : RSt}  : KE8 (B_mayCall_0 N l1 u) u := by
  unfold B_mayCall_0
  refine KE8_if ?_ ?_
  · skip
    refine KE8_bn (e8_F_stops.tr je8_rf) (fun _ _ => ?_)
    exact KE8_some je8_rf
  · skip
    refine KE8_wr ?_
    refine KE8_wr ?_
    refine KE8_wr ?_
    exact KE8_some (fe8_sA (by decide) (fe8_sA (by decide) (fe8_sA (by decide) je8_rf)))
theorem e8_F_mayCall {N : Nat} {l1 : Int32} {u : RSt}  : KE8 (F_mayCall N l1 u) u := by
  unfold F_mayCall
  exact e8_B_mayCall_0.tr je8_rf
theorem e8_B_enter_120 {N : Nat} {R_39 : Int32 × Int32 × Int32 × Int32 × Int32 × RSt → Option (Int32 × RSt)} {R_53 : Int32 × Int32 × Int32 × Int32 × Int32 × Int32 × RSt → Option (Int32 × RSt)} {l1 : Int32} {l2 : Int32} {l3 : Int32} {l4 : Int32} {l5 : Int32} {l6 : Int32} {s1 : Int32} {s2 : Int64} {u : RSt} (h_R_39 : ∀ a, KE8 (R_39 a) a.2.2.2.2.2) (h_R_53 : ∀ a, KE8 (R_53 a) a.2.2.2.2.2.2) : KE8 (B_enter_120 N R_39 R_53 l1 l2 l3 l4 l5 l6 s1 s2 u) u := by
  unfold B_enter_120
  refine KE8_wr ?_
  exact (h_R_53 _).tr (fe8_sB (by decide) je8_rf)
theorem e8_B_enter_53 {N : Nat} {R_39 : Int32 × Int32 × Int32 × Int32 × Int32 × RSt → Option (Int32 × RSt)} {R_53 : Int32 × Int32 × Int32 × Int32 × Int32 × Int32 × RSt → Option (Int32 × RSt)} {l1 : Int32} {l2 : Int32} {l3 : Int32} {l4 : Int32} {l5 : Int32} {l6 : Int32} {u : RSt} (h_R_39 : ∀ a, KE8 (R_39 a) a.2.2.2.2.2) (h_R_53 : ∀ a, KE8 (R_53 a) a.2.2.2.2.2.2) : KE8 (B_enter_53 N R_39 R_53 l1 l2 l3 l4 l5 l6 u) u := by
  unfold B_enter_53
  refine KE8_rd (fun _ => ?_)
  refine KE8_if ?_ ?_
  · skip
    exact (h_R_39 _).tr je8_rf
  · skip
    refine KE8_rd (fun _ => ?_)
    refine KE8_if ?_ ?_
    · skip
      refine KE8_rd (fun _ => ?_)
      exact (e8_B_enter_120 h_R_39 h_R_53).tr je8_rf
    · skip
      refine KE8_rd (fun _ => ?_)
      exact (e8_B_enter_120 h_R_39 h_R_53).tr je8_rf
theorem e8_LP_enter_53 {N : Nat} {R_39 : Int32 × Int32 × Int32 × Int32 × Int32 × RSt → Option (Int32 × RSt)} (h_R_39 : ∀ a, KE8 (R_39 a) a.2.2.2.2.2) (n : Nat) : ∀ a : Int32 × Int32 × Int32 × Int32 × Int32 × Int32 × RSt, KE8 (LP_enter_53 N R_39 n a) a.2.2.2.2.2.2 := by
  induction n with
  | zero => exact fun a r z e => by have e : (none : Option _) = some (r, z) := e; cases e
  | succ n ih =>
    intro a
    show KE8 (B_enter_53 N R_39 (LP_enter_53 N R_39 n) a.1 a.2.1 a.2.2.1 a.2.2.2.1 a.2.2.2.2.1 a.2.2.2.2.2.1 a.2.2.2.2.2.2) a.2.2.2.2.2.2
    exact e8_B_enter_53 h_R_39 ih
theorem e8_B_enter_39 {N : Nat} {R_39 : Int32 × Int32 × Int32 × Int32 × Int32 × RSt → Option (Int32 × RSt)} {l1 : Int32} {l2 : Int32} {l3 : Int32} {l4 : Int32} {l5 : Int32} {u : RSt} (h_R_39 : ∀ a, KE8 (R_39 a) a.2.2.2.2.2) : KE8 (B_enter_39 N R_39 l1 l2 l3 l4 l5 u) u := by
  unfold B_enter_39
  refine KE8_rd (fun _ => ?_)
  refine KE8_if ?_ ?_
  · skip
    refine KE8_pu ?_
    refine KE8_wr ?_
    refine KE8_pu ?_
    refine KE8_pu ?_
    refine KE8_rd (fun _ => ?_)
    refine KE8_pu ?_
    exact KE8_some (fe8_sI (by decide) (fe8_sI (by decide) (fe8_sI (by decide) (fe8_sA (by decide) (fe8_sI (by decide) je8_rf)))))
  · skip
    exact (e8_LP_enter_53 h_R_39 _ _).tr je8_rf
theorem e8_LP_enter_39 {N : Nat}  (n : Nat) : ∀ a : Int32 × Int32 × Int32 × Int32 × Int32 × RSt, KE8 (LP_enter_39 N n a) a.2.2.2.2.2 := by
  induction n with
  | zero => exact fun a r z e => by have e : (none : Option _) = some (r, z) := e; cases e
  | succ n ih =>
    intro a
    show KE8 (B_enter_39 N (LP_enter_39 N n) a.1 a.2.1 a.2.2.1 a.2.2.2.1 a.2.2.2.2.1 a.2.2.2.2.2) a.2.2.2.2.2
    exact e8_B_enter_39 ih
theorem e8_B_enter_0 {N : Nat} {l1 : Int32} {u : RSt}  : KE8 (B_enter_0 N l1 u) u := by
  unfold B_enter_0
  refine KE8_rd (fun _ => ?_)
  refine KE8_rd (fun _ => ?_)
  exact (e8_LP_enter_39  _ _).tr je8_rf
theorem e8_F_enter {N : Nat} {l1 : Int32} {u : RSt}  : KE8 (F_enter N l1 u) u := by
  unfold F_enter
  exact e8_B_enter_0.tr je8_rf
theorem e8_B_leave_0 {N : Nat} {u : RSt}  : KE8 (B_leave_0 N u) u := by
  unfold B_leave_0
  refine KE8_pu ?_
  refine KE8_rd (fun _ => ?_)
  refine KE8_pu ?_
  refine KE8_rd (fun _ => ?_)
  refine KE8_pu ?_
  refine KE8_rd (fun _ => ?_)
  refine KE8_pu ?_
  refine KE8_rd (fun _ => ?_)
  refine KE8_pu ?_
  exact KE8_some (fe8_sI (by decide) (fe8_sI (by decide) (fe8_sI (by decide) (fe8_sI (by decide) (fe8_sI (by decide) je8_rf)))))
theorem e8_F_leave {N : Nat} {u : RSt}  : KE8 (F_leave N u) u := by
  unfold F_leave
  exact e8_B_leave_0.tr je8_rf
theorem e8_B_run_1519 {N : Nat} {R_39 : Int32 × RSt → Option (Int32 × RSt)} {l2 : Int32} {u : RSt} (h_R_39 : ∀ a, KE8 (R_39 a) a.2) : KE8 (B_run_1519 N R_39 l2 u) u := by
  unfold B_run_1519
  exact (h_R_39 _).tr je8_rf
theorem e8_B_run_483 {N : Nat} {R_39 : Int32 × RSt → Option (Int32 × RSt)} {l2 : Int32} {l5 : Int32} {u : RSt} (h_R_39 : ∀ a, KE8 (R_39 a) a.2) : KE8 (B_run_483 N R_39 l2 l5 u) u := by
  unfold B_run_483
  refine KE8_bn (e8_F_stops.tr je8_rf) (fun _ _ => ?_)
  exact (e8_B_run_1519 h_R_39).tr je8_rf
theorem e8_B_run_685 {N : Nat} {R_39 : Int32 × RSt → Option (Int32 × RSt)} {l2 : Int32} {s1 : Int32} {s2 : Int32} {s3 : Int64} {u : RSt} (h_R_39 : ∀ a, KE8 (R_39 a) a.2) : KE8 (B_run_685 N R_39 l2 s1 s2 s3 u) u := by
  unfold B_run_685
  refine KE8_bn (e8_F_write.tr je8_rf) (fun _ _ => ?_)
  exact (e8_B_run_1519 h_R_39).tr je8_rf
theorem e8_B_run_799 {N : Nat} {R_39 : Int32 × RSt → Option (Int32 × RSt)} {l2 : Int32} {s1 : Int32} {s2 : Int32} {s3 : Int32} {u : RSt} (h_R_39 : ∀ a, KE8 (R_39 a) a.2) : KE8 (B_run_799 N R_39 l2 s1 s2 s3 u) u := by
  unfold B_run_799
  refine KE8_rd (fun _ => ?_)
  refine KE8_rd (fun _ => ?_)
  refine KE8_ok ?_
  refine KE8_wr ?_
  exact (e8_B_run_1519 h_R_39).tr (fe8_sB (by decide) je8_rf)
theorem e8_B_run_771 {N : Nat} {R_39 : Int32 × RSt → Option (Int32 × RSt)} {l2 : Int32} {l3 : Int32} {l4 : Int32} {u : RSt} (h_R_39 : ∀ a, KE8 (R_39 a) a.2) : KE8 (B_run_771 N R_39 l2 l3 l4 u) u := by
  unfold B_run_771
  refine KE8_rd (fun _ => ?_)
  refine KE8_if ?_ ?_
  · skip
    exact (e8_B_run_799 h_R_39).tr je8_rf
  · skip
    exact (e8_B_run_799 h_R_39).tr je8_rf
theorem e8_B_run_747 {N : Nat} {R_39 : Int32 × RSt → Option (Int32 × RSt)} {l2 : Int32} {l3 : Int32} {l4 : Int32} {l5 : Int32} {u : RSt} (h_R_39 : ∀ a, KE8 (R_39 a) a.2) : KE8 (B_run_747 N R_39 l2 l3 l4 l5 u) u := by
  unfold B_run_747
  refine KE8_rd (fun _ => ?_)
  refine KE8_if ?_ ?_
  · skip
    refine KE8_bn (e8_F_stops.tr je8_rf) (fun _ _ => ?_)
    exact (e8_B_run_1519 h_R_39).tr je8_rf
  · skip
    exact (e8_B_run_771 h_R_39).tr je8_rf
theorem e8_B_run_847 {N : Nat} {R_39 : Int32 × RSt → Option (Int32 × RSt)} {l2 : Int32} {s1 : Int32} {s2 : Int32} {u : RSt} (h_R_39 : ∀ a, KE8 (R_39 a) a.2) : KE8 (B_run_847 N R_39 l2 s1 s2 u) u := by
  unfold B_run_847
  refine KE8_rd (fun _ => ?_)
  refine KE8_wr ?_
  exact (e8_B_run_1519 h_R_39).tr (fe8_sB (by decide) je8_rf)
theorem e8_B_run_926 {N : Nat} {R_39 : Int32 × RSt → Option (Int32 × RSt)} {l2 : Int32} {s1 : Int32} {s2 : Int64} {u : RSt} (h_R_39 : ∀ a, KE8 (R_39 a) a.2) : KE8 (B_run_926 N R_39 l2 s1 s2 u) u := by
  unfold B_run_926
  refine KE8_wr ?_
  exact (e8_B_run_1519 h_R_39).tr (fe8_sB (by decide) je8_rf)
theorem e8_B_run_1066 {N : Nat} {R_39 : Int32 × RSt → Option (Int32 × RSt)} {l2 : Int32} {s1 : Int32} {s2 : Int64} {u : RSt} (h_R_39 : ∀ a, KE8 (R_39 a) a.2) : KE8 (B_run_1066 N R_39 l2 s1 s2 u) u := by
  unfold B_run_1066
  refine KE8_wr ?_
  exact (e8_B_run_1519 h_R_39).tr (fe8_sB (by decide) je8_rf)
theorem e8_B_run_1114 {N : Nat} {R_39 : Int32 × RSt → Option (Int32 × RSt)} {l2 : Int32} {s1 : Int32} {s2 : Int32} {s3 : Int32} {u : RSt} (h_R_39 : ∀ a, KE8 (R_39 a) a.2) : KE8 (B_run_1114 N R_39 l2 s1 s2 s3 u) u := by
  unfold B_run_1114
  refine KE8_rd (fun _ => ?_)
  refine KE8_rd (fun _ => ?_)
  refine KE8_wr ?_
  exact (e8_B_run_1519 h_R_39).tr (fe8_sB (by decide) je8_rf)
theorem e8_B_run_1164 {N : Nat} {R_39 : Int32 × RSt → Option (Int32 × RSt)} {l2 : Int32} {s1 : Int32} {s2 : Int32} {s3 : Int32} {u : RSt} (h_R_39 : ∀ a, KE8 (R_39 a) a.2) : KE8 (B_run_1164 N R_39 l2 s1 s2 s3 u) u := by
  unfold B_run_1164
  refine KE8_rd (fun _ => ?_)
  refine KE8_wr ?_
  exact (e8_B_run_1519 h_R_39).tr (fe8_sB (by decide) je8_rf)
theorem e8_B_run_1141 {N : Nat} {R_39 : Int32 × RSt → Option (Int32 × RSt)} {l2 : Int32} {l4 : Int32} {l5 : Int32} {u : RSt} (h_R_39 : ∀ a, KE8 (R_39 a) a.2) : KE8 (B_run_1141 N R_39 l2 l4 l5 u) u := by
  unfold B_run_1141
  refine KE8_if ?_ ?_
  · skip
    exact (e8_B_run_1164 h_R_39).tr je8_rf
  · skip
    exact (e8_B_run_1164 h_R_39).tr je8_rf
theorem e8_B_run_39 {N : Nat} {R_39 : Int32 × RSt → Option (Int32 × RSt)} {l2 : Int32} {u : RSt} (h_R_39 : ∀ a, KE8 (R_39 a) a.2) : KE8 (B_run_39 N R_39 l2 u) u := by
  unfold B_run_39
  refine KE8_if ?_ ?_
  · skip
    exact KE8_some je8_rf
  · skip
    refine KE8_if ?_ ?_
    · skip
      refine KE8_pu ?_
      refine KE8_rd (fun _ => ?_)
      refine KE8_rd (fun _ => ?_)
      refine KE8_rd (fun _ => ?_)
      refine KE8_if ?_ ?_
      · skip
        refine KE8_if ?_ ?_
        · skip
          refine KE8_bn (e8_F_stops.tr (fe8_sI (by decide) je8_rf)) (fun _ _ => ?_)
          exact (e8_B_run_1519 h_R_39).tr je8_rf
        · skip
          refine KE8_pu ?_
          exact (e8_B_run_1519 h_R_39).tr (fe8_sI (by decide) (fe8_sI (by decide) je8_rf))
      · skip
        refine KE8_if ?_ ?_
        · skip
          refine KE8_pu ?_
          refine KE8_rd (fun _ => ?_)
          refine KE8_wr ?_
          exact (e8_B_run_1519 h_R_39).tr (fe8_sB (by decide) (fe8_sI (by decide) (fe8_sI (by decide) je8_rf)))
        · skip
          refine KE8_if ?_ ?_
          · skip
            refine KE8_pu ?_
            refine KE8_wr ?_
            exact (e8_B_run_1519 h_R_39).tr (fe8_sB (by decide) (fe8_sI (by decide) (fe8_sI (by decide) je8_rf)))
          · skip
            refine KE8_if ?_ ?_
            · skip
              refine KE8_pu ?_
              refine KE8_wr ?_
              exact (e8_B_run_1519 h_R_39).tr (fe8_sB (by decide) (fe8_sI (by decide) (fe8_sI (by decide) je8_rf)))
            · skip
              refine KE8_if ?_ ?_
              · skip
                refine KE8_pu ?_
                refine KE8_wr ?_
                exact (e8_B_run_1519 h_R_39).tr (fe8_sB (by decide) (fe8_sI (by decide) (fe8_sI (by decide) je8_rf)))
              · skip
                refine KE8_if ?_ ?_
                · skip
                  refine KE8_pu ?_
                  refine KE8_wr ?_
                  exact (e8_B_run_1519 h_R_39).tr (fe8_sB (by decide) (fe8_sI (by decide) (fe8_sI (by decide) je8_rf)))
                · skip
                  refine KE8_if ?_ ?_
                  · skip
                    refine KE8_rd (fun _ => ?_)
                    refine KE8_rd (fun _ => ?_)
                    refine KE8_wr ?_
                    refine KE8_pu ?_
                    exact (e8_B_run_1519 h_R_39).tr (fe8_sI (by decide) (fe8_sB (by decide) (fe8_sI (by decide) je8_rf)))
                  · skip
                    refine KE8_if ?_ ?_
                    · skip
                      refine KE8_rd (fun _ => ?_)
                      refine KE8_if ?_ ?_
                      · skip
                        exact (e8_B_run_483 h_R_39).tr (fe8_sI (by decide) je8_rf)
                      · skip
                        refine KE8_rd (fun _ => ?_)
                        refine KE8_if ?_ ?_
                        · skip
                          exact (e8_B_run_1519 h_R_39).tr (fe8_sI (by decide) je8_rf)
                        · skip
                          exact (e8_B_run_483 h_R_39).tr (fe8_sI (by decide) je8_rf)
                    · skip
                      refine KE8_if ?_ ?_
                      · skip
                        refine KE8_rd (fun _ => ?_)
                        refine KE8_bn (e8_F_read.tr (fe8_sI (by decide) je8_rf)) (fun _ _ => ?_)
                        refine KE8_wr ?_
                        exact (e8_B_run_1519 h_R_39).tr (fe8_sB (by decide) je8_rf)
                      · skip
                        refine KE8_if ?_ ?_
                        · skip
                          refine KE8_rd (fun _ => ?_)
                          refine KE8_bn (e8_F_read.tr (fe8_sI (by decide) je8_rf)) (fun _ _ => ?_)
                          refine KE8_wr ?_
                          refine KE8_pu ?_
                          exact (e8_B_run_1519 h_R_39).tr (fe8_sI (by decide) (fe8_sB (by decide) je8_rf))
                        · skip
                          refine KE8_if ?_ ?_
                          · skip
                            refine KE8_pu ?_
                            refine KE8_rd (fun _ => ?_)
                            refine KE8_rd (fun _ => ?_)
                            refine KE8_bn (e8_F_write.tr (fe8_sI (by decide) (fe8_sI (by decide) je8_rf))) (fun _ _ => ?_)
                            exact (e8_B_run_1519 h_R_39).tr je8_rf
                          · skip
                            refine KE8_if ?_ ?_
                            · skip
                              refine KE8_pu ?_
                              refine KE8_rd (fun _ => ?_)
                              refine KE8_bn (e8_F_read.tr (fe8_sI (by decide) (fe8_sI (by decide) je8_rf))) (fun _ _ => ?_)
                              refine KE8_rd (fun _ => ?_)
                              refine KE8_rd (fun _ => ?_)
                              refine KE8_if ?_ ?_
                              · skip
                                exact (e8_B_run_685 h_R_39).tr je8_rf
                              · skip
                                exact (e8_B_run_685 h_R_39).tr je8_rf
                            · skip
                              refine KE8_if ?_ ?_
                              · skip
                                refine KE8_rd (fun _ => ?_)
                                refine KE8_wr ?_
                                exact (e8_B_run_1519 h_R_39).tr (fe8_sB (by decide) (fe8_sI (by decide) je8_rf))
                              · skip
                                refine KE8_if ?_ ?_
                                · skip
                                  refine KE8_pu ?_
                                  refine KE8_if ?_ ?_
                                  · skip
                                    exact (e8_B_run_747 h_R_39).tr (fe8_sI (by decide) (fe8_sI (by decide) je8_rf))
                                  · skip
                                    refine KE8_if ?_ ?_
                                    · skip
                                      exact (e8_B_run_747 h_R_39).tr (fe8_sI (by decide) (fe8_sI (by decide) je8_rf))
                                    · skip
                                      exact (e8_B_run_771 h_R_39).tr (fe8_sI (by decide) (fe8_sI (by decide) je8_rf))
                                · skip
                                  refine KE8_if ?_ ?_
                                  · skip
                                    refine KE8_if ?_ ?_
                                    · skip
                                      exact (e8_B_run_847 h_R_39).tr (fe8_sI (by decide) je8_rf)
                                    · skip
                                      exact (e8_B_run_847 h_R_39).tr (fe8_sI (by decide) je8_rf)
                                  · skip
                                    refine KE8_if ?_ ?_
                                    · skip
                                      refine KE8_rd (fun _ => ?_)
                                      refine KE8_wr ?_
                                      exact (e8_B_run_1519 h_R_39).tr (fe8_sB (by decide) (fe8_sI (by decide) je8_rf))
                                    · skip
                                      refine KE8_if ?_ ?_
                                      · skip
                                        refine KE8_rd (fun _ => ?_)
                                        refine KE8_if ?_ ?_
                                        · skip
                                          exact (e8_B_run_926 h_R_39).tr (fe8_sI (by decide) je8_rf)
                                        · skip
                                          exact (e8_B_run_926 h_R_39).tr (fe8_sI (by decide) je8_rf)
                                      · skip
                                        refine KE8_if ?_ ?_
                                        · skip
                                          refine KE8_rd (fun _ => ?_)
                                          refine KE8_wr ?_
                                          exact (e8_B_run_1519 h_R_39).tr (fe8_sB (by decide) (fe8_sI (by decide) je8_rf))
                                        · skip
                                          refine KE8_if ?_ ?_
                                          · skip
                                            refine KE8_pu ?_
                                            refine KE8_rd (fun _ => ?_)
                                            refine KE8_if ?_ ?_
                                            · skip
                                              refine KE8_pu ?_
                                              exact (e8_B_run_1519 h_R_39).tr (fe8_sI (by decide) (fe8_sI (by decide) (fe8_sI (by decide) je8_rf)))
                                            · skip
                                              exact (e8_B_run_1519 h_R_39).tr (fe8_sI (by decide) (fe8_sI (by decide) je8_rf))
                                          · skip
                                            refine KE8_if ?_ ?_
                                            · skip
                                              refine KE8_pu ?_
                                              refine KE8_rd (fun _ => ?_)
                                              refine KE8_if ?_ ?_
                                              · skip
                                                exact (e8_B_run_1519 h_R_39).tr (fe8_sI (by decide) (fe8_sI (by decide) je8_rf))
                                              · skip
                                                refine KE8_pu ?_
                                                exact (e8_B_run_1519 h_R_39).tr (fe8_sI (by decide) (fe8_sI (by decide) (fe8_sI (by decide) je8_rf)))
                                            · skip
                                              refine KE8_if ?_ ?_
                                              · skip
                                                refine KE8_pu ?_
                                                exact (e8_B_run_1519 h_R_39).tr (fe8_sI (by decide) (fe8_sI (by decide) je8_rf))
                                              · skip
                                                refine KE8_if ?_ ?_
                                                · skip
                                                  refine KE8_rd (fun _ => ?_)
                                                  refine KE8_if ?_ ?_
                                                  · skip
                                                    exact (e8_B_run_1066 h_R_39).tr (fe8_sI (by decide) je8_rf)
                                                  · skip
                                                    exact (e8_B_run_1066 h_R_39).tr (fe8_sI (by decide) je8_rf)
                                                · skip
                                                  refine KE8_if ?_ ?_
                                                  · skip
                                                    refine KE8_if ?_ ?_
                                                    · skip
                                                      exact (e8_B_run_1141 h_R_39).tr (fe8_sI (by decide) je8_rf)
                                                    · skip
                                                      refine KE8_if ?_ ?_
                                                      · skip
                                                        exact (e8_B_run_1141 h_R_39).tr (fe8_sI (by decide) je8_rf)
                                                      · skip
                                                        refine KE8_pu ?_
                                                        refine KE8_if ?_ ?_
                                                        · skip
                                                          exact (e8_B_run_1114 h_R_39).tr (fe8_sI (by decide) (fe8_sI (by decide) je8_rf))
                                                        · skip
                                                          exact (e8_B_run_1114 h_R_39).tr (fe8_sI (by decide) (fe8_sI (by decide) je8_rf))
                                                  · skip
                                                    refine KE8_if ?_ ?_
                                                    · skip
                                                      refine KE8_bn (e8_F_mayCall.tr (fe8_sI (by decide) je8_rf)) (fun _ _ => ?_)
                                                      refine KE8_if ?_ ?_
                                                      · skip
                                                        exact (e8_B_run_1519 h_R_39).tr je8_rf
                                                      · skip
                                                        refine KE8_bn (e8_F_enter.tr je8_rf) (fun _ _ => ?_)
                                                        exact (e8_B_run_1519 h_R_39).tr je8_rf
                                                    · skip
                                                      refine KE8_if ?_ ?_
                                                      · skip
                                                        refine KE8_bn (e8_F_mayCall.tr (fe8_sI (by decide) je8_rf)) (fun _ _ => ?_)
                                                        refine KE8_if ?_ ?_
                                                        · skip
                                                          exact (e8_B_run_1519 h_R_39).tr je8_rf
                                                        · skip
                                                          refine KE8_wr ?_
                                                          refine KE8_pu ?_
                                                          refine KE8_rd (fun _ => ?_)
                                                          refine KE8_pu ?_
                                                          refine KE8_rd (fun _ => ?_)
                                                          refine KE8_rd (fun _ => ?_)
                                                          refine KE8_pu ?_
                                                          exact (e8_B_run_1519 h_R_39).tr (fe8_sI (by decide) (fe8_sI (by decide) (fe8_sI (by decide) (fe8_sA (by decide) je8_rf))))
                                                      · skip
                                                        refine KE8_if ?_ ?_
                                                        · skip
                                                          refine KE8_if ?_ ?_
                                                          · skip
                                                            exact (e8_B_run_1519 h_R_39).tr (fe8_sI (by decide) je8_rf)
                                                          · skip
                                                            refine KE8_bn (e8_F_leave.tr (fe8_sI (by decide) je8_rf)) (fun _ _ => ?_)
                                                            exact (e8_B_run_1519 h_R_39).tr je8_rf
                                                        · skip
                                                          refine KE8_if ?_ ?_
                                                          · skip
                                                            refine KE8_rd (fun _ => ?_)
                                                            refine KE8_bn (e8_F_leave.tr (fe8_sI (by decide) je8_rf)) (fun _ _ => ?_)
                                                            refine KE8_pu ?_
                                                            refine KE8_wr ?_
                                                            exact (e8_B_run_1519 h_R_39).tr (fe8_sB (by decide) (fe8_sI (by decide) je8_rf))
                                                          · skip
                                                            refine KE8_if ?_ ?_
                                                            · skip
                                                              refine KE8_pu ?_
                                                              refine KE8_rd (fun _ => ?_)
                                                              refine KE8_pu ?_
                                                              refine KE8_bn (e8_F_stops.tr (fe8_sL (fe8_sI (by decide) (fe8_sI (by decide) je8_rf)))) (fun _ _ => ?_)
                                                              exact (e8_B_run_1519 h_R_39).tr je8_rf
                                                            · skip
                                                              refine KE8_if ?_ ?_
                                                              · skip
                                                                refine KE8_rd (fun _ => ?_)
                                                                refine KE8_rd (fun _ => ?_)
                                                                refine KE8_if ?_ ?_
                                                                · skip
                                                                  exact (e8_B_run_1519 h_R_39).tr (fe8_sI (by decide) je8_rf)
                                                                · skip
                                                                  refine KE8_rd (fun _ => ?_)
                                                                  refine KE8_rd (fun _ => ?_)
                                                                  refine KE8_if ?_ ?_
                                                                  · skip
                                                                    exact (e8_B_run_1519 h_R_39).tr (fe8_sI (by decide) je8_rf)
                                                                  · skip
                                                                    refine KE8_pu ?_
                                                                    refine KE8_pu ?_
                                                                    exact (e8_B_run_1519 h_R_39).tr (fe8_sI (by decide) (fe8_sI (by decide) (fe8_sI (by decide) je8_rf)))
                                                              · skip
                                                                refine KE8_if ?_ ?_
                                                                · skip
                                                                  refine KE8_pu ?_
                                                                  exact (e8_B_run_1519 h_R_39).tr (fe8_sI (by decide) (fe8_sI (by decide) je8_rf))
                                                                · skip
                                                                  refine KE8_if ?_ ?_
                                                                  · skip
                                                                    refine KE8_pu ?_
                                                                    refine KE8_rd (fun _ => ?_)
                                                                    refine KE8_rd (fun _ => ?_)
                                                                    refine KE8_if ?_ ?_
                                                                    · skip
                                                                      exact (e8_B_run_1519 h_R_39).tr (fe8_sI (by decide) (fe8_sI (by decide) je8_rf))
                                                                    · skip
                                                                      refine KE8_pu ?_
                                                                      exact (e8_B_run_1519 h_R_39).tr (fe8_sI (by decide) (fe8_sI (by decide) (fe8_sI (by decide) je8_rf)))
                                                                  · skip
                                                                    refine KE8_pu ?_
                                                                    refine KE8_rd (fun _ => ?_)
                                                                    refine KE8_rd (fun _ => ?_)
                                                                    refine KE8_if ?_ ?_
                                                                    · skip
                                                                      refine KE8_pu ?_
                                                                      exact (e8_B_run_1519 h_R_39).tr (fe8_sI (by decide) (fe8_sI (by decide) (fe8_sI (by decide) je8_rf)))
                                                                    · skip
                                                                      exact (e8_B_run_1519 h_R_39).tr (fe8_sI (by decide) (fe8_sI (by decide) je8_rf))
    · skip
      exact KE8_some je8_rf
theorem e8_LP_run_39 {N : Nat}  (n : Nat) : ∀ a : Int32 × RSt, KE8 (LP_run_39 N n a) a.2 := by
  induction n with
  | zero => exact fun a r z e => by have e : (none : Option _) = some (r, z) := e; cases e
  | succ n ih =>
    intro a
    show KE8 (B_run_39 N (LP_run_39 N n) a.1 a.2) a.2
    exact e8_B_run_39 ih
theorem e8_B_run_0 {N : Nat} {l1 : Int32} {u : RSt}  : KE8 (B_run_0 N l1 u) u := by
  unfold B_run_0
  refine KE8_pu ?_
  refine KE8_pu ?_
  refine KE8_pu ?_
  refine KE8_pu ?_
  refine KE8_pu ?_
  refine KE8_pu ?_
  refine KE8_pu ?_
  exact (e8_LP_run_39  _ _).tr (fe8_sI (by decide) (fe8_sI (by decide) (fe8_sI (by decide) (fe8_sI (by decide) (fe8_sI (by decide) (fe8_sI (by decide) (fe8_sI (by decide) je8_rf)))))))
theorem e8_F_run {N : Nat} {l1 : Int32} {u : RSt}  : KE8 (F_run N l1 u) u := by
  unfold F_run
  exact e8_B_run_0.tr je8_rf
theorem e8_B_runTask_0 {N : Nat} {l1 : Int32} {u : RSt}  : KE8 (B_runTask_0 N l1 u) u := by
  unfold B_runTask_0
  refine KE8_rd (fun _ => ?_)
  refine KE8_wr ?_
  refine KE8_rd (fun _ => ?_)
  refine KE8_bn (e8_F_run.tr (fe8_sA (by decide) je8_rf)) (fun _ _ => ?_)
  refine KE8_wr ?_
  refine KE8_if ?_ ?_
  · skip
    exact KE8_some (fe8_sA (by decide) je8_rf)
  · skip
    refine KE8_wr ?_
    refine KE8_wr ?_
    refine KE8_wr ?_
    refine KE8_wr ?_
    refine KE8_if ?_ ?_
    · skip
      refine KE8_wr ?_
      exact KE8_some (fe8_sA (by decide) (fe8_sA (by decide) (fe8_sA (by decide) (fe8_sA (by decide) (fe8_sA (by decide) (fe8_sA (by decide) je8_rf))))))
    · skip
      refine KE8_wr ?_
      exact KE8_some (fe8_sA (by decide) (fe8_sA (by decide) (fe8_sA (by decide) (fe8_sA (by decide) (fe8_sA (by decide) (fe8_sA (by decide) je8_rf))))))
theorem e8_F_runTask {N : Nat} {l1 : Int32} {u : RSt}  : KE8 (F_runTask N l1 u) u := by
  unfold F_runTask
  exact e8_B_runTask_0.tr je8_rf
theorem e8_B_forces_2 {N : Nat} {R_2 : Int32 × Int32 × RSt → Option (Int32 × RSt)} {l1 : Int32} {l2 : Int32} {u : RSt} (h_R_2 : ∀ a, KE8 (R_2 a) a.2.2) : KE8 (B_forces_2 N R_2 l1 l2 u) u := by
  unfold B_forces_2
  refine KE8_if ?_ ?_
  · skip
    exact KE8_some je8_rf
  · skip
    refine KE8_rd (fun _ => ?_)
    refine KE8_rd (fun _ => ?_)
    refine KE8_rd (fun _ => ?_)
    refine KE8_wr ?_
    exact (h_R_2 _).tr (fe8_sA (by decide) je8_rf)
theorem e8_LP_forces_2 {N : Nat}  (n : Nat) : ∀ a : Int32 × Int32 × RSt, KE8 (LP_forces_2 N n a) a.2.2 := by
  induction n with
  | zero => exact fun a r z e => by have e : (none : Option _) = some (r, z) := e; cases e
  | succ n ih =>
    intro a
    show KE8 (B_forces_2 N (LP_forces_2 N n) a.1 a.2.1 a.2.2) a.2.2
    exact e8_B_forces_2 ih
theorem e8_B_forces_0 {N : Nat} {l1 : Int32} {u : RSt}  : KE8 (B_forces_0 N l1 u) u := by
  unfold B_forces_0
  exact (e8_LP_forces_2  _ _).tr je8_rf
theorem e8_F_forces {N : Nat} {l1 : Int32} {u : RSt}  : KE8 (F_forces N l1 u) u := by
  unfold F_forces
  exact e8_B_forces_0.tr je8_rf
theorem e8_B_numberOf_0 {N : Nat} {l1 : Int32} {l2 : Int32} {u : RSt}  : KE8 (B_numberOf_0 N l1 l2 u) u := by
  unfold B_numberOf_0
  refine KE8_rd (fun _ => ?_)
  refine KE8_if ?_ ?_
  · skip
    refine KE8_rd (fun _ => ?_)
    refine KE8_rd (fun _ => ?_)
    refine KE8_bn (e8_F_read.tr je8_rf) (fun _ _ => ?_)
    exact KE8_some je8_rf
  · skip
    refine KE8_rd (fun _ => ?_)
    refine KE8_rd (fun _ => ?_)
    exact KE8_some je8_rf
theorem e8_F_numberOf {N : Nat} {l1 : Int32} {l2 : Int32} {u : RSt}  : KE8 (F_numberOf N l1 l2 u) u := by
  unfold F_numberOf
  exact e8_B_numberOf_0.tr je8_rf
theorem e8_B_ticks_104 {N : Nat} {R_35 : Int32 × Int32 × RSt → Option (Int32 × RSt)} {l1 : Int32} {l2 : Int32} {u : RSt} (h_R_35 : ∀ a, KE8 (R_35 a) a.2.2) : KE8 (B_ticks_104 N R_35 l1 l2 u) u := by
  unfold B_ticks_104
  exact (h_R_35 _).tr je8_rf
theorem e8_B_ticks_331 {N : Nat} {R_146 : Int32 × Int32 × RSt → Option (Int32 × RSt)} {l1 : Int32} {l2 : Int32} {u : RSt} (h_R_146 : ∀ a, KE8 (R_146 a) a.2.2) : KE8 (B_ticks_331 N R_146 l1 l2 u) u := by
  unfold B_ticks_331
  exact (h_R_146 _).tr je8_rf
theorem e8_B_ticks_196 {N : Nat} {R_146 : Int32 × Int32 × RSt → Option (Int32 × RSt)} {R_196 : Int32 × Int32 × Int64 × Int32 × RSt → Option (Int32 × RSt)} {l1 : Int32} {l2 : Int32} {l3 : Int64} {l5 : Int32} {u : RSt} (h_R_146 : ∀ a, KE8 (R_146 a) a.2.2) (h_R_196 : ∀ a, KE8 (R_196 a) a.2.2.2.2) : KE8 (B_ticks_196 N R_146 R_196 l1 l2 l3 l5 u) u := by
  unfold B_ticks_196
  refine KE8_if ?_ ?_
  · skip
    refine KE8_wr ?_
    refine KE8_rd (fun _ => ?_)
    refine KE8_wr ?_
    refine KE8_rd (fun _ => ?_)
    refine KE8_wr ?_
    refine KE8_wr ?_
    refine KE8_if ?_ ?_
    · skip
      exact (e8_B_ticks_331 h_R_146).tr (fe8_sB (by decide) (fe8_sA (by decide) (fe8_sA (by decide) (fe8_sA (by decide) je8_rf))))
    · skip
      refine KE8_pu ?_
      exact (e8_B_ticks_331 h_R_146).tr (fe8_sI (by decide) (fe8_sB (by decide) (fe8_sA (by decide) (fe8_sA (by decide) (fe8_sA (by decide) je8_rf)))))
  · skip
    refine KE8_rd (fun _ => ?_)
    refine KE8_wr ?_
    refine KE8_rd (fun _ => ?_)
    refine KE8_wr ?_
    refine KE8_rd (fun _ => ?_)
    refine KE8_wr ?_
    refine KE8_rd (fun _ => ?_)
    refine KE8_wr ?_
    exact (h_R_196 _).tr (fe8_sB (by decide) (fe8_sA (by decide) (fe8_sA (by decide) (fe8_sA (by decide) je8_rf))))
theorem e8_LP_ticks_196 {N : Nat} {R_146 : Int32 × Int32 × RSt → Option (Int32 × RSt)} (h_R_146 : ∀ a, KE8 (R_146 a) a.2.2) (n : Nat) : ∀ a : Int32 × Int32 × Int64 × Int32 × RSt, KE8 (LP_ticks_196 N R_146 n a) a.2.2.2.2 := by
  induction n with
  | zero => exact fun a r z e => by have e : (none : Option _) = some (r, z) := e; cases e
  | succ n ih =>
    intro a
    show KE8 (B_ticks_196 N R_146 (LP_ticks_196 N R_146 n) a.1 a.2.1 a.2.2.1 a.2.2.2.1 a.2.2.2.2) a.2.2.2.2
    exact e8_B_ticks_196 h_R_146 ih
theorem e8_B_ticks_146 {N : Nat} {R_146 : Int32 × Int32 × RSt → Option (Int32 × RSt)} {l1 : Int32} {l2 : Int32} {u : RSt} (h_R_146 : ∀ a, KE8 (R_146 a) a.2.2) : KE8 (B_ticks_146 N R_146 l1 l2 u) u := by
  unfold B_ticks_146
  refine KE8_if ?_ ?_
  · skip
    refine KE8_pu ?_
    exact KE8_some (fe8_sI (by decide) je8_rf)
  · skip
    refine KE8_rd (fun _ => ?_)
    refine KE8_rd (fun _ => ?_)
    refine KE8_bn (e8_F_numberOf.tr je8_rf) (fun _ _ => ?_)
    refine KE8_rd (fun _ => ?_)
    refine KE8_if ?_ ?_
    · skip
      exact (e8_B_ticks_331 h_R_146).tr je8_rf
    · skip
      refine KE8_wr ?_
      exact (e8_LP_ticks_196 h_R_146 _ _).tr (fe8_sB (by decide) je8_rf)
theorem e8_LP_ticks_146 {N : Nat}  (n : Nat) : ∀ a : Int32 × Int32 × RSt, KE8 (LP_ticks_146 N n a) a.2.2 := by
  induction n with
  | zero => exact fun a r z e => by have e : (none : Option _) = some (r, z) := e; cases e
  | succ n ih =>
    intro a
    show KE8 (B_ticks_146 N (LP_ticks_146 N n) a.1 a.2.1 a.2.2) a.2.2
    exact e8_B_ticks_146 ih
theorem e8_B_ticks_119 {N : Nat} {R_119 : Int32 × Int32 × RSt → Option (Int32 × RSt)} {l1 : Int32} {l2 : Int32} {u : RSt} (h_R_119 : ∀ a, KE8 (R_119 a) a.2.2) : KE8 (B_ticks_119 N R_119 l1 l2 u) u := by
  unfold B_ticks_119
  refine KE8_if ?_ ?_
  · skip
    exact (e8_LP_ticks_146  _ _).tr je8_rf
  · skip
    refine KE8_rd (fun _ => ?_)
    refine KE8_wr ?_
    exact (h_R_119 _).tr (fe8_sA (by decide) je8_rf)
theorem e8_LP_ticks_119 {N : Nat}  (n : Nat) : ∀ a : Int32 × Int32 × RSt, KE8 (LP_ticks_119 N n a) a.2.2 := by
  induction n with
  | zero => exact fun a r z e => by have e : (none : Option _) = some (r, z) := e; cases e
  | succ n ih =>
    intro a
    show KE8 (B_ticks_119 N (LP_ticks_119 N n) a.1 a.2.1 a.2.2) a.2.2
    exact e8_B_ticks_119 ih
theorem e8_B_ticks_35 {N : Nat} {R_35 : Int32 × Int32 × RSt → Option (Int32 × RSt)} {l1 : Int32} {l2 : Int32} {u : RSt} (h_R_35 : ∀ a, KE8 (R_35 a) a.2.2) : KE8 (B_ticks_35 N R_35 l1 l2 u) u := by
  unfold B_ticks_35
  refine KE8_rd (fun _ => ?_)
  refine KE8_if ?_ ?_
  · skip
    refine KE8_bn (e8_F_forces.tr je8_rf) (fun _ _ => ?_)
    exact (e8_LP_ticks_119  _ _).tr je8_rf
  · skip
    refine KE8_rd (fun _ => ?_)
    refine KE8_if ?_ ?_
    · skip
      refine KE8_rd (fun _ => ?_)
      refine KE8_nz ?_
      refine KE8_rd (fun _ => ?_)
      refine KE8_if ?_ ?_
      · skip
        refine KE8_bn (e8_F_runTask.tr je8_rf) (fun _ _ => ?_)
        exact (e8_B_ticks_104 h_R_35).tr je8_rf
      · skip
        exact (e8_B_ticks_104 h_R_35).tr je8_rf
    · skip
      exact (e8_B_ticks_104 h_R_35).tr je8_rf
theorem e8_LP_ticks_35 {N : Nat}  (n : Nat) : ∀ a : Int32 × Int32 × RSt, KE8 (LP_ticks_35 N n a) a.2.2 := by
  induction n with
  | zero => exact fun a r z e => by have e : (none : Option _) = some (r, z) := e; cases e
  | succ n ih =>
    intro a
    show KE8 (B_ticks_35 N (LP_ticks_35 N n) a.1 a.2.1 a.2.2) a.2.2
    exact e8_B_ticks_35 ih
theorem e8_B_ticks_4 {N : Nat} {R_4 : Int32 × Int32 × RSt → Option (Int32 × RSt)} {l1 : Int32} {l2 : Int32} {u : RSt} (h_R_4 : ∀ a, KE8 (R_4 a) a.2.2) : KE8 (B_ticks_4 N R_4 l1 l2 u) u := by
  unfold B_ticks_4
  refine KE8_if ?_ ?_
  · skip
    refine KE8_bn (e8_F_forces.tr je8_rf) (fun _ _ => ?_)
    exact (e8_LP_ticks_35  _ _).tr je8_rf
  · skip
    refine KE8_rd (fun _ => ?_)
    refine KE8_wr ?_
    exact (h_R_4 _).tr (fe8_sA (by decide) je8_rf)
theorem e8_LP_ticks_4 {N : Nat}  (n : Nat) : ∀ a : Int32 × Int32 × RSt, KE8 (LP_ticks_4 N n a) a.2.2 := by
  induction n with
  | zero => exact fun a r z e => by have e : (none : Option _) = some (r, z) := e; cases e
  | succ n ih =>
    intro a
    show KE8 (B_ticks_4 N (LP_ticks_4 N n) a.1 a.2.1 a.2.2) a.2.2
    exact e8_B_ticks_4 ih
theorem e8_B_ticks_0 {N : Nat} {u : RSt}  : KE8 (B_ticks_0 N u) u := by
  unfold B_ticks_0
  exact (e8_LP_ticks_4  _ _).tr je8_rf
theorem e8_F_ticks {N : Nat} {u : RSt}  : KE8 (F_ticks N u) u := by
  unfold F_ticks
  exact e8_B_ticks_0.tr je8_rf
