/-! Making the program q leaves the other program as it is. -/
def ko (q : Nat) (u w : CSt) : Prop := (∀ p, p ≠ q → ∀ k, pI w p k = pI u p k ∧ pA w p k = pA u p k ∧ pB w p k = pB u p k) ∧ (∀ m, m / 169 ≠ q → ∀ k, mI w m k = mI u m k ∧ mL w m k = mL u m k) ∧ (∀ m, m / 8 ≠ q → ∀ k, tI w m k = tI u m k) ∧ (∀ k, cR w k = cR u k)
def hq2 (q : Nat) (u : CSt) : Prop := cR u 2 = q ∧ cR u 3 = q
def KO {β : Type} (q : Nat) (x : Option (β × CSt)) (u : CSt) : Prop := ∀ r w, x = some (r, w) → ko q u w
section KOs
variable {α β γ : Type} {u v w : CSt} {q : Nat}
theorem ko_rf : ko q u u := ⟨fun _ _ _ => ⟨rfl, rfl, rfl⟩, fun _ _ _ => ⟨rfl, rfl⟩, fun _ _ _ => rfl, fun _ => rfl⟩
theorem ko_tr (h : ko q u v) (h2 : ko q v w) : ko q u w := ⟨fun p hp k => ⟨(h2.1 p hp k).1.trans (h.1 p hp k).1, (h2.1 p hp k).2.1.trans (h.1 p hp k).2.1, (h2.1 p hp k).2.2.trans (h.1 p hp k).2.2⟩, fun m hm k => ⟨(h2.2.1 m hm k).1.trans (h.2.1 m hm k).1, (h2.2.1 m hm k).2.trans (h.2.1 m hm k).2⟩, fun m hm k => (h2.2.2.1 m hm k).trans (h.2.2.1 m hm k), fun k => (h2.2.2.2 k).trans (h.2.2.2 k)⟩
theorem ko_q (h : ko q u w) (hq : hq2 q u) : hq2 q w := ⟨(h.2.2.2 2).trans hq.1, (h.2.2.2 3).trans hq.2⟩
theorem KO.tr {x : Option (β × CSt)} (hx : KO q x w) (h : ko q u w) : KO q x u := fun r z e => ko_tr h (hx r z e)
theorem KO.p {x : Option (β × CSt)} (hx : KO q x u) : pq x (fun _ w => ko q u w) := hx
theorem fo_xI {k : Nat} {a : Int32} (h : ko q u w) : ko q u (xI w k a) := h
theorem fo_xL {k : Nat} {a : Int64} (h : ko q u w) : ko q u (xL w k a) := h
theorem fo_xA {k i : Nat} {a : Int32} (h : ko q u w) : ko q u (xA w k i a) := h
theorem fo_xF {k : Nat} {g : Nat → Int32} (h : ko q u w) : ko q u (xF w k g) := h
theorem fo_xB {k i : Nat} {a : Int64} (h : ko q u w) : ko q u (xB w k i a) := h
theorem fo_xG {k : Nat} {g : Nat → Int64} (h : ko q u w) : ko q u (xG w k g) := h
theorem fo_xpI {p k : Nat} {a : Int32} (hp : p = q) (h : ko q u w) : ko q u (xpI w p k a) := by
  refine ko_tr h ⟨fun t ht j => ⟨?_, rfl, rfl⟩, fun _ _ _ => ⟨rfl, rfl⟩, fun _ _ _ => rfl, fun _ => rfl⟩
  show (if t = p then (if j = k then a else pI w t j) else pI w t j) = _
  rw [if_neg (fun z => ht (z.trans hp))]
theorem fo_xpA {p k i : Nat} {a : Int32} (hp : p = q) (h : ko q u w) : ko q u (xpA w p k i a) := by
  refine ko_tr h ⟨fun t ht j => ⟨rfl, ?_, rfl⟩, fun _ _ _ => ⟨rfl, rfl⟩, fun _ _ _ => rfl, fun _ => rfl⟩
  show (if t = p then (if j = k then upd (pA w t j) i a else pA w t j) else pA w t j) = _
  rw [if_neg (fun z => ht (z.trans hp))]
theorem fo_xpF {p k : Nat} {g : Nat → Int32} (hp : p = q) (h : ko q u w) : ko q u (xpF w p k g) := by
  refine ko_tr h ⟨fun t ht j => ⟨rfl, ?_, rfl⟩, fun _ _ _ => ⟨rfl, rfl⟩, fun _ _ _ => rfl, fun _ => rfl⟩
  show (if t = p then (if j = k then g else pA w t j) else pA w t j) = _
  rw [if_neg (fun z => ht (z.trans hp))]
theorem fo_xpB {p k i : Nat} {a : Int64} (hp : p = q) (h : ko q u w) : ko q u (xpB w p k i a) := by
  refine ko_tr h ⟨fun t ht j => ⟨rfl, rfl, ?_⟩, fun _ _ _ => ⟨rfl, rfl⟩, fun _ _ _ => rfl, fun _ => rfl⟩
  show (if t = p then (if j = k then vp_updL (pB w t j) i a else pB w t j) else pB w t j) = _
  rw [if_neg (fun z => ht (z.trans hp))]
theorem fo_xtI {m k : Nat} {a : Int32} (hm : m / 8 = q) (h : ko q u w) : ko q u (xtI w m k a) := by
  refine ko_tr h ⟨fun _ _ _ => ⟨rfl, rfl, rfl⟩, fun _ _ _ => ⟨rfl, rfl⟩, fun t ht j => ?_, fun _ => rfl⟩
  show (if t = m then (if j = k then a else tI w t j) else tI w t j) = _
  rw [if_neg (fun z => ht (by rw [z]; exact hm))]
theorem fo_xmI {m k : Nat} {a : Int32} (hm : m / 169 = q) (h : ko q u w) : ko q u (xmI w m k a) := by
  refine ko_tr h ⟨fun _ _ _ => ⟨rfl, rfl, rfl⟩, fun t ht j => ⟨?_, rfl⟩, fun _ _ _ => rfl, fun _ => rfl⟩
  show (if t = m then (if j = k then a else mI w t j) else mI w t j) = _
  rw [if_neg (fun z => ht (by rw [z]; exact hm))]
theorem fo_xmL {m k : Nat} {a : Int64} (hm : m / 169 = q) (h : ko q u w) : ko q u (xmL w m k a) := by
  refine ko_tr h ⟨fun _ _ _ => ⟨rfl, rfl, rfl⟩, fun t ht j => ⟨rfl, ?_⟩, fun _ _ _ => rfl, fun _ => rfl⟩
  show (if t = m then (if j = k then a else mL w t j) else mL w t j) = _
  rw [if_neg (fun z => ht (by rw [z]; exact hm))]
theorem KO_some {r : β} (h : ko q u w) : KO q (some (r, w)) u := fun _ _ e => by cases e; exact h
theorem KO_none : KO q (none : Option (β × CSt)) u := fun _ _ e => nomatch e
theorem KO_pc {x : CSt} {k : CSt → Option (β × CSt)} (h : KO q (k x) u) : KO q (pc x k) u := h
theorem KO_rd {f : Nat → α} {n : Nat} {i : Int32} {k : α → Option (β × CSt)} (h : ∀ a, KO q (k a) u) : KO q (rd f n i k) u := by
  intro r z e
  have g : wq (rd f n i k) (fun r' z' => r' = r ∧ z' = z) := ⟨r, z, e, rfl, rfl⟩
  obtain ⟨r1, z1, e1, rfl, rfl⟩ := (wq_rd.mp g).2
  exact h _ _ _ e1
theorem KO_wc {n : Nat} {i : Int32} {x : CSt} {k : CSt → Option (β × CSt)} (h : KO q (k x) u) : KO q (wc n i x k) u := by
  intro r z e
  have g : wq (wc n i x k) (fun r' z' => r' = r ∧ z' = z) := ⟨r, z, e, rfl, rfl⟩
  obtain ⟨r1, z1, e1, rfl, rfl⟩ := (wq_wc.mp g).2
  exact h _ _ e1
theorem KO_bc {x : Option (α × CSt)} {k : α → CSt → Option (β × CSt)} (hq : hq2 q u) (hx : KO q x u) (h : ∀ r w, hq2 q w → KO q (k r w) w) : KO q (bc x k) u := by
  intro r z e
  have g : wq (bc x k) (fun r' z' => r' = r ∧ z' = z) := ⟨r, z, e, rfl, rfl⟩
  obtain ⟨r1, z1, e1, r2, z2, e2, rfl, rfl⟩ := wq_bc.mp g
  exact ko_tr (hx _ _ e1) (h _ _ (ko_q (hx _ _ e1) hq) _ _ e2)
theorem KO_pb {x : Option α} {k : α → Option (β × CSt)} (h : ∀ a, KO q (k a) u) : KO q (pb x k) u := by
  intro r z e
  have g : wq (pb x k) (fun r' z' => r' = r ∧ z' = z) := ⟨r, z, e, rfl, rfl⟩
  obtain ⟨a, -, r1, z1, e1, rfl, rfl⟩ := wq_pb.mp g
  exact h _ _ _ e1
theorem KO_bt {x : Option (Sum Nat α × CSt)} {k : α → CSt → Option (Sum Nat γ × CSt)} (hq : hq2 q u) (hx : KO q x u) (h : ∀ r w, hq2 q w → KO q (k r w) w) : KO q (bt x k) u := by
  intro r z e
  unfold bt at e
  cases hb : x with
  | none => rw [hb] at e; cases e
  | some a =>
    obtain ⟨y, v⟩ := a
    rw [hb] at e
    cases y with
    | inl n => cases e; exact hx _ _ hb
    | inr b => exact ko_tr (hx _ _ hb) (h _ _ (ko_q (hx _ _ hb) hq) _ _ e)
theorem KO_if {c : Prop} {d : Decidable c} {a b : Option (β × CSt)} (ha : KO q a u) (hb : KO q b u) : KO q (if c then a else b) u := by
  by_cases g : c
  · rw [if_pos g]; exact ha
  · rw [if_neg g]; exact hb
theorem KO_ix {n : Nat} {i : Int32} {x : Option (β × CSt)} (h : KO q x u) : KO q (ix n i x) u := by
  intro r z e
  have g : wq (ix n i x) (fun r' z' => r' = r ∧ z' = z) := ⟨r, z, e, rfl, rfl⟩
  obtain ⟨r1, z1, e1, rfl, rfl⟩ := (wq_ix.mp g).2
  exact h _ _ e1
theorem KO_zr {v : Int32} {x : Option (β × CSt)} (h : KO q x u) : KO q (zr v x) u := fun r z e => h r z (zr_of e).2
theorem KO_nz {v : Int32} {x : Option (β × CSt)} (h : KO q x u) : KO q (nz v x) u := fun r z e => h r z (nz_of e).2
theorem KO_ok {P : Prop} {d : Decidable P} {x : Option (β × CSt)} (h : KO q x u) : KO q (ok P d x) u := fun r z e => h r z (ok_of e).2
end KOs

theorem ko_B_X4_isLocal_17 {N : Nat} {u : CSt} {q : Nat} (hq_u : hq2 q u)   : KO q (B_X4_isLocal_17 N u) u := by
  unfold B_X4_isLocal_17
  exact KO_some ko_rf
theorem ko_B_X4_isLocal_0 {N : Nat} {l0 : Nat} {u : CSt} {q : Nat} (hq_u : hq2 q u)   : KO q (B_X4_isLocal_0 N l0 u) u := by
  unfold B_X4_isLocal_0
  refine KO_if ?_ ?_
  · skip
    exact (ko_B_X4_isLocal_17 (hq_u)  ).tr ko_rf
  · skip
    refine KO_if ?_ ?_
    · skip
      exact (ko_B_X4_isLocal_17 (hq_u)  ).tr ko_rf
    · skip
      exact KO_some ko_rf
theorem ko_F_X4_isLocal {N : Nat} {l0 : Nat} {u : CSt} {q : Nat} (hq_u : hq2 q u)   : KO q (F_X4_isLocal N l0 u) u := by
  unfold F_X4_isLocal
  exact (ko_B_X4_isLocal_0 (hq_u)  ).tr ko_rf
theorem ko_B_X4_hasNumbers_14 {N : Nat} {u : CSt} {q : Nat} (hq_u : hq2 q u)   : KO q (B_X4_hasNumbers_14 N u) u := by
  unfold B_X4_hasNumbers_14
  exact KO_some ko_rf
theorem ko_B_X4_hasNumbers_0 {N : Nat} {l0 : Nat} {u : CSt} {q : Nat} (hq_u : hq2 q u)   : KO q (B_X4_hasNumbers_0 N l0 u) u := by
  unfold B_X4_hasNumbers_0
  refine KO_if ?_ ?_
  · skip
    exact (ko_B_X4_hasNumbers_14 (hq_u)  ).tr ko_rf
  · skip
    refine KO_bc hq_u ((ko_F_X4_isLocal (hq_u)  ).tr ko_rf) (fun r_3 u_2 hq_u_2 => ?_)
    refine KO_if ?_ ?_
    · skip
      exact KO_some ko_rf
    · skip
      exact (ko_B_X4_hasNumbers_14 (hq_u_2)  ).tr ko_rf
theorem ko_F_X4_hasNumbers {N : Nat} {l0 : Nat} {u : CSt} {q : Nat} (hq_u : hq2 q u)   : KO q (F_X4_hasNumbers N l0 u) u := by
  unfold F_X4_hasNumbers
  exact (ko_B_X4_hasNumbers_0 (hq_u)  ).tr ko_rf
theorem ko_B_X4_isPlaced_23 {N : Nat} {u : CSt} {q : Nat} (hq_u : hq2 q u)   : KO q (B_X4_isPlaced_23 N u) u := by
  unfold B_X4_isPlaced_23
  exact KO_some ko_rf
theorem ko_B_X4_isPlaced_0 {N : Nat} {l0 : Nat} {u : CSt} {q : Nat} (hq_u : hq2 q u)   : KO q (B_X4_isPlaced_0 N l0 u) u := by
  unfold B_X4_isPlaced_0
  refine KO_if ?_ ?_
  · skip
    refine KO_if ?_ ?_
    · skip
      exact (ko_B_X4_isPlaced_23 (hq_u)  ).tr ko_rf
    · skip
      refine KO_if ?_ ?_
      · skip
        exact (ko_B_X4_isPlaced_23 (hq_u)  ).tr ko_rf
      · skip
        exact KO_some ko_rf
  · skip
    exact KO_some ko_rf
theorem ko_F_X4_isPlaced {N : Nat} {l0 : Nat} {u : CSt} {q : Nat} (hq_u : hq2 q u)   : KO q (F_X4_isPlaced N l0 u) u := by
  unfold F_X4_isPlaced
  exact (ko_B_X4_isPlaced_0 (hq_u)  ).tr ko_rf
theorem ko_B_X4_isInput_0 {N : Nat} {l0 : Nat} {u : CSt} {q : Nat} (hq_u : hq2 q u)   : KO q (B_X4_isInput_0 N l0 u) u := by
  unfold B_X4_isInput_0
  refine KO_if ?_ ?_
  · skip
    refine KO_if ?_ ?_
    · skip
      exact KO_some ko_rf
    · skip
      exact KO_some ko_rf
  · skip
    exact KO_some ko_rf
theorem ko_F_X4_isInput {N : Nat} {l0 : Nat} {u : CSt} {q : Nat} (hq_u : hq2 q u)   : KO q (F_X4_isInput N l0 u) u := by
  unfold F_X4_isInput
  exact (ko_B_X4_isInput_0 (hq_u)  ).tr ko_rf
theorem ko_B_X6_name_0 {N : Nat} {l0 : Nat} {l1 : Int32} {u : CSt} {q : Nat} (hq_u : hq2 q u) (h_l0 : l0 = q)  : KO q (B_X6_name_0 N l0 l1 u) u := by
  unfold B_X6_name_0
  refine KO_if ?_ ?_
  · skip
    exact KO_some ko_rf
  · skip
    refine KO_if ?_ ?_
    · skip
      exact KO_some ko_rf
    · skip
      refine KO_ix ?_
      exact KO_some ko_rf
theorem ko_F_X6_name {N : Nat} {l0 : Nat} {l1 : Int32} {u : CSt} {q : Nat} (hq_u : hq2 q u) (h_l0 : l0 = q)  : KO q (F_X6_name N l0 l1 u) u := by
  unfold F_X6_name
  exact (ko_B_X6_name_0 (hq_u) h_l0 ).tr ko_rf
theorem ko_B_X6_local_0 {N : Nat} {l0 : Nat} {l1 : Nat} {l2 : Int32} {u : CSt} {q : Nat} (hq_u : hq2 q u) (h_l0 : l0 = q)  : KO q (B_X6_local_0 N l0 l1 l2 u) u := by
  unfold B_X6_local_0
  refine KO_if ?_ ?_
  · skip
    exact KO_some ko_rf
  · skip
    refine KO_if ?_ ?_
    · skip
      exact KO_some ko_rf
    · skip
      refine KO_bc hq_u ((ko_F_X6_name (hq_u) h_l0 ).tr ko_rf) (fun r_4 u_3 hq_u_3 => ?_)
      refine KO_ok ?_
      exact KO_some ko_rf
theorem ko_F_X6_local {N : Nat} {l0 : Nat} {l1 : Nat} {l2 : Int32} {u : CSt} {q : Nat} (hq_u : hq2 q u) (h_l0 : l0 = q)  : KO q (F_X6_local N l0 l1 l2 u) u := by
  unfold F_X6_local
  exact (ko_B_X6_local_0 (hq_u) h_l0 ).tr ko_rf
theorem ko_B_X6_localCalled_71 {N : Nat} {R_12 : Nat × Nat × Int64 × Int32 × Int32 × Int32 × CSt → Option (Nat × CSt)} {l0 : Nat} {l1 : Nat} {l2 : Int64} {l4 : Int32} {l5 : Int32} {l6 : Int32} {u : CSt} {q : Nat} (hq_u : hq2 q u) (h_l0 : l0 = q) (h_R_12 : ∀ a, hq2 q a.2.2.2.2.2.2 → a.1 = q → KO q (R_12 a) a.2.2.2.2.2.2) : KO q (B_X6_localCalled_71 N R_12 l0 l1 l2 l4 l5 l6 u) u := by
  unfold B_X6_localCalled_71
  exact (h_R_12 _ (hq_u) h_l0).tr ko_rf
theorem ko_B_X6_localCalled_12 {N : Nat} {R_12 : Nat × Nat × Int64 × Int32 × Int32 × Int32 × CSt → Option (Nat × CSt)} {l0 : Nat} {l1 : Nat} {l2 : Int64} {l4 : Int32} {l5 : Int32} {l6 : Int32} {u : CSt} {q : Nat} (hq_u : hq2 q u) (h_l0 : l0 = q) (h_R_12 : ∀ a, hq2 q a.2.2.2.2.2.2 → a.1 = q → KO q (R_12 a) a.2.2.2.2.2.2) : KO q (B_X6_localCalled_12 N R_12 l0 l1 l2 l4 l5 l6 u) u := by
  unfold B_X6_localCalled_12
  refine KO_if ?_ ?_
  · skip
    exact KO_some ko_rf
  · skip
    refine KO_if ?_ ?_
    · skip
      exact KO_some ko_rf
    · skip
      refine KO_ix ?_
      refine KO_if ?_ ?_
      · skip
        refine KO_ix ?_
        refine KO_if ?_ ?_
        · skip
          refine KO_ix ?_
          exact KO_some ko_rf
        · skip
          exact (ko_B_X6_localCalled_71 (hq_u) h_l0 h_R_12).tr ko_rf
      · skip
        exact (ko_B_X6_localCalled_71 (hq_u) h_l0 h_R_12).tr ko_rf
theorem ko_LP_X6_localCalled_12 {N : Nat} {q : Nat}  (n : Nat) : ∀ a : Nat × Nat × Int64 × Int32 × Int32 × Int32 × CSt, hq2 q a.2.2.2.2.2.2 → a.1 = q → KO q (LP_X6_localCalled_12 N n a) a.2.2.2.2.2.2 := by
  induction n with
  | zero => exact fun a _ _ r z e => by have e : (none : Option _) = some (r, z) := e; cases e
  | succ n ih =>
    intro a hq h_l0
    show KO q (B_X6_localCalled_12 N (LP_X6_localCalled_12 N n) a.1 a.2.1 a.2.2.1 a.2.2.2.1 a.2.2.2.2.1 a.2.2.2.2.2.1 a.2.2.2.2.2.2) a.2.2.2.2.2.2
    exact ko_B_X6_localCalled_12 hq h_l0 ih
theorem ko_B_X6_localCalled_0 {N : Nat} {l0 : Nat} {l1 : Nat} {l2 : Int64} {l4 : Int32} {u : CSt} {q : Nat} (hq_u : hq2 q u) (h_l0 : l0 = q)  : KO q (B_X6_localCalled_0 N l0 l1 l2 l4 u) u := by
  unfold B_X6_localCalled_0
  exact (ko_LP_X6_localCalled_12  _ _ (hq_u) h_l0).tr ko_rf
theorem ko_F_X6_localCalled {N : Nat} {l0 : Nat} {l1 : Nat} {l2 : Int64} {l4 : Int32} {u : CSt} {q : Nat} (hq_u : hq2 q u) (h_l0 : l0 = q)  : KO q (F_X6_localCalled N l0 l1 l2 l4 u) u := by
  unfold F_X6_localCalled
  exact (ko_B_X6_localCalled_0 (hq_u) h_l0 ).tr ko_rf
theorem ko_B_X6_ofText_52 {N : Nat} {R_3 : Nat × Int64 × Int32 × Int32 × CSt → Option (Nat × CSt)} {l0 : Nat} {l1 : Int64} {l3 : Int32} {l4 : Int32} {u : CSt} {q : Nat} (hq_u : hq2 q u) (h_l0 : l0 = q) (h_R_3 : ∀ a, hq2 q a.2.2.2.2 → a.1 = q → KO q (R_3 a) a.2.2.2.2) : KO q (B_X6_ofText_52 N R_3 l0 l1 l3 l4 u) u := by
  unfold B_X6_ofText_52
  exact (h_R_3 _ (hq_u) h_l0).tr ko_rf
theorem ko_B_X6_ofText_61 {N : Nat} {R_61 : Nat × Int64 × Int32 × Int32 × CSt → Option (Nat × CSt)} {l0 : Nat} {l1 : Int64} {l3 : Int32} {l4 : Int32} {u : CSt} {q : Nat} (hq_u : hq2 q u) (h_l0 : l0 = q) (h_R_61 : ∀ a, hq2 q a.2.2.2.2 → a.1 = q → KO q (R_61 a) a.2.2.2.2) : KO q (B_X6_ofText_61 N R_61 l0 l1 l3 l4 u) u := by
  unfold B_X6_ofText_61
  refine KO_if ?_ ?_
  · skip
    exact KO_some ko_rf
  · skip
    refine KO_if ?_ ?_
    · skip
      refine KO_ix ?_
      refine KO_if ?_ ?_
      · skip
        refine KO_ix ?_
        exact KO_some ko_rf
      · skip
        exact (h_R_61 _ (hq_u) h_l0).tr ko_rf
    · skip
      exact KO_some ko_rf
theorem ko_LP_X6_ofText_61 {N : Nat} {q : Nat}  (n : Nat) : ∀ a : Nat × Int64 × Int32 × Int32 × CSt, hq2 q a.2.2.2.2 → a.1 = q → KO q (LP_X6_ofText_61 N n a) a.2.2.2.2 := by
  induction n with
  | zero => exact fun a _ _ r z e => by have e : (none : Option _) = some (r, z) := e; cases e
  | succ n ih =>
    intro a hq h_l0
    show KO q (B_X6_ofText_61 N (LP_X6_ofText_61 N n) a.1 a.2.1 a.2.2.1 a.2.2.2.1 a.2.2.2.2) a.2.2.2.2
    exact ko_B_X6_ofText_61 hq h_l0 ih
theorem ko_B_X6_ofText_3 {N : Nat} {R_3 : Nat × Int64 × Int32 × Int32 × CSt → Option (Nat × CSt)} {l0 : Nat} {l1 : Int64} {l3 : Int32} {l4 : Int32} {u : CSt} {q : Nat} (hq_u : hq2 q u) (h_l0 : l0 = q) (h_R_3 : ∀ a, hq2 q a.2.2.2.2 → a.1 = q → KO q (R_3 a) a.2.2.2.2) : KO q (B_X6_ofText_3 N R_3 l0 l1 l3 l4 u) u := by
  unfold B_X6_ofText_3
  refine KO_if ?_ ?_
  · skip
    exact (ko_LP_X6_ofText_61  _ _ (hq_u) h_l0).tr ko_rf
  · skip
    refine KO_ix ?_
    refine KO_if ?_ ?_
    · skip
      refine KO_if ?_ ?_
      · skip
        refine KO_if ?_ ?_
        · skip
          exact (ko_B_X6_ofText_52 (hq_u) h_l0 h_R_3).tr ko_rf
        · skip
          exact KO_some ko_rf
      · skip
        exact (ko_B_X6_ofText_52 (hq_u) h_l0 h_R_3).tr ko_rf
    · skip
      exact (ko_B_X6_ofText_52 (hq_u) h_l0 h_R_3).tr ko_rf
theorem ko_LP_X6_ofText_3 {N : Nat} {q : Nat}  (n : Nat) : ∀ a : Nat × Int64 × Int32 × Int32 × CSt, hq2 q a.2.2.2.2 → a.1 = q → KO q (LP_X6_ofText_3 N n a) a.2.2.2.2 := by
  induction n with
  | zero => exact fun a _ _ r z e => by have e : (none : Option _) = some (r, z) := e; cases e
  | succ n ih =>
    intro a hq h_l0
    show KO q (B_X6_ofText_3 N (LP_X6_ofText_3 N n) a.1 a.2.1 a.2.2.1 a.2.2.2.1 a.2.2.2.2) a.2.2.2.2
    exact ko_B_X6_ofText_3 hq h_l0 ih
theorem ko_B_X6_ofText_0 {N : Nat} {l0 : Nat} {l1 : Int64} {l3 : Int32} {u : CSt} {q : Nat} (hq_u : hq2 q u) (h_l0 : l0 = q)  : KO q (B_X6_ofText_0 N l0 l1 l3 u) u := by
  unfold B_X6_ofText_0
  exact (ko_LP_X6_ofText_3  _ _ (hq_u) h_l0).tr ko_rf
theorem ko_F_X6_ofText {N : Nat} {l0 : Nat} {l1 : Int64} {l3 : Int32} {u : CSt} {q : Nat} (hq_u : hq2 q u) (h_l0 : l0 = q)  : KO q (F_X6_ofText N l0 l1 l3 u) u := by
  unfold F_X6_ofText
  exact (ko_B_X6_ofText_0 (hq_u) h_l0 ).tr ko_rf
theorem ko_B_X6_step_0 {N : Nat} {l0 : Nat} {l1 : Int32} {l2 : Int32} {l3 : Int32} {l4 : Int32} {u : CSt} {q : Nat} (hq_u : hq2 q u) (h_l0 : l0 = q)  : KO q (B_X6_step_0 N l0 l1 l2 l3 l4 u) u := by
  unfold B_X6_step_0
  refine KO_if ?_ ?_
  · skip
    refine KO_wc ?_
    refine KO_wc ?_
    refine KO_wc ?_
    refine KO_wc ?_
    refine KO_pc ?_
    exact KO_some (fo_xpI h_l0 (fo_xpA h_l0 (fo_xpA h_l0 (fo_xpA h_l0 (fo_xpA h_l0 ko_rf)))))
  · skip
    exact KO_some ko_rf
theorem ko_F_X6_step {N : Nat} {l0 : Nat} {l1 : Int32} {l2 : Int32} {l3 : Int32} {l4 : Int32} {u : CSt} {q : Nat} (hq_u : hq2 q u) (h_l0 : l0 = q)  : KO q (F_X6_step N l0 l1 l2 l3 l4 u) u := by
  unfold F_X6_step
  exact (ko_B_X6_step_0 (hq_u) h_l0 ).tr ko_rf
theorem ko_B_X6_cost_0 {N : Nat} {l0 : Nat} {l1 : Int32} {u : CSt} {q : Nat} (hq_u : hq2 q u) (h_l0 : l0 = q)  : KO q (B_X6_cost_0 N l0 l1 u) u := by
  unfold B_X6_cost_0
  refine KO_bc hq_u ((ko_F_X6_step (hq_u) h_l0 ).tr ko_rf) (fun r_2 u_1 hq_u_1 => ?_)
  exact KO_some ko_rf
theorem ko_F_X6_cost {N : Nat} {l0 : Nat} {l1 : Int32} {u : CSt} {q : Nat} (hq_u : hq2 q u) (h_l0 : l0 = q)  : KO q (F_X6_cost N l0 l1 u) u := by
  unfold F_X6_cost
  exact (ko_B_X6_cost_0 (hq_u) h_l0 ).tr ko_rf
theorem ko_B_X6_constant_0 {N : Nat} {l0 : Nat} {l1 : Int64} {l3 : Int32} {l4 : Int32} {u : CSt} {q : Nat} (hq_u : hq2 q u) (h_l0 : l0 = q)  : KO q (B_X6_constant_0 N l0 l1 l3 l4 u) u := by
  unfold B_X6_constant_0
  refine KO_bc hq_u ((ko_F_X6_step (hq_u) h_l0 ).tr ko_rf) (fun r_2 u_1 hq_u_1 => ?_)
  exact KO_some ko_rf
theorem ko_F_X6_constant {N : Nat} {l0 : Nat} {l1 : Int64} {l3 : Int32} {l4 : Int32} {u : CSt} {q : Nat} (hq_u : hq2 q u) (h_l0 : l0 = q)  : KO q (F_X6_constant N l0 l1 l3 l4 u) u := by
  unfold F_X6_constant
  exact (ko_B_X6_constant_0 (hq_u) h_l0 ).tr ko_rf
theorem ko_B_X6_land_4 {N : Nat} {R_4 : Nat × Int32 × Int32 × CSt → Option (Int32 × CSt)} {l0 : Nat} {l2 : Int32} {l3 : Int32} {u : CSt} {q : Nat} (hq_u : hq2 q u) (h_l0 : l0 = q) (h_R_4 : ∀ a, hq2 q a.2.2.2 → a.1 = q → KO q (R_4 a) a.2.2.2) : KO q (B_X6_land_4 N R_4 l0 l2 l3 u) u := by
  unfold B_X6_land_4
  refine KO_if ?_ ?_
  · skip
    exact KO_some ko_rf
  · skip
    refine KO_if ?_ ?_
    · skip
      exact KO_some ko_rf
    · skip
      refine KO_if ?_ ?_
      · skip
        exact KO_some ko_rf
      · skip
        refine KO_rd (fun v_5 => ?_)
        refine KO_wc ?_
        exact (h_R_4 _ (ko_q (fo_xpA h_l0 ko_rf) hq_u) h_l0).tr (fo_xpA h_l0 ko_rf)
theorem ko_LP_X6_land_4 {N : Nat} {q : Nat}  (n : Nat) : ∀ a : Nat × Int32 × Int32 × CSt, hq2 q a.2.2.2 → a.1 = q → KO q (LP_X6_land_4 N n a) a.2.2.2 := by
  induction n with
  | zero => exact fun a _ _ r z e => by have e : (none : Option _) = some (r, z) := e; cases e
  | succ n ih =>
    intro a hq h_l0
    show KO q (B_X6_land_4 N (LP_X6_land_4 N n) a.1 a.2.1 a.2.2.1 a.2.2.2) a.2.2.2
    exact ko_B_X6_land_4 hq h_l0 ih
theorem ko_B_X6_land_0 {N : Nat} {l0 : Nat} {l1 : Int32} {u : CSt} {q : Nat} (hq_u : hq2 q u) (h_l0 : l0 = q)  : KO q (B_X6_land_0 N l0 l1 u) u := by
  unfold B_X6_land_0
  exact (ko_LP_X6_land_4  _ _ (hq_u) h_l0).tr ko_rf
theorem ko_F_X6_land {N : Nat} {l0 : Nat} {l1 : Int32} {u : CSt} {q : Nat} (hq_u : hq2 q u) (h_l0 : l0 = q)  : KO q (F_X6_land N l0 l1 u) u := by
  unfold F_X6_land
  exact (ko_B_X6_land_0 (hq_u) h_l0 ).tr ko_rf
theorem ko_B_X6_label_0 {N : Nat} {l0 : Nat} {l1 : Int64} {l3 : Int64} {u : CSt} {q : Nat} (hq_u : hq2 q u) (h_l0 : l0 = q)  : KO q (B_X6_label_0 N l0 l1 l3 u) u := by
  unfold B_X6_label_0
  refine KO_if ?_ ?_
  · skip
    exact KO_some ko_rf
  · skip
    refine KO_wc ?_
    refine KO_wc ?_
    refine KO_pc ?_
    exact KO_some (fo_xpI h_l0 (fo_xpB h_l0 (fo_xpB h_l0 ko_rf)))
theorem ko_F_X6_label {N : Nat} {l0 : Nat} {l1 : Int64} {l3 : Int64} {u : CSt} {q : Nat} (hq_u : hq2 q u) (h_l0 : l0 = q)  : KO q (F_X6_label N l0 l1 l3 u) u := by
  unfold F_X6_label
  exact (ko_B_X6_label_0 (hq_u) h_l0 ).tr ko_rf
theorem ko_B_X9_rewind_0 {N : Nat} {u : CSt} {q : Nat} (hq_u : hq2 q u)   : KO q (B_X9_rewind_0 N u) u := by
  unfold B_X9_rewind_0
  refine KO_pc ?_
  exact KO_some (fo_xI ko_rf)
theorem ko_F_X9_rewind {N : Nat} {u : CSt} {q : Nat} (hq_u : hq2 q u)   : KO q (F_X9_rewind N u) u := by
  unfold F_X9_rewind
  exact (ko_B_X9_rewind_0 (hq_u)  ).tr ko_rf
theorem ko_B_X9_type_0 {N : Nat} {u : CSt} {q : Nat} (hq_u : hq2 q u)   : KO q (B_X9_type_0 N u) u := by
  unfold B_X9_type_0
  refine KO_rd (fun v_2 => ?_)
  exact KO_some ko_rf
theorem ko_F_X9_type {N : Nat} {u : CSt} {q : Nat} (hq_u : hq2 q u)   : KO q (F_X9_type N u) u := by
  unfold F_X9_type
  exact (ko_B_X9_type_0 (hq_u)  ).tr ko_rf
theorem ko_B_X9_typeAhead_0 {N : Nat} {l1 : Int32} {u : CSt} {q : Nat} (hq_u : hq2 q u)   : KO q (B_X9_typeAhead_0 N l1 u) u := by
  unfold B_X9_typeAhead_0
  refine KO_if ?_ ?_
  · skip
    exact KO_some ko_rf
  · skip
    refine KO_rd (fun v_3 => ?_)
    exact KO_some ko_rf
theorem ko_F_X9_typeAhead {N : Nat} {l1 : Int32} {u : CSt} {q : Nat} (hq_u : hq2 q u)   : KO q (F_X9_typeAhead N l1 u) u := by
  unfold F_X9_typeAhead
  exact (ko_B_X9_typeAhead_0 (hq_u)  ).tr ko_rf
theorem ko_B_X9_is_0 {N : Nat} {l1 : Int32} {u : CSt} {q : Nat} (hq_u : hq2 q u)   : KO q (B_X9_is_0 N l1 u) u := by
  unfold B_X9_is_0
  refine KO_rd (fun v_2 => ?_)
  refine KO_if ?_ ?_
  · skip
    exact KO_some ko_rf
  · skip
    exact KO_some ko_rf
theorem ko_F_X9_is {N : Nat} {l1 : Int32} {u : CSt} {q : Nat} (hq_u : hq2 q u)   : KO q (F_X9_is N l1 u) u := by
  unfold F_X9_is
  exact (ko_B_X9_is_0 (hq_u)  ).tr ko_rf
theorem ko_B_X9_isKindWord_0 {N : Nat} {u : CSt} {q : Nat} (hq_u : hq2 q u)   : KO q (B_X9_isKindWord_0 N u) u := by
  unfold B_X9_isKindWord_0
  refine KO_rd (fun v_2 => ?_)
  refine KO_if ?_ ?_
  · skip
    exact KO_some ko_rf
  · skip
    refine KO_rd (fun v_5 => ?_)
    refine KO_if ?_ ?_
    · skip
      exact KO_some ko_rf
    · skip
      exact KO_some ko_rf
theorem ko_F_X9_isKindWord {N : Nat} {u : CSt} {q : Nat} (hq_u : hq2 q u)   : KO q (F_X9_isKindWord N u) u := by
  unfold F_X9_isKindWord
  exact (ko_B_X9_isKindWord_0 (hq_u)  ).tr ko_rf
theorem ko_B_X9_here_0 {N : Nat} {u : CSt} {q : Nat} (hq_u : hq2 q u)   : KO q (B_X9_here_0 N u) u := by
  unfold B_X9_here_0
  refine KO_rd (fun v_2 => ?_)
  exact KO_some ko_rf
theorem ko_F_X9_here {N : Nat} {u : CSt} {q : Nat} (hq_u : hq2 q u)   : KO q (F_X9_here N u) u := by
  unfold F_X9_here
  exact (ko_B_X9_here_0 (hq_u)  ).tr ko_rf
theorem ko_B_X9_head_0 {N : Nat} {u : CSt} {q : Nat} (hq_u : hq2 q u)   : KO q (B_X9_head_0 N u) u := by
  unfold B_X9_head_0
  refine KO_rd (fun v_2 => ?_)
  exact KO_some ko_rf
theorem ko_F_X9_head {N : Nat} {u : CSt} {q : Nat} (hq_u : hq2 q u)   : KO q (F_X9_head N u) u := by
  unfold F_X9_head
  exact (ko_B_X9_head_0 (hq_u)  ).tr ko_rf
theorem ko_B_X9_tail_0 {N : Nat} {u : CSt} {q : Nat} (hq_u : hq2 q u)   : KO q (B_X9_tail_0 N u) u := by
  unfold B_X9_tail_0
  refine KO_rd (fun v_2 => ?_)
  exact KO_some ko_rf
theorem ko_F_X9_tail {N : Nat} {u : CSt} {q : Nat} (hq_u : hq2 q u)   : KO q (F_X9_tail N u) u := by
  unfold F_X9_tail
  exact (ko_B_X9_tail_0 (hq_u)  ).tr ko_rf
theorem ko_B_X9_isWide_0 {N : Nat} {u : CSt} {q : Nat} (hq_u : hq2 q u)   : KO q (B_X9_isWide_0 N u) u := by
  unfold B_X9_isWide_0
  refine KO_rd (fun v_2 => ?_)
  refine KO_if ?_ ?_
  · skip
    exact KO_some ko_rf
  · skip
    exact KO_some ko_rf
theorem ko_F_X9_isWide {N : Nat} {u : CSt} {q : Nat} (hq_u : hq2 q u)   : KO q (F_X9_isWide N u) u := by
  unfold F_X9_isWide
  exact (ko_B_X9_isWide_0 (hq_u)  ).tr ko_rf
theorem ko_B_X9_next_0 {N : Nat} {u : CSt} {q : Nat} (hq_u : hq2 q u)   : KO q (B_X9_next_0 N u) u := by
  unfold B_X9_next_0
  refine KO_if ?_ ?_
  · skip
    exact KO_some ko_rf
  · skip
    refine KO_pc ?_
    exact KO_some (fo_xI ko_rf)
theorem ko_F_X9_next {N : Nat} {u : CSt} {q : Nat} (hq_u : hq2 q u)   : KO q (F_X9_next N u) u := by
  unfold F_X9_next
  exact (ko_B_X9_next_0 (hq_u)  ).tr ko_rf
theorem ko_B_X9_refuse_0 {N : Nat} {l1 : Int32} {l2 : Int32} {u : CSt} {q : Nat} (hq_u : hq2 q u)   : KO q (B_X9_refuse_0 N l1 l2 u) u := by
  unfold B_X9_refuse_0
  refine KO_pc ?_
  refine KO_pc ?_
  exact KO_some (fo_xI (fo_xI ko_rf))
theorem ko_F_X9_refuse {N : Nat} {l1 : Int32} {l2 : Int32} {u : CSt} {q : Nat} (hq_u : hq2 q u)   : KO q (F_X9_refuse N l1 l2 u) u := by
  unfold F_X9_refuse
  exact (ko_B_X9_refuse_0 (hq_u)  ).tr ko_rf
theorem ko_B_X9_takeNumber_28 {N : Nat} {u : CSt} {q : Nat} (hq_u : hq2 q u)   : KO q (B_X9_takeNumber_28 N u) u := by
  unfold B_X9_takeNumber_28
  refine KO_rd (fun v_2 => ?_)
  refine KO_bc hq_u ((ko_F_X9_next (hq_u)  ).tr ko_rf) (fun _ u_3 hq_u_3 => ?_)
  exact KO_some ko_rf
theorem ko_B_X9_takeNumber_0 {N : Nat} {u : CSt} {q : Nat} (hq_u : hq2 q u)   : KO q (B_X9_takeNumber_0 N u) u := by
  unfold B_X9_takeNumber_0
  refine KO_rd (fun v_5 => ?_)
  refine KO_if ?_ ?_
  · skip
    exact (ko_B_X9_takeNumber_28 (hq_u)  ).tr ko_rf
  · skip
    refine KO_rd (fun v_8 => ?_)
    refine KO_bt hq_u ((ko_F_X9_refuse (hq_u)  ).tr ko_rf) (fun _ u_9 hq_u_9 => ?_)
    exact (ko_B_X9_takeNumber_28 (hq_u_9)  ).tr ko_rf
theorem ko_F_X9_takeNumber {N : Nat} {u : CSt} {q : Nat} (hq_u : hq2 q u)   : KO q (F_X9_takeNumber N u) u := by
  unfold F_X9_takeNumber
  exact (ko_B_X9_takeNumber_0 (hq_u)  ).tr ko_rf
theorem ko_B_X9_takeBounded_53 {N : Nat} {l5 : Int64} {u : CSt} {q : Nat} (hq_u : hq2 q u)   : KO q (B_X9_takeBounded_53 N l5 u) u := by
  unfold B_X9_takeBounded_53
  refine KO_bc hq_u ((ko_F_X9_next (hq_u)  ).tr ko_rf) (fun _ u_1 hq_u_1 => ?_)
  exact KO_some ko_rf
theorem ko_B_X9_takeBounded_39 {N : Nat} {l5 : Int64} {u : CSt} {q : Nat} (hq_u : hq2 q u)   : KO q (B_X9_takeBounded_39 N l5 u) u := by
  unfold B_X9_takeBounded_39
  refine KO_rd (fun v_3 => ?_)
  refine KO_bt hq_u ((ko_F_X9_refuse (hq_u)  ).tr ko_rf) (fun _ u_4 hq_u_4 => ?_)
  exact (ko_B_X9_takeBounded_53 (hq_u_4)  ).tr ko_rf
theorem ko_B_X9_takeBounded_0 {N : Nat} {l1 : Int64} {l3 : Int64} {u : CSt} {q : Nat} (hq_u : hq2 q u)   : KO q (B_X9_takeBounded_0 N l1 l3 u) u := by
  unfold B_X9_takeBounded_0
  refine KO_rd (fun v_7 => ?_)
  refine KO_rd (fun v_9 => ?_)
  refine KO_if ?_ ?_
  · skip
    refine KO_if ?_ ?_
    · skip
      exact (ko_B_X9_takeBounded_39 (hq_u)  ).tr ko_rf
    · skip
      refine KO_if ?_ ?_
      · skip
        exact (ko_B_X9_takeBounded_53 (hq_u)  ).tr ko_rf
      · skip
        exact (ko_B_X9_takeBounded_39 (hq_u)  ).tr ko_rf
  · skip
    exact (ko_B_X9_takeBounded_39 (hq_u)  ).tr ko_rf
theorem ko_F_X9_takeBounded {N : Nat} {l1 : Int64} {l3 : Int64} {u : CSt} {q : Nat} (hq_u : hq2 q u)   : KO q (F_X9_takeBounded N l1 l3 u) u := by
  unfold F_X9_takeBounded
  exact (ko_B_X9_takeBounded_0 (hq_u)  ).tr ko_rf
theorem ko_B_X9_takeKind_0 {N : Nat} {u : CSt} {q : Nat} (hq_u : hq2 q u)   : KO q (B_X9_takeKind_0 N u) u := by
  unfold B_X9_takeKind_0
  refine KO_rd (fun v_2 => ?_)
  refine KO_bc hq_u ((ko_F_X9_next (hq_u)  ).tr ko_rf) (fun _ u_3 hq_u_3 => ?_)
  exact KO_some ko_rf
theorem ko_F_X9_takeKind {N : Nat} {u : CSt} {q : Nat} (hq_u : hq2 q u)   : KO q (F_X9_takeKind N u) u := by
  unfold F_X9_takeKind
  exact (ko_B_X9_takeKind_0 (hq_u)  ).tr ko_rf
theorem ko_B_X6_hasRoomFor_58 {N : Nat} {u : CSt} {q : Nat} (hq_u : hq2 q u)   : KO q (B_X6_hasRoomFor_58 N u) u := by
  unfold B_X6_hasRoomFor_58
  exact KO_some ko_rf
theorem ko_B_X6_hasRoomFor_0 {N : Nat} {l0 : Nat} {l1 : Int32} {u : CSt} {q : Nat} (hq_u : hq2 q u) (h_l0 : l0 = q)  : KO q (B_X6_hasRoomFor_0 N l0 l1 u) u := by
  unfold B_X6_hasRoomFor_0
  refine KO_if ?_ ?_
  · skip
    refine KO_if ?_ ?_
    · skip
      refine KO_bc hq_u ((ko_F_X6_name (hq_u) h_l0 ).tr ko_rf) (fun r_10 u_9 hq_u_9 => ?_)
      refine KO_ok ?_
      refine KO_if ?_ ?_
      · skip
        exact KO_some ko_rf
      · skip
        exact KO_some ko_rf
    · skip
      refine KO_if ?_ ?_
      · skip
        exact (ko_B_X6_hasRoomFor_58 (hq_u)  ).tr ko_rf
      · skip
        refine KO_rd (fun v_5 => ?_)
        refine KO_rd (fun v_6 => ?_)
        refine KO_if ?_ ?_
        · skip
          exact KO_some ko_rf
        · skip
          exact (ko_B_X6_hasRoomFor_58 (hq_u)  ).tr ko_rf
  · skip
    exact KO_some ko_rf
theorem ko_F_X6_hasRoomFor {N : Nat} {l0 : Nat} {l1 : Int32} {u : CSt} {q : Nat} (hq_u : hq2 q u) (h_l0 : l0 = q)  : KO q (F_X6_hasRoomFor N l0 l1 u) u := by
  unfold F_X6_hasRoomFor
  exact (ko_B_X6_hasRoomFor_0 (hq_u) h_l0 ).tr ko_rf
theorem ko_B_X8_known_0 {N : Nat} {u : CSt} {q : Nat} (hq_u : hq2 q u)   : KO q (B_X8_known_0 N u) u := by
  unfold B_X8_known_0
  refine KO_bc hq_u ((ko_F_X9_head (hq_u)  ).tr ko_rf) (fun r_2 u_1 hq_u_1 => ?_)
  refine KO_bc hq_u_1 ((ko_F_X9_tail (hq_u_1)  ).tr ko_rf) (fun r_4 u_3 hq_u_3 => ?_)
  refine KO_ok ?_
  refine KO_bc hq_u_3 ((ko_F_X6_name (hq_u_3) (hq_u_3).2 ).tr ko_rf) (fun r_7 u_6 hq_u_6 => ?_)
  refine KO_ok ?_
  refine KO_bc hq_u_6 ((ko_F_X6_localCalled (hq_u_6) (hq_u_3).2 ).tr ko_rf) (fun r_10 u_9 hq_u_9 => ?_)
  refine KO_ok ?_
  refine KO_if ?_ ?_
  · skip
    refine KO_ok ?_
    refine KO_bc hq_u_9 ((ko_F_X6_ofText (hq_u_9) (hq_u_9).2 ).tr ko_rf) (fun r_15 u_14 hq_u_14 => ?_)
    refine KO_ok ?_
    exact KO_some ko_rf
  · skip
    exact KO_some ko_rf
theorem ko_F_X8_known {N : Nat} {u : CSt} {q : Nat} (hq_u : hq2 q u)   : KO q (F_X8_known N u) u := by
  unfold F_X8_known
  exact (ko_B_X8_known_0 (hq_u)  ).tr ko_rf
theorem ko_B_X8_placeName_63 {N : Nat} {l2 : Nat} {u : CSt} {q : Nat} (hq_u : hq2 q u)   : KO q (B_X8_placeName_63 N l2 u) u := by
  unfold B_X8_placeName_63
  refine KO_bc hq_u ((ko_F_X9_here (hq_u)  ).tr ko_rf) (fun r_2 u_1 hq_u_1 => ?_)
  refine KO_bt hq_u_1 ((ko_F_X9_refuse (hq_u_1)  ).tr ko_rf) (fun _ u_3 hq_u_3 => ?_)
  exact KO_some ko_rf
theorem ko_B_X8_placeName_49 {N : Nat} {l1 : Int32} {l2 : Nat} {s0 : Int32} {s1 : Int32} {u : CSt} {q : Nat} (hq_u : hq2 q u)   : KO q (B_X8_placeName_49 N l1 l2 s0 s1 u) u := by
  unfold B_X8_placeName_49
  refine KO_if ?_ ?_
  · skip
    refine KO_if ?_ ?_
    · skip
      exact KO_some ko_rf
    · skip
      refine KO_bc hq_u ((ko_F_X4_isInput (hq_u)  ).tr ko_rf) (fun r_8 u_7 hq_u_7 => ?_)
      refine KO_if ?_ ?_
      · skip
        exact KO_some ko_rf
      · skip
        exact (ko_B_X8_placeName_63 (hq_u_7)  ).tr ko_rf
  · skip
    exact (ko_B_X8_placeName_63 (hq_u)  ).tr ko_rf
theorem ko_B_X8_placeName_27 {N : Nat} {l1 : Int32} {l2 : Nat} {u : CSt} {q : Nat} (hq_u : hq2 q u)   : KO q (B_X8_placeName_27 N l1 l2 u) u := by
  unfold B_X8_placeName_27
  refine KO_bc hq_u ((ko_F_X9_typeAhead (hq_u)  ).tr ko_rf) (fun r_11 u_10 hq_u_10 => ?_)
  refine KO_if ?_ ?_
  · skip
    exact (ko_B_X8_placeName_49 (hq_u_10)  ).tr ko_rf
  · skip
    exact (ko_B_X8_placeName_49 (hq_u_10)  ).tr ko_rf
theorem ko_B_X8_placeName_0 {N : Nat} {l1 : Int32} {u : CSt} {q : Nat} (hq_u : hq2 q u)   : KO q (B_X8_placeName_0 N l1 u) u := by
  unfold B_X8_placeName_0
  refine KO_bc hq_u ((ko_F_X8_known (hq_u)  ).tr ko_rf) (fun r_14 u_13 hq_u_13 => ?_)
  refine KO_ok ?_
  refine KO_bc hq_u_13 ((ko_F_X4_hasNumbers (hq_u_13)  ).tr ko_rf) (fun r_17 u_16 hq_u_16 => ?_)
  refine KO_if ?_ ?_
  · skip
    refine KO_bc hq_u_16 ((ko_F_X9_here (hq_u_16)  ).tr ko_rf) (fun r_20 u_19 hq_u_19 => ?_)
    refine KO_bt hq_u_19 ((ko_F_X9_refuse (hq_u_19)  ).tr ko_rf) (fun _ u_21 hq_u_21 => ?_)
    exact (ko_B_X8_placeName_27 (hq_u_21)  ).tr ko_rf
  · skip
    exact (ko_B_X8_placeName_27 (hq_u_16)  ).tr ko_rf
theorem ko_F_X8_placeName {N : Nat} {l1 : Int32} {u : CSt} {q : Nat} (hq_u : hq2 q u)   : KO q (F_X8_placeName N l1 u) u := by
  unfold F_X8_placeName
  exact (ko_B_X8_placeName_0 (hq_u)  ).tr ko_rf
theorem ko_B_X8_isTooWide_26 {N : Nat} {u : CSt} {q : Nat} (hq_u : hq2 q u)   : KO q (B_X8_isTooWide_26 N u) u := by
  unfold B_X8_isTooWide_26
  exact KO_some ko_rf
theorem ko_B_X8_isTooWide_0 {N : Nat} {l1 : Int32} {l2 : Int32} {u : CSt} {q : Nat} (hq_u : hq2 q u)   : KO q (B_X8_isTooWide_0 N l1 l2 u) u := by
  unfold B_X8_isTooWide_0
  refine KO_if ?_ ?_
  · skip
    refine KO_if ?_ ?_
    · skip
      exact (ko_B_X8_isTooWide_26 (hq_u)  ).tr ko_rf
    · skip
      refine KO_if ?_ ?_
      · skip
        exact (ko_B_X8_isTooWide_26 (hq_u)  ).tr ko_rf
      · skip
        exact KO_some ko_rf
  · skip
    exact KO_some ko_rf
theorem ko_F_X8_isTooWide {N : Nat} {l1 : Int32} {l2 : Int32} {u : CSt} {q : Nat} (hq_u : hq2 q u)   : KO q (F_X8_isTooWide N l1 l2 u) u := by
  unfold F_X8_isTooWide
  exact (ko_B_X8_isTooWide_0 (hq_u)  ).tr ko_rf
theorem ko_B_X8_combine_25 {N : Nat} {l4 : Int32} {l5 : Int32} {s0 : Nat} {s1 : Int32} {s2 : Int32} {s3 : Int32} {u : CSt} {q : Nat} (hq_u : hq2 q u) (h_s0 : s0 = q)  : KO q (B_X8_combine_25 N l4 l5 s0 s1 s2 s3 u) u := by
  unfold B_X8_combine_25
  refine KO_bc hq_u ((ko_F_X6_step (hq_u) h_s0 ).tr ko_rf) (fun r_2 u_1 hq_u_1 => ?_)
  refine KO_if ?_ ?_
  · skip
    exact KO_some ko_rf
  · skip
    exact KO_some ko_rf
theorem ko_B_X8_combine_0 {N : Nat} {l1 : Int32} {l2 : Int32} {l3 : Int32} {l4 : Int32} {u : CSt} {q : Nat} (hq_u : hq2 q u)   : KO q (B_X8_combine_0 N l1 l2 l3 l4 u) u := by
  unfold B_X8_combine_0
  refine KO_ok ?_
  refine KO_if ?_ ?_
  · skip
    exact (ko_B_X8_combine_25 (hq_u) (hq_u).2 ).tr ko_rf
  · skip
    exact (ko_B_X8_combine_25 (hq_u) (hq_u).2 ).tr ko_rf
theorem ko_F_X8_combine {N : Nat} {l1 : Int32} {l2 : Int32} {l3 : Int32} {l4 : Int32} {u : CSt} {q : Nat} (hq_u : hq2 q u)   : KO q (F_X8_combine N l1 l2 l3 l4 u) u := by
  unfold F_X8_combine
  exact (ko_B_X8_combine_0 (hq_u)  ).tr ko_rf
theorem ko_B_X8_defer_121 {N : Nat} {u : CSt} {q : Nat} (hq_u : hq2 q u)   : KO q (B_X8_defer_121 N u) u := by
  unfold B_X8_defer_121
  refine KO_bc hq_u ((ko_F_X9_next (hq_u)  ).tr ko_rf) (fun _ u_1 hq_u_1 => ?_)
  exact KO_some ko_rf
theorem ko_B_X8_defer_41 {N : Nat} {l1 : Int32} {l2 : Int32} {l3 : Int32} {s0 : Int32} {u : CSt} {q : Nat} (hq_u : hq2 q u)   : KO q (B_X8_defer_41 N l1 l2 l3 s0 u) u := by
  unfold B_X8_defer_41
  refine KO_ok ?_
  refine KO_bc hq_u ((ko_F_X6_step (hq_u) (hq_u).2 ).tr ko_rf) (fun r_4 u_3 hq_u_3 => ?_)
  refine KO_if ?_ ?_
  · skip
    exact (ko_B_X8_defer_121 (hq_u_3)  ).tr ko_rf
  · skip
    refine KO_wc ?_
    refine KO_wc ?_
    refine KO_wc ?_
    refine KO_wc ?_
    refine KO_pc ?_
    exact (ko_B_X8_defer_121 (ko_q (fo_xI (fo_xA (fo_xA (fo_xA (fo_xA ko_rf))))) hq_u_3)  ).tr (fo_xI (fo_xA (fo_xA (fo_xA (fo_xA ko_rf)))))
theorem ko_B_X8_defer_0 {N : Nat} {l1 : Int32} {u : CSt} {q : Nat} (hq_u : hq2 q u)   : KO q (B_X8_defer_0 N l1 u) u := by
  unfold B_X8_defer_0
  refine KO_bc hq_u ((ko_F_X9_type (hq_u)  ).tr ko_rf) (fun r_16 u_15 hq_u_15 => ?_)
  refine KO_bc hq_u_15 ((ko_F_X9_here (hq_u_15)  ).tr ko_rf) (fun r_18 u_17 hq_u_17 => ?_)
  refine KO_if ?_ ?_
  · skip
    exact (ko_B_X8_defer_41 (hq_u_17)  ).tr ko_rf
  · skip
    refine KO_if ?_ ?_
    · skip
      exact (ko_B_X8_defer_41 (hq_u_17)  ).tr ko_rf
    · skip
      exact (ko_B_X8_defer_41 (hq_u_17)  ).tr ko_rf
theorem ko_F_X8_defer {N : Nat} {l1 : Int32} {u : CSt} {q : Nat} (hq_u : hq2 q u)   : KO q (F_X8_defer N l1 u) u := by
  unfold F_X8_defer
  exact (ko_B_X8_defer_0 (hq_u)  ).tr ko_rf
theorem ko_B_X8_settle_171 {N : Nat} {R_3 : Int32 × Int32 × Int32 × CSt → Option (Int32 × CSt)} {l1 : Int32} {l2 : Int32} {l4 : Int32} {u : CSt} {q : Nat} (hq_u : hq2 q u)  (h_R_3 : ∀ a, hq2 q a.2.2.2 → KO q (R_3 a) a.2.2.2) : KO q (B_X8_settle_171 N R_3 l1 l2 l4 u) u := by
  unfold B_X8_settle_171
  exact (h_R_3 _ (hq_u)).tr ko_rf
theorem ko_B_X8_settle_84 {N : Nat} {R_3 : Int32 × Int32 × Int32 × CSt → Option (Int32 × CSt)} {l1 : Int32} {l2 : Int32} {l6 : Int32} {u : CSt} {q : Nat} (hq_u : hq2 q u)  (h_R_3 : ∀ a, hq2 q a.2.2.2 → KO q (R_3 a) a.2.2.2) : KO q (B_X8_settle_84 N R_3 l1 l2 l6 u) u := by
  unfold B_X8_settle_84
  refine KO_ok ?_
  refine KO_bc hq_u ((ko_F_X6_step (hq_u) (hq_u).2 ).tr ko_rf) (fun r_3 u_2 hq_u_2 => ?_)
  refine KO_ok ?_
  refine KO_rd (fun v_6 => ?_)
  refine KO_bc hq_u_2 ((ko_F_X6_land (hq_u_2) (hq_u_2).2 ).tr ko_rf) (fun _ u_7 hq_u_7 => ?_)
  exact (ko_B_X8_settle_171 (hq_u_7)  h_R_3).tr ko_rf
theorem ko_B_X8_settle_3 {N : Nat} {R_3 : Int32 × Int32 × Int32 × CSt → Option (Int32 × CSt)} {l1 : Int32} {l2 : Int32} {l4 : Int32} {u : CSt} {q : Nat} (hq_u : hq2 q u)  (h_R_3 : ∀ a, hq2 q a.2.2.2 → KO q (R_3 a) a.2.2.2) : KO q (B_X8_settle_3 N R_3 l1 l2 l4 u) u := by
  unfold B_X8_settle_3
  refine KO_if ?_ ?_
  · skip
    exact KO_some ko_rf
  · skip
    refine KO_rd (fun v_10 => ?_)
    refine KO_pb (fun r_11 => ?_)
    refine KO_if ?_ ?_
    · skip
      exact KO_some ko_rf
    · skip
      refine KO_pc ?_
      refine KO_rd (fun v_17 => ?_)
      refine KO_rd (fun v_19 => ?_)
      refine KO_pb (fun r_20 => ?_)
      refine KO_if ?_ ?_
      · skip
        exact (ko_B_X8_settle_84 (ko_q (fo_xI ko_rf) hq_u)  h_R_3).tr (fo_xI ko_rf)
      · skip
        refine KO_if ?_ ?_
        · skip
          exact (ko_B_X8_settle_84 (ko_q (fo_xI ko_rf) hq_u)  h_R_3).tr (fo_xI ko_rf)
        · skip
          refine KO_if ?_ ?_
          · skip
            refine KO_pb (fun r_26 => ?_)
            refine KO_rd (fun v_30 => ?_)
            refine KO_bc hq_u ((ko_F_X8_combine (ko_q (fo_xI ko_rf) hq_u)  ).tr (fo_xI ko_rf)) (fun r_32 u_31 hq_u_31 => ?_)
            exact (ko_B_X8_settle_171 (hq_u_31)  h_R_3).tr ko_rf
          · skip
            refine KO_ok ?_
            refine KO_bc hq_u ((ko_F_X6_step (ko_q (fo_xI ko_rf) hq_u) (ko_q (fo_xI ko_rf) hq_u).2 ).tr (fo_xI ko_rf)) (fun r_35 u_34 hq_u_34 => ?_)
            exact (ko_B_X8_settle_171 (hq_u_34)  h_R_3).tr ko_rf
theorem ko_LP_X8_settle_3 {N : Nat} {q : Nat}  (n : Nat) : ∀ a : Int32 × Int32 × Int32 × CSt, hq2 q a.2.2.2 → KO q (LP_X8_settle_3 N n a) a.2.2.2 := by
  induction n with
  | zero => exact fun a _ r z e => by have e : (none : Option _) = some (r, z) := e; cases e
  | succ n ih =>
    intro a hq
    show KO q (B_X8_settle_3 N (LP_X8_settle_3 N n) a.1 a.2.1 a.2.2.1 a.2.2.2) a.2.2.2
    exact ko_B_X8_settle_3 hq  ih
theorem ko_B_X8_settle_0 {N : Nat} {l1 : Int32} {l2 : Int32} {l3 : Int32} {u : CSt} {q : Nat} (hq_u : hq2 q u)   : KO q (B_X8_settle_0 N l1 l2 l3 u) u := by
  unfold B_X8_settle_0
  exact (ko_LP_X8_settle_3  _ _ (hq_u)).tr ko_rf
theorem ko_F_X8_settle {N : Nat} {l1 : Int32} {l2 : Int32} {l3 : Int32} {u : CSt} {q : Nat} (hq_u : hq2 q u)   : KO q (F_X8_settle N l1 l2 l3 u) u := by
  unfold F_X8_settle
  exact (ko_B_X8_settle_0 (hq_u)  ).tr ko_rf
theorem ko_B_X8_number_15 {N : Nat} {l1 : Int32} {s0 : Int32} {u : CSt} {q : Nat} (hq_u : hq2 q u)   : KO q (B_X8_number_15 N l1 s0 u) u := by
  unfold B_X8_number_15
  refine KO_bt hq_u ((ko_F_X9_takeNumber (hq_u)  ).tr ko_rf) (fun r_2 u_1 hq_u_1 => ?_)
  refine KO_pc ?_
  refine KO_pc ?_
  refine KO_ok ?_
  refine KO_bc hq_u_1 ((ko_F_X6_constant (ko_q (fo_xI (fo_xL ko_rf)) hq_u_1) (ko_q (fo_xI (fo_xL ko_rf)) hq_u_1).2 ).tr (fo_xI (fo_xL ko_rf))) (fun _ u_7 hq_u_7 => ?_)
  exact KO_some ko_rf
theorem ko_B_X8_number_0 {N : Nat} {l1 : Int32} {u : CSt} {q : Nat} (hq_u : hq2 q u)   : KO q (B_X8_number_0 N l1 u) u := by
  unfold B_X8_number_0
  refine KO_bc hq_u ((ko_F_X9_isWide (hq_u)  ).tr ko_rf) (fun r_9 u_8 hq_u_8 => ?_)
  refine KO_if ?_ ?_
  · skip
    exact (ko_B_X8_number_15 (hq_u_8)  ).tr ko_rf
  · skip
    exact (ko_B_X8_number_15 (hq_u_8)  ).tr ko_rf
theorem ko_F_X8_number {N : Nat} {l1 : Int32} {u : CSt} {q : Nat} (hq_u : hq2 q u)   : KO q (F_X8_number N l1 u) u := by
  unfold F_X8_number
  exact (ko_B_X8_number_0 (hq_u)  ).tr ko_rf
theorem ko_B_X8_bit_0 {N : Nat} {l1 : Int32} {u : CSt} {q : Nat} (hq_u : hq2 q u)   : KO q (B_X8_bit_0 N l1 u) u := by
  unfold B_X8_bit_0
  refine KO_bc hq_u ((ko_F_X9_next (hq_u)  ).tr ko_rf) (fun _ u_1 hq_u_1 => ?_)
  refine KO_rd (fun v_2 => ?_)
  refine KO_bt hq_u_1 ((ko_F_X9_takeBounded (hq_u_1)  ).tr ko_rf) (fun r_5 u_4 hq_u_4 => ?_)
  exact KO_some ko_rf
theorem ko_F_X8_bit {N : Nat} {l1 : Int32} {u : CSt} {q : Nat} (hq_u : hq2 q u)   : KO q (F_X8_bit N l1 u) u := by
  unfold F_X8_bit
  exact (ko_B_X8_bit_0 (hq_u)  ).tr ko_rf
theorem ko_B_X8_get_36 {N : Nat} {l1 : Nat} {l2 : Int32} {l3 : Int32} {l4 : Int32} {u : CSt} {q : Nat} (hq_u : hq2 q u)   : KO q (B_X8_get_36 N l1 l2 l3 l4 u) u := by
  unfold B_X8_get_36
  refine KO_ok ?_
  refine KO_bc hq_u ((ko_F_X6_step (hq_u) (hq_u).2 ).tr ko_rf) (fun r_3 u_2 hq_u_2 => ?_)
  exact KO_some ko_rf
theorem ko_B_X8_get_34 {N : Nat} {l1 : Nat} {l2 : Int32} {l3 : Int32} {s0 : Int32} {u : CSt} {q : Nat} (hq_u : hq2 q u)   : KO q (B_X8_get_34 N l1 l2 l3 s0 u) u := by
  unfold B_X8_get_34
  exact (ko_B_X8_get_36 (hq_u)  ).tr ko_rf
theorem ko_B_X8_get_12 {N : Nat} {l1 : Nat} {l2 : Int32} {l3 : Int32} {s0 : Int32} {u : CSt} {q : Nat} (hq_u : hq2 q u)   : KO q (B_X8_get_12 N l1 l2 l3 s0 u) u := by
  unfold B_X8_get_12
  refine KO_bc hq_u ((ko_F_X4_isPlaced (hq_u)  ).tr ko_rf) (fun r_5 u_4 hq_u_4 => ?_)
  refine KO_if ?_ ?_
  · skip
    exact (ko_B_X8_get_36 (hq_u_4)  ).tr ko_rf
  · skip
    refine KO_bc hq_u_4 ((ko_F_X4_isInput (hq_u_4)  ).tr ko_rf) (fun r_8 u_7 hq_u_7 => ?_)
    refine KO_if ?_ ?_
    · skip
      exact (ko_B_X8_get_34 (hq_u_7)  ).tr ko_rf
    · skip
      exact (ko_B_X8_get_34 (hq_u_7)  ).tr ko_rf
theorem ko_B_X8_get_0 {N : Nat} {l1 : Nat} {l2 : Int32} {l3 : Int32} {u : CSt} {q : Nat} (hq_u : hq2 q u)   : KO q (B_X8_get_0 N l1 l2 l3 u) u := by
  unfold B_X8_get_0
  refine KO_bc hq_u ((ko_F_X4_isLocal (hq_u)  ).tr ko_rf) (fun r_11 u_10 hq_u_10 => ?_)
  refine KO_if ?_ ?_
  · skip
    exact (ko_B_X8_get_12 (hq_u_10)  ).tr ko_rf
  · skip
    exact (ko_B_X8_get_12 (hq_u_10)  ).tr ko_rf
theorem ko_F_X8_get {N : Nat} {l1 : Nat} {l2 : Int32} {l3 : Int32} {u : CSt} {q : Nat} (hq_u : hq2 q u)   : KO q (F_X8_get N l1 l2 l3 u) u := by
  unfold F_X8_get
  exact (ko_B_X8_get_0 (hq_u)  ).tr ko_rf
theorem ko_B_X8_set_26 {N : Nat} {l1 : Nat} {l2 : Int32} {s0 : Int32} {u : CSt} {q : Nat} (hq_u : hq2 q u)   : KO q (B_X8_set_26 N l1 l2 s0 u) u := by
  unfold B_X8_set_26
  refine KO_ok ?_
  refine KO_bc hq_u ((ko_F_X6_step (hq_u) (hq_u).2 ).tr ko_rf) (fun r_3 u_2 hq_u_2 => ?_)
  exact KO_some ko_rf
theorem ko_B_X8_set_0 {N : Nat} {l1 : Nat} {l2 : Int32} {u : CSt} {q : Nat} (hq_u : hq2 q u)   : KO q (B_X8_set_0 N l1 l2 u) u := by
  unfold B_X8_set_0
  refine KO_bc hq_u ((ko_F_X4_isLocal (hq_u)  ).tr ko_rf) (fun r_5 u_4 hq_u_4 => ?_)
  refine KO_if ?_ ?_
  · skip
    refine KO_bc hq_u_4 ((ko_F_X4_isPlaced (hq_u_4)  ).tr ko_rf) (fun r_8 u_7 hq_u_7 => ?_)
    refine KO_if ?_ ?_
    · skip
      exact (ko_B_X8_set_26 (hq_u_7)  ).tr ko_rf
    · skip
      exact (ko_B_X8_set_26 (hq_u_7)  ).tr ko_rf
  · skip
    exact (ko_B_X8_set_26 (hq_u_4)  ).tr ko_rf
theorem ko_F_X8_set {N : Nat} {l1 : Nat} {l2 : Int32} {u : CSt} {q : Nat} (hq_u : hq2 q u)   : KO q (F_X8_set N l1 l2 u) u := by
  unfold F_X8_set
  exact (ko_B_X8_set_0 (hq_u)  ).tr ko_rf
theorem ko_B_X8_expression_0 {N : Nat} {ro : Nat → Nat → Int32 → Int32 → CSt → Option (Sum Nat Int32 × CSt)} {u : CSt} {q : Nat} (hq_u : hq2 q u)  (h_ro : ∀ q' z a b u, hq2 q u → KO q (ro q' z a b u) u) : KO q (B_X8_expression_0 N ro u) u := by
  unfold B_X8_expression_0
  refine KO_bt hq_u ((h_ro _ _ _ _ _ (hq_u)).tr ko_rf) (fun r_2 u_1 hq_u_1 => ?_)
  refine KO_bc hq_u_1 ((ko_F_X9_is (hq_u_1)  ).tr ko_rf) (fun r_5 u_4 hq_u_4 => ?_)
  refine KO_if ?_ ?_
  · skip
    exact KO_some ko_rf
  · skip
    refine KO_bc hq_u_4 ((ko_F_X9_here (hq_u_4)  ).tr ko_rf) (fun r_8 u_7 hq_u_7 => ?_)
    refine KO_ok ?_
    refine KO_bc hq_u_7 ((ko_F_X6_step (hq_u_7) (hq_u_7).2 ).tr ko_rf) (fun r_11 u_10 hq_u_10 => ?_)
    refine KO_bc hq_u_10 ((ko_F_X9_next (hq_u_10)  ).tr ko_rf) (fun _ u_12 hq_u_12 => ?_)
    refine KO_bt hq_u_12 ((h_ro _ _ _ _ _ (hq_u_12)).tr ko_rf) (fun r_14 u_13 hq_u_13 => ?_)
    refine KO_ok ?_
    refine KO_bc hq_u_13 ((ko_F_X6_step (hq_u_13) (hq_u_13).2 ).tr ko_rf) (fun r_18 u_17 hq_u_17 => ?_)
    refine KO_ok ?_
    refine KO_bc hq_u_17 ((ko_F_X6_land (hq_u_17) (hq_u_17).2 ).tr ko_rf) (fun _ u_20 hq_u_20 => ?_)
    refine KO_bc hq_u_20 ((ko_F_X9_next (hq_u_20)  ).tr ko_rf) (fun _ u_21 hq_u_21 => ?_)
    refine KO_bt hq_u_21 ((h_ro _ _ _ _ _ (hq_u_21)).tr ko_rf) (fun r_23 u_22 hq_u_22 => ?_)
    refine KO_ok ?_
    refine KO_bc hq_u_22 ((ko_F_X6_land (hq_u_22) (hq_u_22).2 ).tr ko_rf) (fun _ u_26 hq_u_26 => ?_)
    refine KO_pc ?_
    exact KO_some (fo_xI ko_rf)
theorem ko_F_X8_expression {N : Nat} {ro : Nat → Nat → Int32 → Int32 → CSt → Option (Sum Nat Int32 × CSt)} {u : CSt} {q : Nat} (hq_u : hq2 q u)  (h_ro : ∀ q' z a b u, hq2 q u → KO q (ro q' z a b u) u) : KO q (F_X8_expression N ro u) u := by
  unfold F_X8_expression
  exact (ko_B_X8_expression_0 (hq_u)  h_ro).tr ko_rf
theorem ko_B_X8_operators_76 {N : Nat} {ro : Nat → Nat → Int32 → Int32 → CSt → Option (Sum Nat Int32 × CSt)} {l1 : Int32} {l2 : Int32} {u : CSt} {q : Nat} (hq_u : hq2 q u)  (h_ro : ∀ q' z a b u, hq2 q u → KO q (ro q' z a b u) u) : KO q (B_X8_operators_76 N ro l1 l2 u) u := by
  unfold B_X8_operators_76
  refine KO_bc hq_u ((ko_F_X8_settle (hq_u)  ).tr ko_rf) (fun r_2 u_1 hq_u_1 => ?_)
  exact KO_some ko_rf
theorem ko_B_X8_operators_24 {N : Nat} {ro : Nat → Nat → Int32 → Int32 → CSt → Option (Sum Nat Int32 × CSt)} {R_24 : Int32 × Int32 × Int32 × Int32 × CSt → Option ((Sum Nat Int32) × CSt)} {l1 : Int32} {l2 : Int32} {l3 : Int32} {l4 : Int32} {u : CSt} {q : Nat} (hq_u : hq2 q u)  (h_ro : ∀ q' z a b u, hq2 q u → KO q (ro q' z a b u) u) (h_R_24 : ∀ a, hq2 q a.2.2.2.2 → KO q (R_24 a) a.2.2.2.2) : KO q (B_X8_operators_24 N ro R_24 l1 l2 l3 l4 u) u := by
  unfold B_X8_operators_24
  refine KO_if ?_ ?_
  · skip
    exact (ko_B_X8_operators_76 (hq_u)  h_ro).tr ko_rf
  · skip
    refine KO_if ?_ ?_
    · skip
      exact (ko_B_X8_operators_76 (hq_u)  h_ro).tr ko_rf
    · skip
      refine KO_bc hq_u ((ko_F_X8_settle (hq_u)  ).tr ko_rf) (fun r_6 u_5 hq_u_5 => ?_)
      refine KO_bc hq_u_5 ((ko_F_X8_defer (hq_u_5)  ).tr ko_rf) (fun _ u_7 hq_u_7 => ?_)
      refine KO_bt hq_u_7 ((h_ro _ _ _ _ _ (hq_u_7)).tr ko_rf) (fun r_9 u_8 hq_u_8 => ?_)
      refine KO_pc ?_
      refine KO_bc hq_u_8 ((ko_F_X9_type (ko_q (fo_xI ko_rf) hq_u_8)  ).tr (fo_xI ko_rf)) (fun r_13 u_12 hq_u_12 => ?_)
      refine KO_pb (fun r_14 => ?_)
      exact (h_R_24 _ (hq_u_12)).tr ko_rf
theorem ko_LP_X8_operators_24 {N : Nat} {ro : Nat → Nat → Int32 → Int32 → CSt → Option (Sum Nat Int32 × CSt)} {q : Nat} (h_ro : ∀ q' z a b u, hq2 q u → KO q (ro q' z a b u) u) (n : Nat) : ∀ a : Int32 × Int32 × Int32 × Int32 × CSt, hq2 q a.2.2.2.2 → KO q (LP_X8_operators_24 N ro n a) a.2.2.2.2 := by
  induction n with
  | zero => exact fun a _ r z e => by have e : (none : Option _) = some (r, z) := e; cases e
  | succ n ih =>
    intro a hq
    show KO q (B_X8_operators_24 N ro (LP_X8_operators_24 N ro n) a.1 a.2.1 a.2.2.1 a.2.2.2.1 a.2.2.2.2) a.2.2.2.2
    exact ko_B_X8_operators_24 hq  h_ro ih
theorem ko_B_X8_operators_0 {N : Nat} {ro : Nat → Nat → Int32 → Int32 → CSt → Option (Sum Nat Int32 × CSt)} {u : CSt} {q : Nat} (hq_u : hq2 q u)  (h_ro : ∀ q' z a b u, hq2 q u → KO q (ro q' z a b u) u) : KO q (B_X8_operators_0 N ro u) u := by
  unfold B_X8_operators_0
  refine KO_bt hq_u ((h_ro _ _ _ _ _ (hq_u)).tr ko_rf) (fun r_18 u_17 hq_u_17 => ?_)
  refine KO_bc hq_u_17 ((ko_F_X9_type (hq_u_17)  ).tr ko_rf) (fun r_21 u_20 hq_u_20 => ?_)
  refine KO_pb (fun r_22 => ?_)
  exact (ko_LP_X8_operators_24 h_ro _ _ (hq_u_20)).tr ko_rf
theorem ko_F_X8_operators {N : Nat} {ro : Nat → Nat → Int32 → Int32 → CSt → Option (Sum Nat Int32 × CSt)} {u : CSt} {q : Nat} (hq_u : hq2 q u)  (h_ro : ∀ q' z a b u, hq2 q u → KO q (ro q' z a b u) u) : KO q (F_X8_operators N ro u) u := by
  unfold F_X8_operators
  exact (ko_B_X8_operators_0 (hq_u)  h_ro).tr ko_rf
theorem ko_B_X8_operand_0 {N : Nat} {ro : Nat → Nat → Int32 → Int32 → CSt → Option (Sum Nat Int32 × CSt)} {u : CSt} {q : Nat} (hq_u : hq2 q u)  (h_ro : ∀ q' z a b u, hq2 q u → KO q (ro q' z a b u) u) : KO q (B_X8_operand_0 N ro u) u := by
  unfold B_X8_operand_0
  refine KO_bc hq_u ((ko_F_X9_here (hq_u)  ).tr ko_rf) (fun r_2 u_1 hq_u_1 => ?_)
  refine KO_bc hq_u_1 ((ko_F_X9_type (hq_u_1)  ).tr ko_rf) (fun r_4 u_3 hq_u_3 => ?_)
  refine KO_if ?_ ?_
  · skip
    refine KO_ok ?_
    refine KO_bc hq_u_3 ((ko_F_X6_step (hq_u_3) (hq_u_3).2 ).tr ko_rf) (fun r_8 u_7 hq_u_7 => ?_)
    refine KO_bc hq_u_7 ((ko_F_X9_next (hq_u_7)  ).tr ko_rf) (fun _ u_9 hq_u_9 => ?_)
    refine KO_pc ?_
    exact KO_some (fo_xI ko_rf)
  · skip
    refine KO_if ?_ ?_
    · skip
      refine KO_bt hq_u_3 ((h_ro _ _ _ _ _ (hq_u_3)).tr ko_rf) (fun r_13 u_12 hq_u_12 => ?_)
      exact KO_some ko_rf
    · skip
      refine KO_if ?_ ?_
      · skip
        refine KO_bt hq_u_3 ((h_ro _ _ _ _ _ (hq_u_3)).tr ko_rf) (fun r_17 u_16 hq_u_16 => ?_)
        exact KO_some ko_rf
      · skip
        refine KO_if ?_ ?_
        · skip
          refine KO_bt hq_u_3 ((h_ro _ _ _ _ _ (hq_u_3)).tr ko_rf) (fun r_21 u_20 hq_u_20 => ?_)
          exact KO_some ko_rf
        · skip
          refine KO_if ?_ ?_
          · skip
            refine KO_bt hq_u_3 ((h_ro _ _ _ _ _ (hq_u_3)).tr ko_rf) (fun r_25 u_24 hq_u_24 => ?_)
            exact KO_some ko_rf
          · skip
            refine KO_if ?_ ?_
            · skip
              refine KO_bt hq_u_3 ((ko_F_X8_number (hq_u_3)  ).tr ko_rf) (fun r_29 u_28 hq_u_28 => ?_)
              exact KO_some ko_rf
            · skip
              refine KO_if ?_ ?_
              · skip
                refine KO_bt hq_u_3 ((ko_F_X8_number (hq_u_3)  ).tr ko_rf) (fun r_33 u_32 hq_u_32 => ?_)
                exact KO_some ko_rf
              · skip
                refine KO_bt hq_u_3 ((h_ro _ _ _ _ _ (hq_u_3)).tr ko_rf) (fun r_36 u_35 hq_u_35 => ?_)
                exact KO_some ko_rf
theorem ko_F_X8_operand {N : Nat} {ro : Nat → Nat → Int32 → Int32 → CSt → Option (Sum Nat Int32 × CSt)} {u : CSt} {q : Nat} (hq_u : hq2 q u)  (h_ro : ∀ q' z a b u, hq2 q u → KO q (ro q' z a b u) u) : KO q (F_X8_operand N ro u) u := by
  unfold F_X8_operand
  exact (ko_B_X8_operand_0 (hq_u)  h_ro).tr ko_rf
theorem ko_B_X8_signed_146 {N : Nat} {ro : Nat → Nat → Int32 → Int32 → CSt → Option (Sum Nat Int32 × CSt)} {l2 : Int32} {l4 : Int32} {s1 : Int32} {u : CSt} {q : Nat} (hq_u : hq2 q u)  (h_ro : ∀ q' z a b u, hq2 q u → KO q (ro q' z a b u) u) : KO q (B_X8_signed_146 N ro l2 l4 s1 u) u := by
  unfold B_X8_signed_146
  refine KO_pc ?_
  refine KO_if ?_ ?_
  · skip
    exact KO_some (fo_xL ko_rf)
  · skip
    exact KO_some (fo_xL ko_rf)
theorem ko_B_X8_signed_131 {N : Nat} {ro : Nat → Nat → Int32 → Int32 → CSt → Option (Sum Nat Int32 × CSt)} {l2 : Int32} {l4 : Int32} {s1 : Int32} {u : CSt} {q : Nat} (hq_u : hq2 q u)  (h_ro : ∀ q' z a b u, hq2 q u → KO q (ro q' z a b u) u) : KO q (B_X8_signed_131 N ro l2 l4 s1 u) u := by
  unfold B_X8_signed_131
  refine KO_zr ?_
  refine KO_pc ?_
  refine KO_if ?_ ?_
  · skip
    exact (ko_B_X8_signed_146 (ko_q (fo_xI ko_rf) hq_u)  h_ro).tr (fo_xI ko_rf)
  · skip
    exact (ko_B_X8_signed_146 (ko_q (fo_xI ko_rf) hq_u)  h_ro).tr (fo_xI ko_rf)
theorem ko_B_X8_signed_130 {N : Nat} {ro : Nat → Nat → Int32 → Int32 → CSt → Option (Sum Nat Int32 × CSt)} {l2 : Int32} {l4 : Int32} {u : CSt} {q : Nat} (hq_u : hq2 q u)  (h_ro : ∀ q' z a b u, hq2 q u → KO q (ro q' z a b u) u) : KO q (B_X8_signed_130 N ro l2 l4 u) u := by
  unfold B_X8_signed_130
  exact (ko_B_X8_signed_131 (hq_u)  h_ro).tr ko_rf
theorem ko_B_X8_signed_110 {N : Nat} {ro : Nat → Nat → Int32 → Int32 → CSt → Option (Sum Nat Int32 × CSt)} {l1 : Int32} {l2 : Int32} {l3 : Int32} {l4 : Int32} {s0 : Nat} {s1 : Int32} {s2 : Int32} {s3 : Int32} {u : CSt} {q : Nat} (hq_u : hq2 q u) (h_s0 : s0 = q) (h_ro : ∀ q' z a b u, hq2 q u → KO q (ro q' z a b u) u) : KO q (B_X8_signed_110 N ro l1 l2 l3 l4 s0 s1 s2 s3 u) u := by
  unfold B_X8_signed_110
  refine KO_bc hq_u ((ko_F_X6_step (hq_u) h_s0 ).tr ko_rf) (fun r_9 u_8 hq_u_8 => ?_)
  refine KO_if ?_ ?_
  · skip
    refine KO_if ?_ ?_
    · skip
      exact (ko_B_X8_signed_130 (hq_u_8)  h_ro).tr ko_rf
    · skip
      exact (ko_B_X8_signed_131 (hq_u_8)  h_ro).tr ko_rf
  · skip
    exact (ko_B_X8_signed_130 (hq_u_8)  h_ro).tr ko_rf
theorem ko_B_X8_signed_89 {N : Nat} {ro : Nat → Nat → Int32 → Int32 → CSt → Option (Sum Nat Int32 × CSt)} {l1 : Int32} {l2 : Int32} {l3 : Int32} {l4 : Int32} {s0 : Int32} {u : CSt} {q : Nat} (hq_u : hq2 q u)  (h_ro : ∀ q' z a b u, hq2 q u → KO q (ro q' z a b u) u) : KO q (B_X8_signed_89 N ro l1 l2 l3 l4 s0 u) u := by
  unfold B_X8_signed_89
  refine KO_ok ?_
  refine KO_if ?_ ?_
  · skip
    exact (ko_B_X8_signed_110 (hq_u) (hq_u).2 h_ro).tr ko_rf
  · skip
    exact (ko_B_X8_signed_110 (hq_u) (hq_u).2 h_ro).tr ko_rf
theorem ko_B_X8_signed_54 {N : Nat} {ro : Nat → Nat → Int32 → Int32 → CSt → Option (Sum Nat Int32 × CSt)} {l1 : Int32} {l2 : Int32} {s0 : Int32} {u : CSt} {q : Nat} (hq_u : hq2 q u)  (h_ro : ∀ q' z a b u, hq2 q u → KO q (ro q' z a b u) u) : KO q (B_X8_signed_54 N ro l1 l2 s0 u) u := by
  unfold B_X8_signed_54
  refine KO_bt hq_u ((h_ro _ _ _ _ _ (hq_u)).tr ko_rf) (fun r_15 u_14 hq_u_14 => ?_)
  refine KO_if ?_ ?_
  · skip
    exact (ko_B_X8_signed_89 (hq_u_14)  h_ro).tr ko_rf
  · skip
    refine KO_if ?_ ?_
    · skip
      exact (ko_B_X8_signed_89 (hq_u_14)  h_ro).tr ko_rf
    · skip
      exact (ko_B_X8_signed_89 (hq_u_14)  h_ro).tr ko_rf
theorem ko_B_X8_signed_49 {N : Nat} {ro : Nat → Nat → Int32 → Int32 → CSt → Option (Sum Nat Int32 × CSt)} {l1 : Int32} {l2 : Int32} {u : CSt} {q : Nat} (hq_u : hq2 q u)  (h_ro : ∀ q' z a b u, hq2 q u → KO q (ro q' z a b u) u) : KO q (B_X8_signed_49 N ro l1 l2 u) u := by
  unfold B_X8_signed_49
  exact (ko_B_X8_signed_54 (hq_u)  h_ro).tr ko_rf
theorem ko_B_X8_signed_0 {N : Nat} {ro : Nat → Nat → Int32 → Int32 → CSt → Option (Sum Nat Int32 × CSt)} {l1 : Int32} {u : CSt} {q : Nat} (hq_u : hq2 q u)  (h_ro : ∀ q' z a b u, hq2 q u → KO q (ro q' z a b u) u) : KO q (B_X8_signed_0 N ro l1 u) u := by
  unfold B_X8_signed_0
  refine KO_bc hq_u ((ko_F_X9_type (hq_u)  ).tr ko_rf) (fun r_22 u_21 hq_u_21 => ?_)
  refine KO_ok ?_
  refine KO_bc hq_u_21 ((ko_F_X6_cost (hq_u_21) (hq_u_21).2 ).tr ko_rf) (fun _ u_24 hq_u_24 => ?_)
  refine KO_bc hq_u_24 ((ko_F_X9_next (hq_u_24)  ).tr ko_rf) (fun _ u_25 hq_u_25 => ?_)
  refine KO_bc hq_u_25 ((ko_F_X9_is (hq_u_25)  ).tr ko_rf) (fun r_27 u_26 hq_u_26 => ?_)
  refine KO_if ?_ ?_
  · skip
    refine KO_bc hq_u_26 ((ko_F_X9_is (hq_u_26)  ).tr ko_rf) (fun r_30 u_29 hq_u_29 => ?_)
    refine KO_if ?_ ?_
    · skip
      exact (ko_B_X8_signed_54 (hq_u_29)  h_ro).tr ko_rf
    · skip
      exact (ko_B_X8_signed_49 (hq_u_29)  h_ro).tr ko_rf
  · skip
    exact (ko_B_X8_signed_49 (hq_u_26)  h_ro).tr ko_rf
theorem ko_F_X8_signed {N : Nat} {ro : Nat → Nat → Int32 → Int32 → CSt → Option (Sum Nat Int32 × CSt)} {l1 : Int32} {u : CSt} {q : Nat} (hq_u : hq2 q u)  (h_ro : ∀ q' z a b u, hq2 q u → KO q (ro q' z a b u) u) : KO q (F_X8_signed N ro l1 u) u := by
  unfold F_X8_signed
  exact (ko_B_X8_signed_0 (hq_u)  h_ro).tr ko_rf
theorem ko_B_X8_bracket_0 {N : Nat} {ro : Nat → Nat → Int32 → Int32 → CSt → Option (Sum Nat Int32 × CSt)} {l1 : Int32} {u : CSt} {q : Nat} (hq_u : hq2 q u)  (h_ro : ∀ q' z a b u, hq2 q u → KO q (ro q' z a b u) u) : KO q (B_X8_bracket_0 N ro l1 u) u := by
  unfold B_X8_bracket_0
  refine KO_bc hq_u ((ko_F_X9_next (hq_u)  ).tr ko_rf) (fun _ u_1 hq_u_1 => ?_)
  refine KO_bc hq_u_1 ((ko_F_X9_isKindWord (hq_u_1)  ).tr ko_rf) (fun r_3 u_2 hq_u_2 => ?_)
  refine KO_if ?_ ?_
  · skip
    refine KO_bt hq_u_2 ((h_ro _ _ _ _ _ (hq_u_2)).tr ko_rf) (fun r_18 u_17 hq_u_17 => ?_)
    refine KO_bc hq_u_17 ((ko_F_X9_next (hq_u_17)  ).tr ko_rf) (fun _ u_20 hq_u_20 => ?_)
    exact KO_some ko_rf
  · skip
    refine KO_bc hq_u_2 ((ko_F_X9_takeKind (hq_u_2)  ).tr ko_rf) (fun r_6 u_5 hq_u_5 => ?_)
    refine KO_bc hq_u_5 ((ko_F_X9_next (hq_u_5)  ).tr ko_rf) (fun _ u_7 hq_u_7 => ?_)
    refine KO_ok ?_
    refine KO_bc hq_u_7 ((ko_F_X6_cost (hq_u_7) (hq_u_7).2 ).tr ko_rf) (fun _ u_9 hq_u_9 => ?_)
    refine KO_bt hq_u_9 ((h_ro _ _ _ _ _ (hq_u_9)).tr ko_rf) (fun r_11 u_10 hq_u_10 => ?_)
    refine KO_ok ?_
    refine KO_bc hq_u_10 ((ko_F_X6_step (hq_u_10) (hq_u_10).2 ).tr ko_rf) (fun r_15 u_14 hq_u_14 => ?_)
    refine KO_pc ?_
    exact KO_some (fo_xI ko_rf)
theorem ko_F_X8_bracket {N : Nat} {ro : Nat → Nat → Int32 → Int32 → CSt → Option (Sum Nat Int32 × CSt)} {l1 : Int32} {u : CSt} {q : Nat} (hq_u : hq2 q u)  (h_ro : ∀ q' z a b u, hq2 q u → KO q (ro q' z a b u) u) : KO q (F_X8_bracket N ro l1 u) u := by
  unfold F_X8_bracket
  exact (ko_B_X8_bracket_0 (hq_u)  h_ro).tr ko_rf
theorem ko_B_X8_named_58 {N : Nat} {ro : Nat → Nat → Int32 → Int32 → CSt → Option (Sum Nat Int32 × CSt)} {l1 : Int32} {u : CSt} {q : Nat} (hq_u : hq2 q u)  (h_ro : ∀ q' z a b u, hq2 q u → KO q (ro q' z a b u) u) : KO q (B_X8_named_58 N ro l1 u) u := by
  unfold B_X8_named_58
  refine KO_bt hq_u ((h_ro _ _ _ _ _ (hq_u)).tr ko_rf) (fun r_2 u_1 hq_u_1 => ?_)
  refine KO_pc ?_
  exact KO_some (fo_xI ko_rf)
theorem ko_B_X8_named_0 {N : Nat} {ro : Nat → Nat → Int32 → Int32 → CSt → Option (Sum Nat Int32 × CSt)} {l1 : Int32} {u : CSt} {q : Nat} (hq_u : hq2 q u)  (h_ro : ∀ q' z a b u, hq2 q u → KO q (ro q' z a b u) u) : KO q (B_X8_named_0 N ro l1 u) u := by
  unfold B_X8_named_0
  refine KO_bc hq_u ((ko_F_X9_typeAhead (hq_u)  ).tr ko_rf) (fun r_6 u_5 hq_u_5 => ?_)
  refine KO_if ?_ ?_
  · skip
    refine KO_bt hq_u_5 ((h_ro _ _ _ _ _ (hq_u_5)).tr ko_rf) (fun r_19 u_18 hq_u_18 => ?_)
    refine KO_pc ?_
    exact KO_some (fo_xI ko_rf)
  · skip
    refine KO_bc hq_u_5 ((ko_F_X9_typeAhead (hq_u_5)  ).tr ko_rf) (fun r_9 u_8 hq_u_8 => ?_)
    refine KO_if ?_ ?_
    · skip
      refine KO_bc hq_u_8 ((ko_F_X9_typeAhead (hq_u_8)  ).tr ko_rf) (fun r_12 u_11 hq_u_11 => ?_)
      refine KO_if ?_ ?_
      · skip
        refine KO_bt hq_u_11 ((h_ro _ _ _ _ _ (hq_u_11)).tr ko_rf) (fun r_15 u_14 hq_u_14 => ?_)
        refine KO_pc ?_
        exact KO_some (fo_xI ko_rf)
      · skip
        exact (ko_B_X8_named_58 (hq_u_11)  h_ro).tr ko_rf
    · skip
      exact (ko_B_X8_named_58 (hq_u_8)  h_ro).tr ko_rf
theorem ko_F_X8_named {N : Nat} {ro : Nat → Nat → Int32 → Int32 → CSt → Option (Sum Nat Int32 × CSt)} {l1 : Int32} {u : CSt} {q : Nat} (hq_u : hq2 q u)  (h_ro : ∀ q' z a b u, hq2 q u → KO q (ro q' z a b u) u) : KO q (F_X8_named N ro l1 u) u := by
  unfold F_X8_named
  exact (ko_B_X8_named_0 (hq_u)  h_ro).tr ko_rf
theorem ko_B_X8_ofPlace_58 {N : Nat} {ro : Nat → Nat → Int32 → Int32 → CSt → Option (Sum Nat Int32 × CSt)} {l1 : Int32} {l2 : Nat} {u : CSt} {q : Nat} (hq_u : hq2 q u)  (h_ro : ∀ q' z a b u, hq2 q u → KO q (ro q' z a b u) u) : KO q (B_X8_ofPlace_58 N ro l1 l2 u) u := by
  unfold B_X8_ofPlace_58
  refine KO_bc hq_u ((ko_F_X9_is (hq_u)  ).tr ko_rf) (fun r_2 u_1 hq_u_1 => ?_)
  refine KO_if ?_ ?_
  · skip
    exact KO_some ko_rf
  · skip
    refine KO_ok ?_
    refine KO_bt hq_u_1 ((ko_F_X8_bit (hq_u_1)  ).tr ko_rf) (fun r_6 u_5 hq_u_5 => ?_)
    refine KO_bc hq_u_5 ((ko_F_X6_step (hq_u_5) (hq_u_1).2 ).tr ko_rf) (fun r_9 u_8 hq_u_8 => ?_)
    exact KO_some ko_rf
theorem ko_B_X8_ofPlace_0 {N : Nat} {ro : Nat → Nat → Int32 → Int32 → CSt → Option (Sum Nat Int32 × CSt)} {l1 : Int32} {u : CSt} {q : Nat} (hq_u : hq2 q u)  (h_ro : ∀ q' z a b u, hq2 q u → KO q (ro q' z a b u) u) : KO q (B_X8_ofPlace_0 N ro l1 u) u := by
  unfold B_X8_ofPlace_0
  refine KO_bt hq_u ((ko_F_X8_placeName (hq_u)  ).tr ko_rf) (fun r_11 u_10 hq_u_10 => ?_)
  refine KO_ok ?_
  refine KO_bc hq_u_10 ((ko_F_X9_next (hq_u_10)  ).tr ko_rf) (fun _ u_14 hq_u_14 => ?_)
  refine KO_if ?_ ?_
  · skip
    refine KO_bc hq_u_14 ((ko_F_X8_get (hq_u_14)  ).tr ko_rf) (fun _ u_16 hq_u_16 => ?_)
    exact (ko_B_X8_ofPlace_58 (hq_u_16)  h_ro).tr ko_rf
  · skip
    refine KO_ok ?_
    refine KO_bc hq_u_14 ((ko_F_X6_cost (hq_u_14) (hq_u_14).2 ).tr ko_rf) (fun _ u_18 hq_u_18 => ?_)
    refine KO_bt hq_u_18 ((h_ro _ _ _ _ _ (hq_u_18)).tr ko_rf) (fun _ u_19 hq_u_19 => ?_)
    refine KO_ok ?_
    refine KO_bc hq_u_19 ((ko_F_X6_step (hq_u_19) (hq_u_19).2 ).tr ko_rf) (fun r_23 u_22 hq_u_22 => ?_)
    exact (ko_B_X8_ofPlace_58 (hq_u_22)  h_ro).tr ko_rf
theorem ko_F_X8_ofPlace {N : Nat} {ro : Nat → Nat → Int32 → Int32 → CSt → Option (Sum Nat Int32 × CSt)} {l1 : Int32} {u : CSt} {q : Nat} (hq_u : hq2 q u)  (h_ro : ∀ q' z a b u, hq2 q u → KO q (ro q' z a b u) u) : KO q (F_X8_ofPlace N ro l1 u) u := by
  unfold F_X8_ofPlace
  exact (ko_B_X8_ofPlace_0 (hq_u)  h_ro).tr ko_rf
theorem ko_B_X8_ofInstance_132 {N : Nat} {ro : Nat → Nat → Int32 → Int32 → CSt → Option (Sum Nat Int32 × CSt)} {l2 : Nat} {l3 : Int32} {l4 : Nat} {u : CSt} {q : Nat} (hq_u : hq2 q u)  (h_ro : ∀ q' z a b u, hq2 q u → KO q (ro q' z a b u) u) : KO q (B_X8_ofInstance_132 N ro l2 l3 l4 u) u := by
  unfold B_X8_ofInstance_132
  refine KO_bc hq_u ((ko_F_X9_next (hq_u)  ).tr ko_rf) (fun _ u_1 hq_u_1 => ?_)
  refine KO_if ?_ ?_
  · skip
    refine KO_ok ?_
    refine KO_bc hq_u_1 ((ko_F_X6_step (hq_u_1) (hq_u_1).2 ).tr ko_rf) (fun r_5 u_4 hq_u_4 => ?_)
    exact KO_some ko_rf
  · skip
    refine KO_ok ?_
    refine KO_bc hq_u_1 ((ko_F_X6_cost (hq_u_1) (hq_u_1).2 ).tr ko_rf) (fun _ u_7 hq_u_7 => ?_)
    refine KO_bt hq_u_7 ((h_ro _ _ _ _ _ (hq_u_7)).tr ko_rf) (fun _ u_8 hq_u_8 => ?_)
    refine KO_ok ?_
    refine KO_bc hq_u_8 ((ko_F_X6_step (hq_u_8) (hq_u_8).2 ).tr ko_rf) (fun r_12 u_11 hq_u_11 => ?_)
    refine KO_ok ?_
    refine KO_bc hq_u_11 ((ko_F_X6_step (hq_u_11) (hq_u_11).2 ).tr ko_rf) (fun r_15 u_14 hq_u_14 => ?_)
    exact KO_some ko_rf
theorem ko_B_X8_ofInstance_120 {N : Nat} {ro : Nat → Nat → Int32 → Int32 → CSt → Option (Sum Nat Int32 × CSt)} {l2 : Nat} {l3 : Int32} {l4 : Nat} {s0 : Int32} {s1 : Int32} {u : CSt} {q : Nat} (hq_u : hq2 q u)  (h_ro : ∀ q' z a b u, hq2 q u → KO q (ro q' z a b u) u) : KO q (B_X8_ofInstance_120 N ro l2 l3 l4 s0 s1 u) u := by
  unfold B_X8_ofInstance_120
  refine KO_if ?_ ?_
  · skip
    exact (ko_B_X8_ofInstance_132 (hq_u)  h_ro).tr ko_rf
  · skip
    refine KO_bt hq_u ((ko_F_X9_refuse (hq_u)  ).tr ko_rf) (fun _ u_17 hq_u_17 => ?_)
    exact (ko_B_X8_ofInstance_132 (hq_u_17)  h_ro).tr ko_rf
theorem ko_B_X8_ofInstance_97 {N : Nat} {ro : Nat → Nat → Int32 → Int32 → CSt → Option (Sum Nat Int32 × CSt)} {l2 : Nat} {l3 : Int32} {l4 : Nat} {u : CSt} {q : Nat} (hq_u : hq2 q u)  (h_ro : ∀ q' z a b u, hq2 q u → KO q (ro q' z a b u) u) : KO q (B_X8_ofInstance_97 N ro l2 l3 l4 u) u := by
  unfold B_X8_ofInstance_97
  refine KO_bc hq_u ((ko_F_X9_typeAhead (hq_u)  ).tr ko_rf) (fun r_20 u_19 hq_u_19 => ?_)
  refine KO_if ?_ ?_
  · skip
    exact (ko_B_X8_ofInstance_120 (hq_u_19)  h_ro).tr ko_rf
  · skip
    exact (ko_B_X8_ofInstance_120 (hq_u_19)  h_ro).tr ko_rf
theorem ko_B_X8_ofInstance_22 {N : Nat} {ro : Nat → Nat → Int32 → Int32 → CSt → Option (Sum Nat Int32 × CSt)} {l2 : Nat} {u : CSt} {q : Nat} (hq_u : hq2 q u)  (h_ro : ∀ q' z a b u, hq2 q u → KO q (ro q' z a b u) u) : KO q (B_X8_ofInstance_22 N ro l2 u) u := by
  unfold B_X8_ofInstance_22
  refine KO_bc hq_u ((ko_F_X9_next (hq_u)  ).tr ko_rf) (fun _ u_22 hq_u_22 => ?_)
  refine KO_bc hq_u_22 ((ko_F_X9_next (hq_u_22)  ).tr ko_rf) (fun _ u_23 hq_u_23 => ?_)
  refine KO_bc hq_u_23 ((ko_F_X9_here (hq_u_23)  ).tr ko_rf) (fun r_25 u_24 hq_u_24 => ?_)
  refine KO_ok ?_
  refine KO_bc hq_u_24 ((ko_F_X6_name (hq_u_24) (hq_u_24).2 ).tr ko_rf) (fun r_28 u_27 hq_u_27 => ?_)
  refine KO_ok ?_
  refine KO_bc hq_u_27 ((ko_F_X9_head (hq_u_27)  ).tr ko_rf) (fun r_31 u_30 hq_u_30 => ?_)
  refine KO_bc hq_u_30 ((ko_F_X9_tail (hq_u_30)  ).tr ko_rf) (fun r_33 u_32 hq_u_32 => ?_)
  refine KO_bc hq_u_32 ((ko_F_X6_localCalled (hq_u_32) (hq_u_24).2 ).tr ko_rf) (fun r_35 u_34 hq_u_34 => ?_)
  refine KO_ok ?_
  refine KO_if ?_ ?_
  · skip
    refine KO_bt hq_u_34 ((ko_F_X9_refuse (hq_u_34)  ).tr ko_rf) (fun _ u_38 hq_u_38 => ?_)
    exact (ko_B_X8_ofInstance_97 (hq_u_38)  h_ro).tr ko_rf
  · skip
    exact (ko_B_X8_ofInstance_97 (hq_u_34)  h_ro).tr ko_rf
theorem ko_B_X8_ofInstance_0 {N : Nat} {ro : Nat → Nat → Int32 → Int32 → CSt → Option (Sum Nat Int32 × CSt)} {l1 : Int32} {u : CSt} {q : Nat} (hq_u : hq2 q u)  (h_ro : ∀ q' z a b u, hq2 q u → KO q (ro q' z a b u) u) : KO q (B_X8_ofInstance_0 N ro l1 u) u := by
  unfold B_X8_ofInstance_0
  refine KO_bc hq_u ((ko_F_X8_known (hq_u)  ).tr ko_rf) (fun r_41 u_40 hq_u_40 => ?_)
  refine KO_ok ?_
  refine KO_if ?_ ?_
  · skip
    exact (ko_B_X8_ofInstance_22 (hq_u_40)  h_ro).tr ko_rf
  · skip
    refine KO_bt hq_u_40 ((ko_F_X9_refuse (hq_u_40)  ).tr ko_rf) (fun _ u_44 hq_u_44 => ?_)
    exact (ko_B_X8_ofInstance_22 (hq_u_44)  h_ro).tr ko_rf
theorem ko_F_X8_ofInstance {N : Nat} {ro : Nat → Nat → Int32 → Int32 → CSt → Option (Sum Nat Int32 × CSt)} {l1 : Int32} {u : CSt} {q : Nat} (hq_u : hq2 q u)  (h_ro : ∀ q' z a b u, hq2 q u → KO q (ro q' z a b u) u) : KO q (F_X8_ofInstance N ro l1 u) u := by
  unfold F_X8_ofInstance
  exact (ko_B_X8_ofInstance_0 (hq_u)  h_ro).tr ko_rf
theorem ko_B_X8_called_31 {N : Nat} {ro : Nat → Nat → Int32 → Int32 → CSt → Option (Sum Nat Int32 × CSt)} {l1 : Int32} {l2 : Nat} {u : CSt} {q : Nat} (hq_u : hq2 q u)  (h_ro : ∀ q' z a b u, hq2 q u → KO q (ro q' z a b u) u) : KO q (B_X8_called_31 N ro l1 l2 u) u := by
  unfold B_X8_called_31
  refine KO_ok ?_
  refine KO_bc hq_u ((ko_F_X6_cost (hq_u) (hq_u).2 ).tr ko_rf) (fun _ u_2 hq_u_2 => ?_)
  refine KO_if ?_ ?_
  · skip
    refine KO_bt hq_u_2 ((h_ro _ _ _ _ _ (hq_u_2)).tr ko_rf) (fun r_10 u_9 hq_u_9 => ?_)
    exact KO_some ko_rf
  · skip
    refine KO_bt hq_u_2 ((h_ro _ _ _ _ _ (hq_u_2)).tr ko_rf) (fun _ u_4 hq_u_4 => ?_)
    refine KO_ok ?_
    refine KO_bc hq_u_4 ((ko_F_X6_step (hq_u_4) (hq_u_4).2 ).tr ko_rf) (fun r_8 u_7 hq_u_7 => ?_)
    exact KO_some ko_rf
theorem ko_B_X8_called_0 {N : Nat} {ro : Nat → Nat → Int32 → Int32 → CSt → Option (Sum Nat Int32 × CSt)} {l1 : Int32} {u : CSt} {q : Nat} (hq_u : hq2 q u)  (h_ro : ∀ q' z a b u, hq2 q u → KO q (ro q' z a b u) u) : KO q (B_X8_called_0 N ro l1 u) u := by
  unfold B_X8_called_0
  refine KO_bc hq_u ((ko_F_X8_known (hq_u)  ).tr ko_rf) (fun r_13 u_12 hq_u_12 => ?_)
  refine KO_ok ?_
  refine KO_if ?_ ?_
  · skip
    exact (ko_B_X8_called_31 (hq_u_12)  h_ro).tr ko_rf
  · skip
    refine KO_if ?_ ?_
    · skip
      exact (ko_B_X8_called_31 (hq_u_12)  h_ro).tr ko_rf
    · skip
      refine KO_bt hq_u_12 ((ko_F_X9_refuse (hq_u_12)  ).tr ko_rf) (fun _ u_17 hq_u_17 => ?_)
      exact (ko_B_X8_called_31 (hq_u_17)  h_ro).tr ko_rf
theorem ko_F_X8_called {N : Nat} {ro : Nat → Nat → Int32 → Int32 → CSt → Option (Sum Nat Int32 × CSt)} {l1 : Int32} {u : CSt} {q : Nat} (hq_u : hq2 q u)  (h_ro : ∀ q' z a b u, hq2 q u → KO q (ro q' z a b u) u) : KO q (F_X8_called N ro l1 u) u := by
  unfold F_X8_called
  exact (ko_B_X8_called_0 (hq_u)  h_ro).tr ko_rf
theorem ko_B_X8_builtIn_71 {N : Nat} {ro : Nat → Nat → Int32 → Int32 → CSt → Option (Sum Nat Int32 × CSt)} {R_22 : Nat × Int32 × Int32 × Int32 × Int32 × CSt → Option ((Sum Nat Int32) × CSt)} {l1 : Nat} {l2 : Int32} {l4 : Int32} {l5 : Int32} {l6 : Int32} {s0 : Int32} {u : CSt} {q : Nat} (hq_u : hq2 q u)  (h_ro : ∀ q' z a b u, hq2 q u → KO q (ro q' z a b u) u) (h_R_22 : ∀ a, hq2 q a.2.2.2.2.2 → KO q (R_22 a) a.2.2.2.2.2) : KO q (B_X8_builtIn_71 N ro R_22 l1 l2 l4 l5 l6 s0 u) u := by
  unfold B_X8_builtIn_71
  exact (h_R_22 _ (hq_u)).tr ko_rf
theorem ko_B_X8_builtIn_54 {N : Nat} {ro : Nat → Nat → Int32 → Int32 → CSt → Option (Sum Nat Int32 × CSt)} {R_22 : Nat × Int32 × Int32 × Int32 × Int32 × CSt → Option ((Sum Nat Int32) × CSt)} {l1 : Nat} {l2 : Int32} {l3 : Int32} {l4 : Int32} {l5 : Int32} {u : CSt} {q : Nat} (hq_u : hq2 q u)  (h_ro : ∀ q' z a b u, hq2 q u → KO q (ro q' z a b u) u) (h_R_22 : ∀ a, hq2 q a.2.2.2.2.2 → KO q (R_22 a) a.2.2.2.2.2) : KO q (B_X8_builtIn_54 N ro R_22 l1 l2 l3 l4 l5 u) u := by
  unfold B_X8_builtIn_54
  refine KO_bt hq_u ((h_ro _ _ _ _ _ (hq_u)).tr ko_rf) (fun r_4 u_3 hq_u_3 => ?_)
  refine KO_if ?_ ?_
  · skip
    exact (ko_B_X8_builtIn_71 (hq_u_3)  h_ro h_R_22).tr ko_rf
  · skip
    exact (ko_B_X8_builtIn_71 (hq_u_3)  h_ro h_R_22).tr ko_rf
theorem ko_B_X8_builtIn_215 {N : Nat} {ro : Nat → Nat → Int32 → Int32 → CSt → Option (Sum Nat Int32 × CSt)} {u : CSt} {q : Nat} (hq_u : hq2 q u)  (h_ro : ∀ q' z a b u, hq2 q u → KO q (ro q' z a b u) u) : KO q (B_X8_builtIn_215 N ro u) u := by
  unfold B_X8_builtIn_215
  exact KO_some ko_rf
theorem ko_B_X8_builtIn_192 {N : Nat} {ro : Nat → Nat → Int32 → Int32 → CSt → Option (Sum Nat Int32 × CSt)} {l1 : Nat} {l2 : Int32} {l7 : Int32} {s0 : Nat} {s1 : Int32} {s2 : Int32} {s3 : Int32} {u : CSt} {q : Nat} (hq_u : hq2 q u) (h_s0 : s0 = q) (h_ro : ∀ q' z a b u, hq2 q u → KO q (ro q' z a b u) u) : KO q (B_X8_builtIn_192 N ro l1 l2 l7 s0 s1 s2 s3 u) u := by
  unfold B_X8_builtIn_192
  refine KO_bc hq_u ((ko_F_X6_step (hq_u) h_s0 ).tr ko_rf) (fun r_8 u_7 hq_u_7 => ?_)
  refine KO_if ?_ ?_
  · skip
    exact (ko_B_X8_builtIn_215 (hq_u_7)  h_ro).tr ko_rf
  · skip
    refine KO_if ?_ ?_
    · skip
      exact (ko_B_X8_builtIn_215 (hq_u_7)  h_ro).tr ko_rf
    · skip
      exact KO_some ko_rf
theorem ko_B_X8_builtIn_169 {N : Nat} {ro : Nat → Nat → Int32 → Int32 → CSt → Option (Sum Nat Int32 × CSt)} {l1 : Nat} {l2 : Int32} {l7 : Int32} {s0 : Int32} {u : CSt} {q : Nat} (hq_u : hq2 q u)  (h_ro : ∀ q' z a b u, hq2 q u → KO q (ro q' z a b u) u) : KO q (B_X8_builtIn_169 N ro l1 l2 l7 s0 u) u := by
  unfold B_X8_builtIn_169
  refine KO_ok ?_
  refine KO_if ?_ ?_
  · skip
    exact (ko_B_X8_builtIn_192 (hq_u) (hq_u).2 h_ro).tr ko_rf
  · skip
    exact (ko_B_X8_builtIn_192 (hq_u) (hq_u).2 h_ro).tr ko_rf
theorem ko_B_X8_builtIn_152 {N : Nat} {ro : Nat → Nat → Int32 → Int32 → CSt → Option (Sum Nat Int32 × CSt)} {l1 : Nat} {l2 : Int32} {s0 : Int32} {u : CSt} {q : Nat} (hq_u : hq2 q u)  (h_ro : ∀ q' z a b u, hq2 q u → KO q (ro q' z a b u) u) : KO q (B_X8_builtIn_152 N ro l1 l2 s0 u) u := by
  unfold B_X8_builtIn_152
  refine KO_if ?_ ?_
  · skip
    exact (ko_B_X8_builtIn_169 (hq_u)  h_ro).tr ko_rf
  · skip
    exact (ko_B_X8_builtIn_169 (hq_u)  h_ro).tr ko_rf
theorem ko_B_X8_builtIn_135 {N : Nat} {ro : Nat → Nat → Int32 → Int32 → CSt → Option (Sum Nat Int32 × CSt)} {l1 : Nat} {l2 : Int32} {l3 : Int32} {l4 : Int32} {s0 : Int32} {u : CSt} {q : Nat} (hq_u : hq2 q u)  (h_ro : ∀ q' z a b u, hq2 q u → KO q (ro q' z a b u) u) : KO q (B_X8_builtIn_135 N ro l1 l2 l3 l4 s0 u) u := by
  unfold B_X8_builtIn_135
  refine KO_if ?_ ?_
  · skip
    exact (ko_B_X8_builtIn_152 (hq_u)  h_ro).tr ko_rf
  · skip
    exact (ko_B_X8_builtIn_152 (hq_u)  h_ro).tr ko_rf
theorem ko_B_X8_builtIn_130 {N : Nat} {ro : Nat → Nat → Int32 → Int32 → CSt → Option (Sum Nat Int32 × CSt)} {l1 : Nat} {l2 : Int32} {l3 : Int32} {l4 : Int32} {u : CSt} {q : Nat} (hq_u : hq2 q u)  (h_ro : ∀ q' z a b u, hq2 q u → KO q (ro q' z a b u) u) : KO q (B_X8_builtIn_130 N ro l1 l2 l3 l4 u) u := by
  unfold B_X8_builtIn_130
  exact (ko_B_X8_builtIn_135 (hq_u)  h_ro).tr ko_rf
theorem ko_B_X8_builtIn_112 {N : Nat} {ro : Nat → Nat → Int32 → Int32 → CSt → Option (Sum Nat Int32 × CSt)} {l1 : Nat} {l2 : Int32} {l3 : Int32} {l4 : Int32} {u : CSt} {q : Nat} (hq_u : hq2 q u)  (h_ro : ∀ q' z a b u, hq2 q u → KO q (ro q' z a b u) u) : KO q (B_X8_builtIn_112 N ro l1 l2 l3 l4 u) u := by
  unfold B_X8_builtIn_112
  refine KO_if ?_ ?_
  · skip
    exact (ko_B_X8_builtIn_130 (hq_u)  h_ro).tr ko_rf
  · skip
    refine KO_if ?_ ?_
    · skip
      exact (ko_B_X8_builtIn_130 (hq_u)  h_ro).tr ko_rf
    · skip
      exact (ko_B_X8_builtIn_135 (hq_u)  h_ro).tr ko_rf
theorem ko_B_X8_builtIn_87 {N : Nat} {ro : Nat → Nat → Int32 → Int32 → CSt → Option (Sum Nat Int32 × CSt)} {l1 : Nat} {l2 : Int32} {l3 : Int32} {l4 : Int32} {l5 : Int32} {u : CSt} {q : Nat} (hq_u : hq2 q u)  (h_ro : ∀ q' z a b u, hq2 q u → KO q (ro q' z a b u) u) : KO q (B_X8_builtIn_87 N ro l1 l2 l3 l4 l5 u) u := by
  unfold B_X8_builtIn_87
  refine KO_bc hq_u ((ko_F_X9_next (hq_u)  ).tr ko_rf) (fun _ u_19 hq_u_19 => ?_)
  refine KO_if ?_ ?_
  · skip
    exact (ko_B_X8_builtIn_112 (hq_u_19)  h_ro).tr ko_rf
  · skip
    refine KO_bt hq_u_19 ((ko_F_X9_refuse (hq_u_19)  ).tr ko_rf) (fun _ u_21 hq_u_21 => ?_)
    exact (ko_B_X8_builtIn_112 (hq_u_21)  h_ro).tr ko_rf
theorem ko_B_X8_builtIn_22 {N : Nat} {ro : Nat → Nat → Int32 → Int32 → CSt → Option (Sum Nat Int32 × CSt)} {R_22 : Nat × Int32 × Int32 × Int32 × Int32 × CSt → Option ((Sum Nat Int32) × CSt)} {l1 : Nat} {l2 : Int32} {l3 : Int32} {l4 : Int32} {l5 : Int32} {u : CSt} {q : Nat} (hq_u : hq2 q u)  (h_ro : ∀ q' z a b u, hq2 q u → KO q (ro q' z a b u) u) (h_R_22 : ∀ a, hq2 q a.2.2.2.2.2 → KO q (R_22 a) a.2.2.2.2.2) : KO q (B_X8_builtIn_22 N ro R_22 l1 l2 l3 l4 l5 u) u := by
  unfold B_X8_builtIn_22
  refine KO_if ?_ ?_
  · skip
    exact (ko_B_X8_builtIn_87 (hq_u)  h_ro).tr ko_rf
  · skip
    refine KO_bc hq_u ((ko_F_X9_is (hq_u)  ).tr ko_rf) (fun r_25 u_24 hq_u_24 => ?_)
    refine KO_if ?_ ?_
    · skip
      refine KO_if ?_ ?_
      · skip
        exact (ko_B_X8_builtIn_54 (hq_u_24)  h_ro h_R_22).tr ko_rf
      · skip
        refine KO_bc hq_u_24 ((ko_F_X9_next (hq_u_24)  ).tr ko_rf) (fun _ u_28 hq_u_28 => ?_)
        exact (ko_B_X8_builtIn_54 (hq_u_28)  h_ro h_R_22).tr ko_rf
    · skip
      exact (ko_B_X8_builtIn_87 (hq_u_24)  h_ro).tr ko_rf
theorem ko_LP_X8_builtIn_22 {N : Nat} {ro : Nat → Nat → Int32 → Int32 → CSt → Option (Sum Nat Int32 × CSt)} {q : Nat} (h_ro : ∀ q' z a b u, hq2 q u → KO q (ro q' z a b u) u) (n : Nat) : ∀ a : Nat × Int32 × Int32 × Int32 × Int32 × CSt, hq2 q a.2.2.2.2.2 → KO q (LP_X8_builtIn_22 N ro n a) a.2.2.2.2.2 := by
  induction n with
  | zero => exact fun a _ r z e => by have e : (none : Option _) = some (r, z) := e; cases e
  | succ n ih =>
    intro a hq
    show KO q (B_X8_builtIn_22 N ro (LP_X8_builtIn_22 N ro n) a.1 a.2.1 a.2.2.1 a.2.2.2.1 a.2.2.2.2.1 a.2.2.2.2.2) a.2.2.2.2.2
    exact ko_B_X8_builtIn_22 hq  h_ro ih
theorem ko_B_X8_builtIn_0 {N : Nat} {ro : Nat → Nat → Int32 → Int32 → CSt → Option (Sum Nat Int32 × CSt)} {l1 : Nat} {l2 : Int32} {u : CSt} {q : Nat} (hq_u : hq2 q u)  (h_ro : ∀ q' z a b u, hq2 q u → KO q (ro q' z a b u) u) : KO q (B_X8_builtIn_0 N ro l1 l2 u) u := by
  unfold B_X8_builtIn_0
  refine KO_bc hq_u ((ko_F_X9_next (hq_u)  ).tr ko_rf) (fun _ u_29 hq_u_29 => ?_)
  refine KO_bc hq_u_29 ((ko_F_X9_next (hq_u_29)  ).tr ko_rf) (fun _ u_30 hq_u_30 => ?_)
  exact (ko_LP_X8_builtIn_22 h_ro _ _ (hq_u_30)).tr ko_rf
theorem ko_F_X8_builtIn {N : Nat} {ro : Nat → Nat → Int32 → Int32 → CSt → Option (Sum Nat Int32 × CSt)} {l1 : Nat} {l2 : Int32} {u : CSt} {q : Nat} (hq_u : hq2 q u)  (h_ro : ∀ q' z a b u, hq2 q u → KO q (ro q' z a b u) u) : KO q (F_X8_builtIn N ro l1 l2 u) u := by
  unfold F_X8_builtIn
  exact (ko_B_X8_builtIn_0 (hq_u)  h_ro).tr ko_rf
theorem ko_B_X8_arguments_147 {N : Nat} {ro : Nat → Nat → Int32 → Int32 → CSt → Option (Sum Nat Int32 × CSt)} {R_17 : Nat × Int32 × Int32 × Int32 × CSt → Option ((Sum Nat Int32) × CSt)} {l1 : Nat} {l2 : Int32} {l3 : Int32} {l4 : Int32} {u : CSt} {q : Nat} (hq_u : hq2 q u)  (h_ro : ∀ q' z a b u, hq2 q u → KO q (ro q' z a b u) u) (h_R_17 : ∀ a, hq2 q a.2.2.2.2 → KO q (R_17 a) a.2.2.2.2) : KO q (B_X8_arguments_147 N ro R_17 l1 l2 l3 l4 u) u := by
  unfold B_X8_arguments_147
  exact (h_R_17 _ (hq_u)).tr ko_rf
theorem ko_B_X8_arguments_109 {N : Nat} {ro : Nat → Nat → Int32 → Int32 → CSt → Option (Sum Nat Int32 × CSt)} {R_17 : Nat × Int32 × Int32 × Int32 × CSt → Option ((Sum Nat Int32) × CSt)} {l1 : Nat} {l2 : Int32} {l3 : Int32} {l4 : Int32} {l5 : Int32} {l7 : Nat} {u : CSt} {q : Nat} (hq_u : hq2 q u)  (h_ro : ∀ q' z a b u, hq2 q u → KO q (ro q' z a b u) u) (h_R_17 : ∀ a, hq2 q a.2.2.2.2 → KO q (R_17 a) a.2.2.2.2) : KO q (B_X8_arguments_109 N ro R_17 l1 l2 l3 l4 l5 l7 u) u := by
  unfold B_X8_arguments_109
  refine KO_if ?_ ?_
  · skip
    refine KO_if ?_ ?_
    · skip
      exact (ko_B_X8_arguments_147 (hq_u)  h_ro h_R_17).tr ko_rf
    · skip
      refine KO_ok ?_
      refine KO_bc hq_u ((ko_F_X6_step (hq_u) (hq_u).2 ).tr ko_rf) (fun r_5 u_4 hq_u_4 => ?_)
      exact (ko_B_X8_arguments_147 (hq_u_4)  h_ro h_R_17).tr ko_rf
  · skip
    exact (ko_B_X8_arguments_147 (hq_u)  h_ro h_R_17).tr ko_rf
theorem ko_B_X8_arguments_49 {N : Nat} {ro : Nat → Nat → Int32 → Int32 → CSt → Option (Sum Nat Int32 × CSt)} {R_17 : Nat × Int32 × Int32 × Int32 × CSt → Option ((Sum Nat Int32) × CSt)} {l1 : Nat} {l2 : Int32} {l3 : Int32} {l4 : Int32} {u : CSt} {q : Nat} (hq_u : hq2 q u)  (h_ro : ∀ q' z a b u, hq2 q u → KO q (ro q' z a b u) u) (h_R_17 : ∀ a, hq2 q a.2.2.2.2 → KO q (R_17 a) a.2.2.2.2) : KO q (B_X8_arguments_49 N ro R_17 l1 l2 l3 l4 u) u := by
  unfold B_X8_arguments_49
  refine KO_bc hq_u ((ko_F_X9_here (hq_u)  ).tr ko_rf) (fun r_7 u_6 hq_u_6 => ?_)
  refine KO_bt hq_u_6 ((h_ro _ _ _ _ _ (hq_u_6)).tr ko_rf) (fun r_9 u_8 hq_u_8 => ?_)
  refine KO_ok ?_
  refine KO_bc hq_u_8 ((ko_F_X6_local (hq_u_8) (hq_u_8).2 ).tr ko_rf) (fun r_13 u_12 hq_u_12 => ?_)
  refine KO_ok ?_
  refine KO_if ?_ ?_
  · skip
    refine KO_bc hq_u_12 ((ko_F_X8_isTooWide (hq_u_12)  ).tr ko_rf) (fun r_17 u_16 hq_u_16 => ?_)
    refine KO_if ?_ ?_
    · skip
      exact (ko_B_X8_arguments_109 (hq_u_16)  h_ro h_R_17).tr ko_rf
    · skip
      refine KO_bt hq_u_16 ((ko_F_X9_refuse (hq_u_16)  ).tr ko_rf) (fun _ u_19 hq_u_19 => ?_)
      exact (ko_B_X8_arguments_109 (hq_u_19)  h_ro h_R_17).tr ko_rf
  · skip
    exact (ko_B_X8_arguments_109 (hq_u_12)  h_ro h_R_17).tr ko_rf
theorem ko_B_X8_arguments_153 {N : Nat} {ro : Nat → Nat → Int32 → Int32 → CSt → Option (Sum Nat Int32 × CSt)} {l1 : Nat} {l3 : Int32} {l4 : Int32} {u : CSt} {q : Nat} (hq_u : hq2 q u)  (h_ro : ∀ q' z a b u, hq2 q u → KO q (ro q' z a b u) u) : KO q (B_X8_arguments_153 N ro l1 l3 l4 u) u := by
  unfold B_X8_arguments_153
  refine KO_bc hq_u ((ko_F_X9_next (hq_u)  ).tr ko_rf) (fun _ u_21 hq_u_21 => ?_)
  refine KO_if ?_ ?_
  · skip
    exact KO_some ko_rf
  · skip
    refine KO_bt hq_u_21 ((ko_F_X9_refuse (hq_u_21)  ).tr ko_rf) (fun _ u_23 hq_u_23 => ?_)
    exact KO_some ko_rf
theorem ko_B_X8_arguments_17 {N : Nat} {ro : Nat → Nat → Int32 → Int32 → CSt → Option (Sum Nat Int32 × CSt)} {R_17 : Nat × Int32 × Int32 × Int32 × CSt → Option ((Sum Nat Int32) × CSt)} {l1 : Nat} {l2 : Int32} {l3 : Int32} {l4 : Int32} {u : CSt} {q : Nat} (hq_u : hq2 q u)  (h_ro : ∀ q' z a b u, hq2 q u → KO q (ro q' z a b u) u) (h_R_17 : ∀ a, hq2 q a.2.2.2.2 → KO q (R_17 a) a.2.2.2.2) : KO q (B_X8_arguments_17 N ro R_17 l1 l2 l3 l4 u) u := by
  unfold B_X8_arguments_17
  refine KO_if ?_ ?_
  · skip
    exact (ko_B_X8_arguments_153 (hq_u)  h_ro).tr ko_rf
  · skip
    refine KO_bc hq_u ((ko_F_X9_is (hq_u)  ).tr ko_rf) (fun r_27 u_26 hq_u_26 => ?_)
    refine KO_if ?_ ?_
    · skip
      refine KO_if ?_ ?_
      · skip
        exact (ko_B_X8_arguments_49 (hq_u_26)  h_ro h_R_17).tr ko_rf
      · skip
        refine KO_bc hq_u_26 ((ko_F_X9_next (hq_u_26)  ).tr ko_rf) (fun _ u_30 hq_u_30 => ?_)
        exact (ko_B_X8_arguments_49 (hq_u_30)  h_ro h_R_17).tr ko_rf
    · skip
      exact (ko_B_X8_arguments_153 (hq_u_26)  h_ro).tr ko_rf
theorem ko_LP_X8_arguments_17 {N : Nat} {ro : Nat → Nat → Int32 → Int32 → CSt → Option (Sum Nat Int32 × CSt)} {q : Nat} (h_ro : ∀ q' z a b u, hq2 q u → KO q (ro q' z a b u) u) (n : Nat) : ∀ a : Nat × Int32 × Int32 × Int32 × CSt, hq2 q a.2.2.2.2 → KO q (LP_X8_arguments_17 N ro n a) a.2.2.2.2 := by
  induction n with
  | zero => exact fun a _ r z e => by have e : (none : Option _) = some (r, z) := e; cases e
  | succ n ih =>
    intro a hq
    show KO q (B_X8_arguments_17 N ro (LP_X8_arguments_17 N ro n) a.1 a.2.1 a.2.2.1 a.2.2.2.1 a.2.2.2.2) a.2.2.2.2
    exact ko_B_X8_arguments_17 hq  h_ro ih
theorem ko_B_X8_arguments_0 {N : Nat} {ro : Nat → Nat → Int32 → Int32 → CSt → Option (Sum Nat Int32 × CSt)} {l1 : Nat} {l2 : Int32} {l3 : Int32} {u : CSt} {q : Nat} (hq_u : hq2 q u)  (h_ro : ∀ q' z a b u, hq2 q u → KO q (ro q' z a b u) u) : KO q (B_X8_arguments_0 N ro l1 l2 l3 u) u := by
  unfold B_X8_arguments_0
  refine KO_bc hq_u ((ko_F_X9_next (hq_u)  ).tr ko_rf) (fun _ u_31 hq_u_31 => ?_)
  refine KO_bc hq_u_31 ((ko_F_X9_next (hq_u_31)  ).tr ko_rf) (fun _ u_32 hq_u_32 => ?_)
  exact (ko_LP_X8_arguments_17 h_ro _ _ (hq_u_32)).tr ko_rf
theorem ko_F_X8_arguments {N : Nat} {ro : Nat → Nat → Int32 → Int32 → CSt → Option (Sum Nat Int32 × CSt)} {l1 : Nat} {l2 : Int32} {l3 : Int32} {u : CSt} {q : Nat} (hq_u : hq2 q u)  (h_ro : ∀ q' z a b u, hq2 q u → KO q (ro q' z a b u) u) : KO q (F_X8_arguments N ro l1 l2 l3 u) u := by
  unfold F_X8_arguments
  exact (ko_B_X8_arguments_0 (hq_u)  h_ro).tr ko_rf
theorem ko_B_X8_index_22 {N : Nat} {ro : Nat → Nat → Int32 → Int32 → CSt → Option (Sum Nat Int32 × CSt)} {l1 : Nat} {l2 : Int32} {s0 : Nat} {s1 : Int32} {u : CSt} {q : Nat} (hq_u : hq2 q u) (h_s0 : s0 = q) (h_ro : ∀ q' z a b u, hq2 q u → KO q (ro q' z a b u) u) : KO q (B_X8_index_22 N ro l1 l2 s0 s1 u) u := by
  unfold B_X8_index_22
  refine KO_bc hq_u ((ko_F_X6_step (hq_u) h_s0 ).tr ko_rf) (fun r_2 u_1 hq_u_1 => ?_)
  exact KO_some ko_rf
theorem ko_B_X8_index_0 {N : Nat} {ro : Nat → Nat → Int32 → Int32 → CSt → Option (Sum Nat Int32 × CSt)} {l1 : Nat} {l2 : Int32} {u : CSt} {q : Nat} (hq_u : hq2 q u)  (h_ro : ∀ q' z a b u, hq2 q u → KO q (ro q' z a b u) u) : KO q (B_X8_index_0 N ro l1 l2 u) u := by
  unfold B_X8_index_0
  refine KO_bt hq_u ((h_ro _ _ _ _ _ (hq_u)).tr ko_rf) (fun _ u_3 hq_u_3 => ?_)
  refine KO_ok ?_
  refine KO_bc hq_u_3 ((ko_F_X4_isLocal (hq_u_3)  ).tr ko_rf) (fun r_7 u_6 hq_u_6 => ?_)
  refine KO_if ?_ ?_
  · skip
    exact (ko_B_X8_index_22 (hq_u_6) (hq_u_3).2 h_ro).tr ko_rf
  · skip
    exact (ko_B_X8_index_22 (hq_u_6) (hq_u_3).2 h_ro).tr ko_rf
theorem ko_F_X8_index {N : Nat} {ro : Nat → Nat → Int32 → Int32 → CSt → Option (Sum Nat Int32 × CSt)} {l1 : Nat} {l2 : Int32} {u : CSt} {q : Nat} (hq_u : hq2 q u)  (h_ro : ∀ q' z a b u, hq2 q u → KO q (ro q' z a b u) u) : KO q (F_X8_index N ro l1 l2 u) u := by
  unfold F_X8_index
  exact (ko_B_X8_index_0 (hq_u)  h_ro).tr ko_rf
theorem ko_B_X8_indexNumber_32 {N : Nat} {ro : Nat → Nat → Int32 → Int32 → CSt → Option (Sum Nat Int32 × CSt)} {u : CSt} {q : Nat} (hq_u : hq2 q u)  (h_ro : ∀ q' z a b u, hq2 q u → KO q (ro q' z a b u) u) : KO q (B_X8_indexNumber_32 N ro u) u := by
  unfold B_X8_indexNumber_32
  refine KO_bc hq_u ((ko_F_X9_next (hq_u)  ).tr ko_rf) (fun _ u_1 hq_u_1 => ?_)
  exact KO_some ko_rf
theorem ko_B_X8_indexNumber_0 {N : Nat} {ro : Nat → Nat → Int32 → Int32 → CSt → Option (Sum Nat Int32 × CSt)} {u : CSt} {q : Nat} (hq_u : hq2 q u)  (h_ro : ∀ q' z a b u, hq2 q u → KO q (ro q' z a b u) u) : KO q (B_X8_indexNumber_0 N ro u) u := by
  unfold B_X8_indexNumber_0
  refine KO_bc hq_u ((ko_F_X9_next (hq_u)  ).tr ko_rf) (fun _ u_2 hq_u_2 => ?_)
  refine KO_bc hq_u_2 ((ko_F_X9_here (hq_u_2)  ).tr ko_rf) (fun r_4 u_3 hq_u_3 => ?_)
  refine KO_bt hq_u_3 ((h_ro _ _ _ _ _ (hq_u_3)).tr ko_rf) (fun r_6 u_5 hq_u_5 => ?_)
  refine KO_if ?_ ?_
  · skip
    refine KO_bt hq_u_5 ((ko_F_X9_refuse (hq_u_5)  ).tr ko_rf) (fun _ u_9 hq_u_9 => ?_)
    exact (ko_B_X8_indexNumber_32 (hq_u_9)  h_ro).tr ko_rf
  · skip
    exact (ko_B_X8_indexNumber_32 (hq_u_5)  h_ro).tr ko_rf
theorem ko_F_X8_indexNumber {N : Nat} {ro : Nat → Nat → Int32 → Int32 → CSt → Option (Sum Nat Int32 × CSt)} {u : CSt} {q : Nat} (hq_u : hq2 q u)  (h_ro : ∀ q' z a b u, hq2 q u → KO q (ro q' z a b u) u) : KO q (F_X8_indexNumber N ro u) u := by
  unfold F_X8_indexNumber
  exact (ko_B_X8_indexNumber_0 (hq_u)  h_ro).tr ko_rf
theorem ko_FTE_ {N q0 : Nat} : ∀ (d q z : Nat) (a b : Int32) (u : CSt), hq2 q0 u → KO q0 (FTE_ N d q z a b u) u := by
  intro d
  induction d with
  | zero => exact fun q z a b u _ => KO_none
  | succ d ih =>
    intro q z a b u hq
    show KO q0 (if q = 0 then F_X8_expression N (FTE_ N d) u else if q = 1 then F_X8_operators N (FTE_ N d) u else if q = 2 then F_X8_operand N (FTE_ N d) u else if q = 3 then F_X8_signed N (FTE_ N d) a u else if q = 4 then F_X8_bracket N (FTE_ N d) a u else if q = 5 then F_X8_named N (FTE_ N d) a u else if q = 6 then F_X8_ofPlace N (FTE_ N d) a u else if q = 7 then F_X8_ofInstance N (FTE_ N d) a u else if q = 8 then F_X8_called N (FTE_ N d) a u else if q = 9 then F_X8_builtIn N (FTE_ N d) z a u else if q = 10 then F_X8_arguments N (FTE_ N d) z a b u else if q = 11 then F_X8_index N (FTE_ N d) z a u else if q = 12 then F_X8_indexNumber N (FTE_ N d) u else none) u
    refine KO_if (ko_F_X8_expression hq ih) ?_
    refine KO_if (ko_F_X8_operators hq ih) ?_
    refine KO_if (ko_F_X8_operand hq ih) ?_
    refine KO_if (ko_F_X8_signed hq ih) ?_
    refine KO_if (ko_F_X8_bracket hq ih) ?_
    refine KO_if (ko_F_X8_named hq ih) ?_
    refine KO_if (ko_F_X8_ofPlace hq ih) ?_
    refine KO_if (ko_F_X8_ofInstance hq ih) ?_
    refine KO_if (ko_F_X8_called hq ih) ?_
    refine KO_if (ko_F_X8_builtIn hq ih) ?_
    refine KO_if (ko_F_X8_arguments hq ih) ?_
    refine KO_if (ko_F_X8_index hq ih) ?_
    refine KO_if (ko_F_X8_indexNumber hq ih) ?_
    exact KO_none
theorem ko_G_X8_expression {N : Nat} {u : CSt} {q : Nat} (hq : hq2 q u) : KO q (G_X8_expression N u) u := ko_FTE_ _ _ _ _ _ _ hq
theorem ko_G_X8_arguments {N : Nat} {l1 : Nat} {l2 : Int32} {l3 : Int32} {u : CSt} {q : Nat} (hq : hq2 q u) : KO q (G_X8_arguments N l1 l2 l3 u) u := ko_FTE_ _ _ _ _ _ _ hq
theorem ko_G_X8_index {N : Nat} {l1 : Nat} {l2 : Int32} {u : CSt} {q : Nat} (hq : hq2 q u) : KO q (G_X8_index N l1 l2 u) u := ko_FTE_ _ _ _ _ _ _ hq
theorem ko_B_X3_allot_0 {N : Nat} {l1 : Int32} {l2 : Int32} {l3 : Int32} {u : CSt} {q : Nat} (hq_u : hq2 q u)   : KO q (B_X3_allot_0 N l1 l2 l3 u) u := by
  unfold B_X3_allot_0
  refine KO_rd (fun v_2 => ?_)
  refine KO_wc ?_
  refine KO_pc ?_
  refine KO_rd (fun v_7 => ?_)
  refine KO_if ?_ ?_
  · skip
    exact KO_some (fo_xI (fo_xA ko_rf))
  · skip
    refine KO_bt hq_u ((ko_F_X9_refuse (ko_q (fo_xI (fo_xA ko_rf)) hq_u)  ).tr (fo_xI (fo_xA ko_rf))) (fun _ u_9 hq_u_9 => ?_)
    exact KO_some ko_rf
theorem ko_F_X3_allot {N : Nat} {l1 : Int32} {l2 : Int32} {l3 : Int32} {u : CSt} {q : Nat} (hq_u : hq2 q u)   : KO q (F_X3_allot N l1 l2 l3 u) u := by
  unfold F_X3_allot
  exact (ko_B_X3_allot_0 (hq_u)  ).tr ko_rf
theorem ko_B_X3_constant_60 {N : Nat} {l1 : Int32} {l3 : Int32} {l5 : Int64} {u : CSt} {q : Nat} (hq_u : hq2 q u)   : KO q (B_X3_constant_60 N l1 l3 l5 u) u := by
  unfold B_X3_constant_60
  refine KO_if ?_ ?_
  · skip
    refine KO_bt hq_u ((ko_F_X9_refuse (hq_u)  ).tr ko_rf) (fun _ u_4 hq_u_4 => ?_)
    exact KO_some ko_rf
  · skip
    exact KO_some ko_rf
theorem ko_B_X3_constant_21 {N : Nat} {l1 : Int32} {l2 : Int32} {u : CSt} {q : Nat} (hq_u : hq2 q u)   : KO q (B_X3_constant_21 N l1 l2 u) u := by
  unfold B_X3_constant_21
  refine KO_bc hq_u ((ko_F_X9_here (hq_u)  ).tr ko_rf) (fun r_7 u_6 hq_u_6 => ?_)
  refine KO_bc hq_u_6 ((ko_F_X9_isWide (hq_u_6)  ).tr ko_rf) (fun r_9 u_8 hq_u_8 => ?_)
  refine KO_bt hq_u_8 ((ko_F_X9_takeNumber (hq_u_8)  ).tr ko_rf) (fun r_11 u_10 hq_u_10 => ?_)
  refine KO_if ?_ ?_
  · skip
    exact (ko_B_X3_constant_60 (hq_u_10)  ).tr ko_rf
  · skip
    exact (ko_B_X3_constant_60 (hq_u_10)  ).tr ko_rf
theorem ko_B_X3_constant_0 {N : Nat} {l1 : Int32} {u : CSt} {q : Nat} (hq_u : hq2 q u)   : KO q (B_X3_constant_0 N l1 u) u := by
  unfold B_X3_constant_0
  refine KO_bc hq_u ((ko_F_X9_is (hq_u)  ).tr ko_rf) (fun r_17 u_16 hq_u_16 => ?_)
  refine KO_if ?_ ?_
  · skip
    exact (ko_B_X3_constant_21 (hq_u_16)  ).tr ko_rf
  · skip
    refine KO_bc hq_u_16 ((ko_F_X9_next (hq_u_16)  ).tr ko_rf) (fun _ u_19 hq_u_19 => ?_)
    exact (ko_B_X3_constant_21 (hq_u_19)  ).tr ko_rf
theorem ko_F_X3_constant {N : Nat} {l1 : Int32} {u : CSt} {q : Nat} (hq_u : hq2 q u)   : KO q (F_X3_constant N l1 u) u := by
  unfold F_X3_constant
  exact (ko_B_X3_constant_0 (hq_u)  ).tr ko_rf
theorem ko_B_X3_put_0 {N : Nat} {l1 : Nat} {l2 : Int32} {u : CSt} {q : Nat} (hq_u : hq2 q u)   : KO q (B_X3_put_0 N l1 l2 u) u := by
  unfold B_X3_put_0
  refine KO_if ?_ ?_
  · skip
    refine KO_bc hq_u ((ko_F_X8_set (hq_u)  ).tr ko_rf) (fun _ u_2 hq_u_2 => ?_)
    exact KO_some ko_rf
  · skip
    refine KO_ok ?_
    refine KO_bc hq_u ((ko_F_X6_step (hq_u) (hq_u).1 ).tr ko_rf) (fun r_5 u_4 hq_u_4 => ?_)
    exact KO_some ko_rf
theorem ko_F_X3_put {N : Nat} {l1 : Nat} {l2 : Int32} {u : CSt} {q : Nat} (hq_u : hq2 q u)   : KO q (F_X3_put N l1 l2 u) u := by
  unfold F_X3_put
  exact (ko_B_X3_put_0 (hq_u)  ).tr ko_rf
theorem ko_B_X3_setPlain_0 {N : Nat} {l1 : Nat} {u : CSt} {q : Nat} (hq_u : hq2 q u)   : KO q (B_X3_setPlain_0 N l1 u) u := by
  unfold B_X3_setPlain_0
  refine KO_bc hq_u ((ko_F_X9_here (hq_u)  ).tr ko_rf) (fun r_2 u_1 hq_u_1 => ?_)
  refine KO_bc hq_u_1 ((ko_F_X9_next (hq_u_1)  ).tr ko_rf) (fun _ u_3 hq_u_3 => ?_)
  refine KO_bt hq_u_3 ((ko_G_X8_expression (hq_u_3)  ).tr ko_rf) (fun r_5 u_4 hq_u_4 => ?_)
  refine KO_bc hq_u_4 ((ko_F_X8_isTooWide (hq_u_4)  ).tr ko_rf) (fun r_8 u_7 hq_u_7 => ?_)
  refine KO_if ?_ ?_
  · skip
    exact KO_some ko_rf
  · skip
    refine KO_bt hq_u_7 ((ko_F_X9_refuse (hq_u_7)  ).tr ko_rf) (fun _ u_10 hq_u_10 => ?_)
    exact KO_some ko_rf
theorem ko_F_X3_setPlain {N : Nat} {l1 : Nat} {u : CSt} {q : Nat} (hq_u : hq2 q u)   : KO q (F_X3_setPlain N l1 u) u := by
  unfold F_X3_setPlain
  exact (ko_B_X3_setPlain_0 (hq_u)  ).tr ko_rf
theorem ko_B_X3_setBit_75 {N : Nat} {l1 : Nat} {l2 : Int32} {l3 : Int32} {u : CSt} {q : Nat} (hq_u : hq2 q u)   : KO q (B_X3_setBit_75 N l1 l2 l3 u) u := by
  unfold B_X3_setBit_75
  refine KO_ok ?_
  refine KO_bc hq_u ((ko_F_X6_step (hq_u) (hq_u).1 ).tr ko_rf) (fun r_3 u_2 hq_u_2 => ?_)
  refine KO_bc hq_u_2 ((ko_F_X3_put (hq_u_2)  ).tr ko_rf) (fun _ u_4 hq_u_4 => ?_)
  exact KO_some ko_rf
theorem ko_B_X3_setBit_27 {N : Nat} {l1 : Nat} {l2 : Int32} {l3 : Int32} {u : CSt} {q : Nat} (hq_u : hq2 q u)   : KO q (B_X3_setBit_27 N l1 l2 l3 u) u := by
  unfold B_X3_setBit_27
  refine KO_bc hq_u ((ko_F_X9_next (hq_u)  ).tr ko_rf) (fun _ u_5 hq_u_5 => ?_)
  refine KO_bt hq_u_5 ((ko_G_X8_expression (hq_u_5)  ).tr ko_rf) (fun r_7 u_6 hq_u_6 => ?_)
  refine KO_if ?_ ?_
  · skip
    refine KO_bc hq_u_6 ((ko_F_X8_get (hq_u_6)  ).tr ko_rf) (fun _ u_10 hq_u_10 => ?_)
    exact (ko_B_X3_setBit_75 (hq_u_10)  ).tr ko_rf
  · skip
    refine KO_ok ?_
    refine KO_bc hq_u_6 ((ko_F_X6_step (hq_u_6) (hq_u_6).1 ).tr ko_rf) (fun r_13 u_12 hq_u_12 => ?_)
    exact (ko_B_X3_setBit_75 (hq_u_12)  ).tr ko_rf
theorem ko_B_X3_setBit_0 {N : Nat} {l1 : Nat} {l2 : Int32} {l3 : Int32} {u : CSt} {q : Nat} (hq_u : hq2 q u)   : KO q (B_X3_setBit_0 N l1 l2 l3 u) u := by
  unfold B_X3_setBit_0
  refine KO_bc hq_u ((ko_F_X9_is (hq_u)  ).tr ko_rf) (fun r_15 u_14 hq_u_14 => ?_)
  refine KO_if ?_ ?_
  · skip
    refine KO_bc hq_u_14 ((ko_F_X9_here (hq_u_14)  ).tr ko_rf) (fun r_18 u_17 hq_u_17 => ?_)
    refine KO_bt hq_u_17 ((ko_F_X9_refuse (hq_u_17)  ).tr ko_rf) (fun _ u_19 hq_u_19 => ?_)
    exact (ko_B_X3_setBit_27 (hq_u_19)  ).tr ko_rf
  · skip
    exact (ko_B_X3_setBit_27 (hq_u_14)  ).tr ko_rf
theorem ko_F_X3_setBit {N : Nat} {l1 : Nat} {l2 : Int32} {l3 : Int32} {u : CSt} {q : Nat} (hq_u : hq2 q u)   : KO q (F_X3_setBit N l1 l2 l3 u) u := by
  unfold F_X3_setBit
  exact (ko_B_X3_setBit_0 (hq_u)  ).tr ko_rf
theorem ko_B_X3_change_98 {N : Nat} {l1 : Nat} {l4 : Int32} {s1 : Int32} {u : CSt} {q : Nat} (hq_u : hq2 q u)   : KO q (B_X3_change_98 N l1 l4 s1 u) u := by
  unfold B_X3_change_98
  refine KO_bc hq_u ((ko_F_X8_combine (hq_u)  ).tr ko_rf) (fun r_2 u_1 hq_u_1 => ?_)
  exact KO_some ko_rf
theorem ko_B_X3_change_71 {N : Nat} {l1 : Nat} {l3 : Int32} {l4 : Int32} {u : CSt} {q : Nat} (hq_u : hq2 q u)   : KO q (B_X3_change_71 N l1 l3 l4 u) u := by
  unfold B_X3_change_71
  refine KO_ok ?_
  refine KO_bc hq_u ((ko_F_X6_constant (hq_u) (hq_u).1 ).tr ko_rf) (fun _ u_4 hq_u_4 => ?_)
  refine KO_if ?_ ?_
  · skip
    exact (ko_B_X3_change_98 (hq_u_4)  ).tr ko_rf
  · skip
    exact (ko_B_X3_change_98 (hq_u_4)  ).tr ko_rf
theorem ko_B_X3_change_50 {N : Nat} {l1 : Nat} {l3 : Int32} {l4 : Int32} {u : CSt} {q : Nat} (hq_u : hq2 q u)   : KO q (B_X3_change_50 N l1 l3 l4 u) u := by
  unfold B_X3_change_50
  refine KO_bc hq_u ((ko_F_X9_next (hq_u)  ).tr ko_rf) (fun _ u_6 hq_u_6 => ?_)
  refine KO_if ?_ ?_
  · skip
    exact (ko_B_X3_change_71 (hq_u_6)  ).tr ko_rf
  · skip
    refine KO_if ?_ ?_
    · skip
      exact (ko_B_X3_change_71 (hq_u_6)  ).tr ko_rf
    · skip
      refine KO_bt hq_u_6 ((ko_G_X8_expression (hq_u_6)  ).tr ko_rf) (fun r_10 u_9 hq_u_9 => ?_)
      refine KO_pb (fun r_12 => ?_)
      refine KO_bc hq_u_9 ((ko_F_X8_combine (hq_u_9)  ).tr ko_rf) (fun r_16 u_15 hq_u_15 => ?_)
      exact KO_some ko_rf
theorem ko_B_X3_change_0 {N : Nat} {l1 : Nat} {l2 : Int32} {u : CSt} {q : Nat} (hq_u : hq2 q u)   : KO q (B_X3_change_0 N l1 l2 u) u := by
  unfold B_X3_change_0
  refine KO_bc hq_u ((ko_F_X9_type (hq_u)  ).tr ko_rf) (fun r_18 u_17 hq_u_17 => ?_)
  refine KO_bc hq_u_17 ((ko_F_X9_here (hq_u_17)  ).tr ko_rf) (fun r_20 u_19 hq_u_19 => ?_)
  refine KO_if ?_ ?_
  · skip
    refine KO_bc hq_u_19 ((ko_F_X8_get (hq_u_19)  ).tr ko_rf) (fun _ u_22 hq_u_22 => ?_)
    exact (ko_B_X3_change_50 (hq_u_22)  ).tr ko_rf
  · skip
    refine KO_ok ?_
    refine KO_bc hq_u_19 ((ko_F_X6_step (hq_u_19) (hq_u_19).1 ).tr ko_rf) (fun r_25 u_24 hq_u_24 => ?_)
    exact (ko_B_X3_change_50 (hq_u_24)  ).tr ko_rf
theorem ko_F_X3_change {N : Nat} {l1 : Nat} {l2 : Int32} {u : CSt} {q : Nat} (hq_u : hq2 q u)   : KO q (F_X3_change N l1 l2 u) u := by
  unfold F_X3_change
  exact (ko_B_X3_change_0 (hq_u)  ).tr ko_rf
theorem ko_B_X3_assignment_104 {N : Nat} {u : CSt} {q : Nat} (hq_u : hq2 q u)   : KO q (B_X3_assignment_104 N u) u := by
  unfold B_X3_assignment_104
  refine KO_bc hq_u ((ko_F_X9_next (hq_u)  ).tr ko_rf) (fun _ u_1 hq_u_1 => ?_)
  exact KO_some ko_rf
theorem ko_B_X3_assignment_32 {N : Nat} {l1 : Int32} {l2 : Nat} {u : CSt} {q : Nat} (hq_u : hq2 q u)   : KO q (B_X3_assignment_32 N l1 l2 u) u := by
  unfold B_X3_assignment_32
  refine KO_bc hq_u ((ko_F_X9_is (hq_u)  ).tr ko_rf) (fun r_3 u_2 hq_u_2 => ?_)
  refine KO_if ?_ ?_
  · skip
    refine KO_bc hq_u_2 ((ko_F_X9_is (hq_u_2)  ).tr ko_rf) (fun r_6 u_5 hq_u_5 => ?_)
    refine KO_if ?_ ?_
    · skip
      refine KO_bt hq_u_5 ((ko_F_X3_change (hq_u_5)  ).tr ko_rf) (fun _ u_8 hq_u_8 => ?_)
      refine KO_bc hq_u_8 ((ko_F_X3_put (hq_u_8)  ).tr ko_rf) (fun _ u_10 hq_u_10 => ?_)
      exact (ko_B_X3_assignment_104 (hq_u_10)  ).tr ko_rf
    · skip
      refine KO_bt hq_u_5 ((ko_F_X3_setPlain (hq_u_5)  ).tr ko_rf) (fun _ u_11 hq_u_11 => ?_)
      refine KO_bc hq_u_11 ((ko_F_X3_put (hq_u_11)  ).tr ko_rf) (fun _ u_13 hq_u_13 => ?_)
      exact (ko_B_X3_assignment_104 (hq_u_13)  ).tr ko_rf
  · skip
    refine KO_bt hq_u_2 ((ko_F_X8_bit (hq_u_2)  ).tr ko_rf) (fun r_15 u_14 hq_u_14 => ?_)
    refine KO_bt hq_u_14 ((ko_F_X3_setBit (hq_u_14)  ).tr ko_rf) (fun _ u_17 hq_u_17 => ?_)
    exact (ko_B_X3_assignment_104 (hq_u_17)  ).tr ko_rf
theorem ko_B_X3_assignment_0 {N : Nat} {l1 : Int32} {u : CSt} {q : Nat} (hq_u : hq2 q u)   : KO q (B_X3_assignment_0 N l1 u) u := by
  unfold B_X3_assignment_0
  refine KO_bt hq_u ((ko_F_X8_placeName (hq_u)  ).tr ko_rf) (fun r_20 u_19 hq_u_19 => ?_)
  refine KO_ok ?_
  refine KO_bc hq_u_19 ((ko_F_X9_next (hq_u_19)  ).tr ko_rf) (fun _ u_23 hq_u_23 => ?_)
  refine KO_if ?_ ?_
  · skip
    exact (ko_B_X3_assignment_32 (hq_u_23)  ).tr ko_rf
  · skip
    refine KO_bt hq_u_23 ((ko_G_X8_index (hq_u_23)  ).tr ko_rf) (fun _ u_25 hq_u_25 => ?_)
    exact (ko_B_X3_assignment_32 (hq_u_25)  ).tr ko_rf
theorem ko_F_X3_assignment {N : Nat} {l1 : Int32} {u : CSt} {q : Nat} (hq_u : hq2 q u)   : KO q (F_X3_assignment N l1 u) u := by
  unfold F_X3_assignment
  exact (ko_B_X3_assignment_0 (hq_u)  ).tr ko_rf
theorem ko_B_X3_instanceCall_25 {N : Nat} {l1 : Int32} {l2 : Nat} {u : CSt} {q : Nat} (hq_u : hq2 q u)   : KO q (B_X3_instanceCall_25 N l1 l2 u) u := by
  unfold B_X3_instanceCall_25
  refine KO_ok ?_
  refine KO_bc hq_u ((ko_F_X6_cost (hq_u) (hq_u).1 ).tr ko_rf) (fun _ u_2 hq_u_2 => ?_)
  refine KO_ok ?_
  refine KO_bc hq_u_2 ((ko_F_X6_name (hq_u_2) (hq_u_2).1 ).tr ko_rf) (fun r_5 u_4 hq_u_4 => ?_)
  refine KO_ok ?_
  refine KO_bt hq_u_4 ((ko_G_X8_arguments (hq_u_4)  ).tr ko_rf) (fun _ u_7 hq_u_7 => ?_)
  refine KO_ok ?_
  refine KO_bc hq_u_7 ((ko_F_X6_step (hq_u_7) (hq_u_7).1 ).tr ko_rf) (fun r_11 u_10 hq_u_10 => ?_)
  refine KO_bc hq_u_10 ((ko_F_X9_next (hq_u_10)  ).tr ko_rf) (fun _ u_12 hq_u_12 => ?_)
  exact KO_some ko_rf
theorem ko_B_X3_instanceCall_0 {N : Nat} {l1 : Int32} {u : CSt} {q : Nat} (hq_u : hq2 q u)   : KO q (B_X3_instanceCall_0 N l1 u) u := by
  unfold B_X3_instanceCall_0
  refine KO_bc hq_u ((ko_F_X8_known (hq_u)  ).tr ko_rf) (fun r_14 u_13 hq_u_13 => ?_)
  refine KO_ok ?_
  refine KO_if ?_ ?_
  · skip
    exact (ko_B_X3_instanceCall_25 (hq_u_13)  ).tr ko_rf
  · skip
    refine KO_bt hq_u_13 ((ko_F_X9_refuse (hq_u_13)  ).tr ko_rf) (fun _ u_17 hq_u_17 => ?_)
    exact (ko_B_X3_instanceCall_25 (hq_u_17)  ).tr ko_rf
theorem ko_F_X3_instanceCall {N : Nat} {l1 : Int32} {u : CSt} {q : Nat} (hq_u : hq2 q u)   : KO q (F_X3_instanceCall N l1 u) u := by
  unfold F_X3_instanceCall
  exact (ko_B_X3_instanceCall_0 (hq_u)  ).tr ko_rf
theorem ko_B_X3_leave_69 {N : Nat} {u : CSt} {q : Nat} (hq_u : hq2 q u)   : KO q (B_X3_leave_69 N u) u := by
  unfold B_X3_leave_69
  refine KO_bc hq_u ((ko_F_X9_next (hq_u)  ).tr ko_rf) (fun _ u_1 hq_u_1 => ?_)
  refine KO_bc hq_u_1 ((ko_F_X9_next (hq_u_1)  ).tr ko_rf) (fun _ u_2 hq_u_2 => ?_)
  exact KO_some ko_rf
theorem ko_B_X3_leave_16 {N : Nat} {l1 : Int32} {u : CSt} {q : Nat} (hq_u : hq2 q u)   : KO q (B_X3_leave_16 N l1 u) u := by
  unfold B_X3_leave_16
  refine KO_bc hq_u ((ko_F_X9_is (hq_u)  ).tr ko_rf) (fun r_4 u_3 hq_u_3 => ?_)
  refine KO_if ?_ ?_
  · skip
    refine KO_ok ?_
    refine KO_bc hq_u_3 ((ko_F_X6_step (hq_u_3) (hq_u_3).1 ).tr ko_rf) (fun r_8 u_7 hq_u_7 => ?_)
    refine KO_pc ?_
    exact (ko_B_X3_leave_69 (ko_q (fo_xI ko_rf) hq_u_7)  ).tr (fo_xI ko_rf)
  · skip
    refine KO_ok ?_
    refine KO_bc hq_u_3 ((ko_F_X6_step (hq_u_3) (hq_u_3).1 ).tr ko_rf) (fun r_12 u_11 hq_u_11 => ?_)
    refine KO_pc ?_
    exact (ko_B_X3_leave_69 (ko_q (fo_xI ko_rf) hq_u_11)  ).tr (fo_xI ko_rf)
theorem ko_B_X3_leave_0 {N : Nat} {l1 : Int32} {u : CSt} {q : Nat} (hq_u : hq2 q u)   : KO q (B_X3_leave_0 N l1 u) u := by
  unfold B_X3_leave_0
  refine KO_if ?_ ?_
  · skip
    refine KO_bt hq_u ((ko_F_X9_refuse (hq_u)  ).tr ko_rf) (fun _ u_15 hq_u_15 => ?_)
    exact (ko_B_X3_leave_16 (hq_u_15)  ).tr ko_rf
  · skip
    exact (ko_B_X3_leave_16 (hq_u)  ).tr ko_rf
theorem ko_F_X3_leave {N : Nat} {l1 : Int32} {u : CSt} {q : Nat} (hq_u : hq2 q u)   : KO q (F_X3_leave N l1 u) u := by
  unfold F_X3_leave
  exact (ko_B_X3_leave_0 (hq_u)  ).tr ko_rf
theorem ko_B_X3_returned_147 {N : Nat} {u : CSt} {q : Nat} (hq_u : hq2 q u)   : KO q (B_X3_returned_147 N u) u := by
  unfold B_X3_returned_147
  refine KO_bc hq_u ((ko_F_X9_next (hq_u)  ).tr ko_rf) (fun _ u_1 hq_u_1 => ?_)
  exact KO_some ko_rf
theorem ko_B_X3_returned_115 {N : Nat} {l1 : Int32} {l3 : Nat} {u : CSt} {q : Nat} (hq_u : hq2 q u)   : KO q (B_X3_returned_115 N l1 l3 u) u := by
  unfold B_X3_returned_115
  refine KO_ok ?_
  refine KO_bc hq_u ((ko_F_X6_step (hq_u) (hq_u).1 ).tr ko_rf) (fun r_4 u_3 hq_u_3 => ?_)
  exact (ko_B_X3_returned_147 (hq_u_3)  ).tr ko_rf
theorem ko_B_X3_returned_60 {N : Nat} {l1 : Int32} {l2 : Int32} {l3 : Nat} {u : CSt} {q : Nat} (hq_u : hq2 q u)   : KO q (B_X3_returned_60 N l1 l2 l3 u) u := by
  unfold B_X3_returned_60
  refine KO_bc hq_u ((ko_F_X9_next (hq_u)  ).tr ko_rf) (fun _ u_5 hq_u_5 => ?_)
  refine KO_if ?_ ?_
  · skip
    refine KO_ok ?_
    refine KO_bc hq_u_5 ((ko_F_X6_step (hq_u_5) (hq_u_5).1 ).tr ko_rf) (fun r_9 u_8 hq_u_8 => ?_)
    exact (ko_B_X3_returned_147 (hq_u_8)  ).tr ko_rf
  · skip
    refine KO_bc hq_u_5 ((ko_F_X9_here (hq_u_5)  ).tr ko_rf) (fun r_11 u_10 hq_u_10 => ?_)
    refine KO_bt hq_u_10 ((ko_G_X8_expression (hq_u_10)  ).tr ko_rf) (fun r_13 u_12 hq_u_12 => ?_)
    refine KO_bc hq_u_12 ((ko_F_X8_isTooWide (hq_u_12)  ).tr ko_rf) (fun r_16 u_15 hq_u_15 => ?_)
    refine KO_if ?_ ?_
    · skip
      exact (ko_B_X3_returned_115 (hq_u_15)  ).tr ko_rf
    · skip
      refine KO_bt hq_u_15 ((ko_F_X9_refuse (hq_u_15)  ).tr ko_rf) (fun _ u_18 hq_u_18 => ?_)
      exact (ko_B_X3_returned_115 (hq_u_18)  ).tr ko_rf
theorem ko_B_X3_returned_48 {N : Nat} {l1 : Int32} {l2 : Int32} {l3 : Nat} {s0 : Int32} {s1 : Int32} {u : CSt} {q : Nat} (hq_u : hq2 q u)   : KO q (B_X3_returned_48 N l1 l2 l3 s0 s1 u) u := by
  unfold B_X3_returned_48
  refine KO_if ?_ ?_
  · skip
    exact (ko_B_X3_returned_60 (hq_u)  ).tr ko_rf
  · skip
    refine KO_bt hq_u ((ko_F_X9_refuse (hq_u)  ).tr ko_rf) (fun _ u_21 hq_u_21 => ?_)
    exact (ko_B_X3_returned_60 (hq_u_21)  ).tr ko_rf
theorem ko_B_X3_returned_18 {N : Nat} {l1 : Int32} {s0 : Int32} {u : CSt} {q : Nat} (hq_u : hq2 q u)   : KO q (B_X3_returned_18 N l1 s0 u) u := by
  unfold B_X3_returned_18
  refine KO_ok ?_
  refine KO_bc hq_u ((ko_F_X6_name (hq_u) (hq_u).1 ).tr ko_rf) (fun r_25 u_24 hq_u_24 => ?_)
  refine KO_ok ?_
  refine KO_if ?_ ?_
  · skip
    exact (ko_B_X3_returned_48 (hq_u_24)  ).tr ko_rf
  · skip
    exact (ko_B_X3_returned_48 (hq_u_24)  ).tr ko_rf
theorem ko_B_X3_returned_0 {N : Nat} {l1 : Int32} {u : CSt} {q : Nat} (hq_u : hq2 q u)   : KO q (B_X3_returned_0 N l1 u) u := by
  unfold B_X3_returned_0
  refine KO_bc hq_u ((ko_F_X9_typeAhead (hq_u)  ).tr ko_rf) (fun r_29 u_28 hq_u_28 => ?_)
  refine KO_if ?_ ?_
  · skip
    exact (ko_B_X3_returned_18 (hq_u_28)  ).tr ko_rf
  · skip
    exact (ko_B_X3_returned_18 (hq_u_28)  ).tr ko_rf
theorem ko_F_X3_returned {N : Nat} {l1 : Int32} {u : CSt} {q : Nat} (hq_u : hq2 q u)   : KO q (F_X3_returned N l1 u) u := by
  unfold F_X3_returned
  exact (ko_B_X3_returned_0 (hq_u)  ).tr ko_rf
theorem ko_B_X3_labels_90 {N : Nat} {R_2 : Int32 × CSt → Option ((Sum Nat Int32) × CSt)} {l1 : Int32} {l2 : Int64} {l4 : Int64} {u : CSt} {q : Nat} (hq_u : hq2 q u)  (h_R_2 : ∀ a, hq2 q a.2 → KO q (R_2 a) a.2) : KO q (B_X3_labels_90 N R_2 l1 l2 l4 u) u := by
  unfold B_X3_labels_90
  refine KO_ok ?_
  refine KO_bc hq_u ((ko_F_X6_label (hq_u) (hq_u).1 ).tr ko_rf) (fun _ u_2 hq_u_2 => ?_)
  exact (h_R_2 _ (hq_u_2)).tr ko_rf
theorem ko_B_X3_labels_2 {N : Nat} {R_2 : Int32 × CSt → Option ((Sum Nat Int32) × CSt)} {l1 : Int32} {u : CSt} {q : Nat} (hq_u : hq2 q u)  (h_R_2 : ∀ a, hq2 q a.2 → KO q (R_2 a) a.2) : KO q (B_X3_labels_2 N R_2 l1 u) u := by
  unfold B_X3_labels_2
  refine KO_if ?_ ?_
  · skip
    exact KO_some ko_rf
  · skip
    refine KO_bc hq_u ((ko_F_X9_is (hq_u)  ).tr ko_rf) (fun r_5 u_4 hq_u_4 => ?_)
    refine KO_if ?_ ?_
    · skip
      refine KO_bc hq_u_4 ((ko_F_X9_next (hq_u_4)  ).tr ko_rf) (fun _ u_7 hq_u_7 => ?_)
      refine KO_bt hq_u_7 ((ko_F_X3_constant (hq_u_7)  ).tr ko_rf) (fun r_9 u_8 hq_u_8 => ?_)
      refine KO_bc hq_u_8 ((ko_F_X9_is (hq_u_8)  ).tr ko_rf) (fun r_12 u_11 hq_u_11 => ?_)
      refine KO_if ?_ ?_
      · skip
        exact (ko_B_X3_labels_90 (hq_u_11)  h_R_2).tr ko_rf
      · skip
        refine KO_bc hq_u_11 ((ko_F_X9_next (hq_u_11)  ).tr ko_rf) (fun _ u_14 hq_u_14 => ?_)
        refine KO_bc hq_u_14 ((ko_F_X9_here (hq_u_14)  ).tr ko_rf) (fun r_16 u_15 hq_u_15 => ?_)
        refine KO_bt hq_u_15 ((ko_F_X3_constant (hq_u_15)  ).tr ko_rf) (fun r_18 u_17 hq_u_17 => ?_)
        refine KO_if ?_ ?_
        · skip
          exact (ko_B_X3_labels_90 (hq_u_17)  h_R_2).tr ko_rf
        · skip
          refine KO_bt hq_u_17 ((ko_F_X9_refuse (hq_u_17)  ).tr ko_rf) (fun _ u_21 hq_u_21 => ?_)
          exact (ko_B_X3_labels_90 (hq_u_21)  h_R_2).tr ko_rf
    · skip
      exact KO_some ko_rf
theorem ko_LP_X3_labels_2 {N : Nat} {q : Nat}  (n : Nat) : ∀ a : Int32 × CSt, hq2 q a.2 → KO q (LP_X3_labels_2 N n a) a.2 := by
  induction n with
  | zero => exact fun a _ r z e => by have e : (none : Option _) = some (r, z) := e; cases e
  | succ n ih =>
    intro a hq
    show KO q (B_X3_labels_2 N (LP_X3_labels_2 N n) a.1 a.2) a.2
    exact ko_B_X3_labels_2 hq  ih
theorem ko_B_X3_labels_0 {N : Nat} {u : CSt} {q : Nat} (hq_u : hq2 q u)   : KO q (B_X3_labels_0 N u) u := by
  unfold B_X3_labels_0
  exact (ko_LP_X3_labels_2  _ _ (hq_u)).tr ko_rf
theorem ko_F_X3_labels {N : Nat} {u : CSt} {q : Nat} (hq_u : hq2 q u)   : KO q (F_X3_labels N u) u := by
  unfold F_X3_labels
  exact (ko_B_X3_labels_0 (hq_u)  ).tr ko_rf
theorem ko_B_X3_body_0 {N : Nat} {ro : Nat → Nat → Int32 → Int32 → CSt → Option (Sum Nat Int32 × CSt)} {u : CSt} {q : Nat} (hq_u : hq2 q u)  (h_ro : ∀ q' z a b u, hq2 q u → KO q (ro q' z a b u) u) : KO q (B_X3_body_0 N ro u) u := by
  unfold B_X3_body_0
  refine KO_bc hq_u ((ko_F_X9_next (hq_u)  ).tr ko_rf) (fun _ u_1 hq_u_1 => ?_)
  refine KO_bt hq_u_1 ((h_ro _ _ _ _ _ (hq_u_1)).tr ko_rf) (fun r_3 u_2 hq_u_2 => ?_)
  exact KO_some ko_rf
theorem ko_F_X3_body {N : Nat} {ro : Nat → Nat → Int32 → Int32 → CSt → Option (Sum Nat Int32 × CSt)} {u : CSt} {q : Nat} (hq_u : hq2 q u)  (h_ro : ∀ q' z a b u, hq2 q u → KO q (ro q' z a b u) u) : KO q (F_X3_body N ro u) u := by
  unfold F_X3_body
  exact (ko_B_X3_body_0 (hq_u)  h_ro).tr ko_rf
theorem ko_B_X3_statements_31 {N : Nat} {ro : Nat → Nat → Int32 → Int32 → CSt → Option (Sum Nat Int32 × CSt)} {u : CSt} {q : Nat} (hq_u : hq2 q u)  (h_ro : ∀ q' z a b u, hq2 q u → KO q (ro q' z a b u) u) : KO q (B_X3_statements_31 N ro u) u := by
  unfold B_X3_statements_31
  refine KO_bc hq_u ((ko_F_X9_here (hq_u)  ).tr ko_rf) (fun r_2 u_1 hq_u_1 => ?_)
  refine KO_bc hq_u_1 ((ko_F_X9_next (hq_u_1)  ).tr ko_rf) (fun _ u_3 hq_u_3 => ?_)
  exact KO_some ko_rf
theorem ko_B_X3_statements_2 {N : Nat} {ro : Nat → Nat → Int32 → Int32 → CSt → Option (Sum Nat Int32 × CSt)} {R_2 : Int32 × CSt → Option ((Sum Nat Int32) × CSt)} {l1 : Int32} {u : CSt} {q : Nat} (hq_u : hq2 q u)  (h_ro : ∀ q' z a b u, hq2 q u → KO q (ro q' z a b u) u) (h_R_2 : ∀ a, hq2 q a.2 → KO q (R_2 a) a.2) : KO q (B_X3_statements_2 N ro R_2 l1 u) u := by
  unfold B_X3_statements_2
  refine KO_if ?_ ?_
  · skip
    exact (ko_B_X3_statements_31 (hq_u)  h_ro).tr ko_rf
  · skip
    refine KO_bc hq_u ((ko_F_X9_is (hq_u)  ).tr ko_rf) (fun r_6 u_5 hq_u_5 => ?_)
    refine KO_if ?_ ?_
    · skip
      refine KO_bt hq_u_5 ((h_ro _ _ _ _ _ (hq_u_5)).tr ko_rf) (fun _ u_8 hq_u_8 => ?_)
      exact (h_R_2 _ (hq_u_8)).tr ko_rf
    · skip
      exact (ko_B_X3_statements_31 (hq_u_5)  h_ro).tr ko_rf
theorem ko_LP_X3_statements_2 {N : Nat} {ro : Nat → Nat → Int32 → Int32 → CSt → Option (Sum Nat Int32 × CSt)} {q : Nat} (h_ro : ∀ q' z a b u, hq2 q u → KO q (ro q' z a b u) u) (n : Nat) : ∀ a : Int32 × CSt, hq2 q a.2 → KO q (LP_X3_statements_2 N ro n a) a.2 := by
  induction n with
  | zero => exact fun a _ r z e => by have e : (none : Option _) = some (r, z) := e; cases e
  | succ n ih =>
    intro a hq
    show KO q (B_X3_statements_2 N ro (LP_X3_statements_2 N ro n) a.1 a.2) a.2
    exact ko_B_X3_statements_2 hq  h_ro ih
theorem ko_B_X3_statements_0 {N : Nat} {ro : Nat → Nat → Int32 → Int32 → CSt → Option (Sum Nat Int32 × CSt)} {u : CSt} {q : Nat} (hq_u : hq2 q u)  (h_ro : ∀ q' z a b u, hq2 q u → KO q (ro q' z a b u) u) : KO q (B_X3_statements_0 N ro u) u := by
  unfold B_X3_statements_0
  exact (ko_LP_X3_statements_2 h_ro _ _ (hq_u)).tr ko_rf
theorem ko_F_X3_statements {N : Nat} {ro : Nat → Nat → Int32 → Int32 → CSt → Option (Sum Nat Int32 × CSt)} {u : CSt} {q : Nat} (hq_u : hq2 q u)  (h_ro : ∀ q' z a b u, hq2 q u → KO q (ro q' z a b u) u) : KO q (F_X3_statements N ro u) u := by
  unfold F_X3_statements
  exact (ko_B_X3_statements_0 (hq_u)  h_ro).tr ko_rf
theorem ko_B_X3_statement_0 {N : Nat} {ro : Nat → Nat → Int32 → Int32 → CSt → Option (Sum Nat Int32 × CSt)} {u : CSt} {q : Nat} (hq_u : hq2 q u)  (h_ro : ∀ q' z a b u, hq2 q u → KO q (ro q' z a b u) u) : KO q (B_X3_statement_0 N ro u) u := by
  unfold B_X3_statement_0
  refine KO_bc hq_u ((ko_F_X9_here (hq_u)  ).tr ko_rf) (fun r_2 u_1 hq_u_1 => ?_)
  refine KO_ok ?_
  refine KO_bc hq_u_1 ((ko_F_X6_cost (hq_u_1) (hq_u_1).1 ).tr ko_rf) (fun _ u_4 hq_u_4 => ?_)
  refine KO_bc hq_u_4 ((ko_F_X9_type (hq_u_4)  ).tr ko_rf) (fun r_6 u_5 hq_u_5 => ?_)
  refine KO_if ?_ ?_
  · skip
    refine KO_bt hq_u_5 ((h_ro _ _ _ _ _ (hq_u_5)).tr ko_rf) (fun _ u_8 hq_u_8 => ?_)
    exact KO_some ko_rf
  · skip
    refine KO_if ?_ ?_
    · skip
      refine KO_bt hq_u_5 ((h_ro _ _ _ _ _ (hq_u_5)).tr ko_rf) (fun _ u_11 hq_u_11 => ?_)
      exact KO_some ko_rf
    · skip
      refine KO_if ?_ ?_
      · skip
        refine KO_bt hq_u_5 ((h_ro _ _ _ _ _ (hq_u_5)).tr ko_rf) (fun _ u_14 hq_u_14 => ?_)
        exact KO_some ko_rf
      · skip
        refine KO_if ?_ ?_
        · skip
          refine KO_bt hq_u_5 ((h_ro _ _ _ _ _ (hq_u_5)).tr ko_rf) (fun _ u_17 hq_u_17 => ?_)
          exact KO_some ko_rf
        · skip
          refine KO_if ?_ ?_
          · skip
            refine KO_bt hq_u_5 ((ko_F_X3_leave (hq_u_5)  ).tr ko_rf) (fun _ u_20 hq_u_20 => ?_)
            exact KO_some ko_rf
          · skip
            refine KO_if ?_ ?_
            · skip
              refine KO_bt hq_u_5 ((ko_F_X3_leave (hq_u_5)  ).tr ko_rf) (fun _ u_23 hq_u_23 => ?_)
              exact KO_some ko_rf
            · skip
              refine KO_if ?_ ?_
              · skip
                refine KO_bt hq_u_5 ((ko_F_X3_returned (hq_u_5)  ).tr ko_rf) (fun _ u_26 hq_u_26 => ?_)
                exact KO_some ko_rf
              · skip
                refine KO_if ?_ ?_
                · skip
                  refine KO_bc hq_u_5 ((ko_F_X9_next (hq_u_5)  ).tr ko_rf) (fun _ u_29 hq_u_29 => ?_)
                  refine KO_bt hq_u_29 ((ko_G_X8_expression (hq_u_29)  ).tr ko_rf) (fun r_31 u_30 hq_u_30 => ?_)
                  refine KO_ok ?_
                  refine KO_bc hq_u_30 ((ko_F_X6_step (hq_u_30) (hq_u_30).1 ).tr ko_rf) (fun r_35 u_34 hq_u_34 => ?_)
                  refine KO_bc hq_u_34 ((ko_F_X9_next (hq_u_34)  ).tr ko_rf) (fun _ u_36 hq_u_36 => ?_)
                  exact KO_some ko_rf
                · skip
                  refine KO_bc hq_u_5 ((ko_F_X9_typeAhead (hq_u_5)  ).tr ko_rf) (fun r_38 u_37 hq_u_37 => ?_)
                  refine KO_if ?_ ?_
                  · skip
                    refine KO_bt hq_u_37 ((ko_F_X3_instanceCall (hq_u_37)  ).tr ko_rf) (fun _ u_42 hq_u_42 => ?_)
                    exact KO_some ko_rf
                  · skip
                    refine KO_bt hq_u_37 ((ko_F_X3_assignment (hq_u_37)  ).tr ko_rf) (fun _ u_40 hq_u_40 => ?_)
                    exact KO_some ko_rf
theorem ko_F_X3_statement {N : Nat} {ro : Nat → Nat → Int32 → Int32 → CSt → Option (Sum Nat Int32 × CSt)} {u : CSt} {q : Nat} (hq_u : hq2 q u)  (h_ro : ∀ q' z a b u, hq2 q u → KO q (ro q' z a b u) u) : KO q (F_X3_statement N ro u) u := by
  unfold F_X3_statement
  exact (ko_B_X3_statement_0 (hq_u)  h_ro).tr ko_rf
theorem ko_B_X3_choice_113 {N : Nat} {ro : Nat → Nat → Int32 → Int32 → CSt → Option (Sum Nat Int32 × CSt)} {l2 : Int32} {u : CSt} {q : Nat} (hq_u : hq2 q u)  (h_ro : ∀ q' z a b u, hq2 q u → KO q (ro q' z a b u) u) : KO q (B_X3_choice_113 N ro l2 u) u := by
  unfold B_X3_choice_113
  refine KO_ok ?_
  refine KO_bc hq_u ((ko_F_X6_land (hq_u) (hq_u).1 ).tr ko_rf) (fun _ u_2 hq_u_2 => ?_)
  exact KO_some ko_rf
theorem ko_B_X3_choice_90 {N : Nat} {ro : Nat → Nat → Int32 → Int32 → CSt → Option (Sum Nat Int32 × CSt)} {l2 : Int32} {u : CSt} {q : Nat} (hq_u : hq2 q u)  (h_ro : ∀ q' z a b u, hq2 q u → KO q (ro q' z a b u) u) : KO q (B_X3_choice_90 N ro l2 u) u := by
  unfold B_X3_choice_90
  refine KO_bc hq_u ((ko_F_X9_is (hq_u)  ).tr ko_rf) (fun r_4 u_3 hq_u_3 => ?_)
  refine KO_if ?_ ?_
  · skip
    exact (ko_B_X3_choice_113 (hq_u_3)  h_ro).tr ko_rf
  · skip
    refine KO_bc hq_u_3 ((ko_F_X9_next (hq_u_3)  ).tr ko_rf) (fun _ u_6 hq_u_6 => ?_)
    refine KO_bt hq_u_6 ((h_ro _ _ _ _ _ (hq_u_6)).tr ko_rf) (fun _ u_7 hq_u_7 => ?_)
    exact (ko_B_X3_choice_113 (hq_u_7)  h_ro).tr ko_rf
theorem ko_B_X3_choice_7 {N : Nat} {ro : Nat → Nat → Int32 → Int32 → CSt → Option (Sum Nat Int32 × CSt)} {R_7 : Int32 × Int32 × Int32 × Int32 × CSt → Option ((Sum Nat Int32) × CSt)} {l1 : Int32} {l2 : Int32} {l3 : Int32} {l4 : Int32} {u : CSt} {q : Nat} (hq_u : hq2 q u)  (h_ro : ∀ q' z a b u, hq2 q u → KO q (ro q' z a b u) u) (h_R_7 : ∀ a, hq2 q a.2.2.2.2 → KO q (R_7 a) a.2.2.2.2) : KO q (B_X3_choice_7 N ro R_7 l1 l2 l3 l4 u) u := by
  unfold B_X3_choice_7
  refine KO_if ?_ ?_
  · skip
    exact (ko_B_X3_choice_90 (hq_u)  h_ro).tr ko_rf
  · skip
    refine KO_if ?_ ?_
    · skip
      exact (ko_B_X3_choice_90 (hq_u)  h_ro).tr ko_rf
    · skip
      refine KO_bc hq_u ((ko_F_X9_next (hq_u)  ).tr ko_rf) (fun _ u_11 hq_u_11 => ?_)
      refine KO_bt hq_u_11 ((ko_G_X8_expression (hq_u_11)  ).tr ko_rf) (fun r_13 u_12 hq_u_12 => ?_)
      refine KO_ok ?_
      refine KO_bc hq_u_12 ((ko_F_X6_step (hq_u_12) (hq_u_12).1 ).tr ko_rf) (fun r_17 u_16 hq_u_16 => ?_)
      refine KO_bt hq_u_16 ((h_ro _ _ _ _ _ (hq_u_16)).tr ko_rf) (fun _ u_18 hq_u_18 => ?_)
      refine KO_ok ?_
      refine KO_bc hq_u_18 ((ko_F_X6_step (hq_u_18) (hq_u_18).1 ).tr ko_rf) (fun r_22 u_21 hq_u_21 => ?_)
      refine KO_ok ?_
      refine KO_bc hq_u_21 ((ko_F_X6_land (hq_u_21) (hq_u_21).1 ).tr ko_rf) (fun _ u_24 hq_u_24 => ?_)
      refine KO_bc hq_u_24 ((ko_F_X9_is (hq_u_24)  ).tr ko_rf) (fun r_26 u_25 hq_u_25 => ?_)
      exact (h_R_7 _ (hq_u_25)).tr ko_rf
theorem ko_LP_X3_choice_7 {N : Nat} {ro : Nat → Nat → Int32 → Int32 → CSt → Option (Sum Nat Int32 × CSt)} {q : Nat} (h_ro : ∀ q' z a b u, hq2 q u → KO q (ro q' z a b u) u) (n : Nat) : ∀ a : Int32 × Int32 × Int32 × Int32 × CSt, hq2 q a.2.2.2.2 → KO q (LP_X3_choice_7 N ro n a) a.2.2.2.2 := by
  induction n with
  | zero => exact fun a _ r z e => by have e : (none : Option _) = some (r, z) := e; cases e
  | succ n ih =>
    intro a hq
    show KO q (B_X3_choice_7 N ro (LP_X3_choice_7 N ro n) a.1 a.2.1 a.2.2.1 a.2.2.2.1 a.2.2.2.2) a.2.2.2.2
    exact ko_B_X3_choice_7 hq  h_ro ih
theorem ko_B_X3_choice_0 {N : Nat} {ro : Nat → Nat → Int32 → Int32 → CSt → Option (Sum Nat Int32 × CSt)} {l1 : Int32} {u : CSt} {q : Nat} (hq_u : hq2 q u)  (h_ro : ∀ q' z a b u, hq2 q u → KO q (ro q' z a b u) u) : KO q (B_X3_choice_0 N ro l1 u) u := by
  unfold B_X3_choice_0
  exact (ko_LP_X3_choice_7 h_ro _ _ (hq_u)).tr ko_rf
theorem ko_F_X3_choice {N : Nat} {ro : Nat → Nat → Int32 → Int32 → CSt → Option (Sum Nat Int32 × CSt)} {l1 : Int32} {u : CSt} {q : Nat} (hq_u : hq2 q u)  (h_ro : ∀ q' z a b u, hq2 q u → KO q (ro q' z a b u) u) : KO q (F_X3_choice N ro l1 u) u := by
  unfold F_X3_choice
  exact (ko_B_X3_choice_0 (hq_u)  h_ro).tr ko_rf
theorem ko_B_X3_loop_0 {N : Nat} {ro : Nat → Nat → Int32 → Int32 → CSt → Option (Sum Nat Int32 × CSt)} {l1 : Int32} {u : CSt} {q : Nat} (hq_u : hq2 q u)  (h_ro : ∀ q' z a b u, hq2 q u → KO q (ro q' z a b u) u) : KO q (B_X3_loop_0 N ro l1 u) u := by
  unfold B_X3_loop_0
  refine KO_bc hq_u ((ko_F_X9_next (hq_u)  ).tr ko_rf) (fun _ u_1 hq_u_1 => ?_)
  refine KO_ok ?_
  refine KO_bt hq_u_1 ((ko_G_X8_expression (hq_u_1)  ).tr ko_rf) (fun r_4 u_3 hq_u_3 => ?_)
  refine KO_ok ?_
  refine KO_bc hq_u_3 ((ko_F_X6_step (hq_u_3) (hq_u_3).1 ).tr ko_rf) (fun r_8 u_7 hq_u_7 => ?_)
  refine KO_pc ?_
  refine KO_bt hq_u_7 ((h_ro _ _ _ _ _ (ko_q (fo_xI ko_rf) hq_u_7)).tr (fo_xI ko_rf)) (fun _ u_10 hq_u_10 => ?_)
  refine KO_ok ?_
  refine KO_bc hq_u_10 ((ko_F_X6_step (hq_u_10) (hq_u_10).1 ).tr ko_rf) (fun r_14 u_13 hq_u_13 => ?_)
  refine KO_ok ?_
  refine KO_bc hq_u_13 ((ko_F_X6_land (hq_u_13) (hq_u_13).1 ).tr ko_rf) (fun _ u_16 hq_u_16 => ?_)
  refine KO_pc ?_
  exact KO_some (fo_xI ko_rf)
theorem ko_F_X3_loop {N : Nat} {ro : Nat → Nat → Int32 → Int32 → CSt → Option (Sum Nat Int32 × CSt)} {l1 : Int32} {u : CSt} {q : Nat} (hq_u : hq2 q u)  (h_ro : ∀ q' z a b u, hq2 q u → KO q (ro q' z a b u) u) : KO q (F_X3_loop N ro l1 u) u := by
  unfold F_X3_loop
  exact (ko_B_X3_loop_0 (hq_u)  h_ro).tr ko_rf
theorem ko_B_X3_round_0 {N : Nat} {ro : Nat → Nat → Int32 → Int32 → CSt → Option (Sum Nat Int32 × CSt)} {l1 : Int32} {u : CSt} {q : Nat} (hq_u : hq2 q u)  (h_ro : ∀ q' z a b u, hq2 q u → KO q (ro q' z a b u) u) : KO q (B_X3_round_0 N ro l1 u) u := by
  unfold B_X3_round_0
  refine KO_pc ?_
  refine KO_pc ?_
  refine KO_ok ?_
  refine KO_bc hq_u ((ko_F_X6_cost (ko_q (fo_xI (fo_xI ko_rf)) hq_u) (ko_q (fo_xI (fo_xI ko_rf)) hq_u).1 ).tr (fo_xI (fo_xI ko_rf))) (fun _ u_4 hq_u_4 => ?_)
  refine KO_bt hq_u_4 ((h_ro _ _ _ _ _ (hq_u_4)).tr ko_rf) (fun _ u_5 hq_u_5 => ?_)
  refine KO_pc ?_
  refine KO_ok ?_
  refine KO_bc hq_u_5 ((ko_F_X6_land (ko_q (fo_xI ko_rf) hq_u_5) (ko_q (fo_xI ko_rf) hq_u_5).1 ).tr (fo_xI ko_rf)) (fun _ u_9 hq_u_9 => ?_)
  refine KO_pc ?_
  exact KO_some (fo_xI ko_rf)
theorem ko_F_X3_round {N : Nat} {ro : Nat → Nat → Int32 → Int32 → CSt → Option (Sum Nat Int32 × CSt)} {l1 : Int32} {u : CSt} {q : Nat} (hq_u : hq2 q u)  (h_ro : ∀ q' z a b u, hq2 q u → KO q (ro q' z a b u) u) : KO q (F_X3_round N ro l1 u) u := by
  unfold F_X3_round
  exact (ko_B_X3_round_0 (hq_u)  h_ro).tr ko_rf
theorem ko_B_X3_counted_71 {N : Nat} {ro : Nat → Nat → Int32 → Int32 → CSt → Option (Sum Nat Int32 × CSt)} {l1 : Int32} {l2 : Int32} {l3 : Nat} {u : CSt} {q : Nat} (hq_u : hq2 q u)  (h_ro : ∀ q' z a b u, hq2 q u → KO q (ro q' z a b u) u) : KO q (B_X3_counted_71 N ro l1 l2 l3 u) u := by
  unfold B_X3_counted_71
  refine KO_bc hq_u ((ko_F_X9_next (hq_u)  ).tr ko_rf) (fun _ u_1 hq_u_1 => ?_)
  refine KO_bt hq_u_1 ((ko_F_X3_setPlain (hq_u_1)  ).tr ko_rf) (fun _ u_2 hq_u_2 => ?_)
  refine KO_bc hq_u_2 ((ko_F_X8_set (hq_u_2)  ).tr ko_rf) (fun _ u_4 hq_u_4 => ?_)
  refine KO_bc hq_u_4 ((ko_F_X9_next (hq_u_4)  ).tr ko_rf) (fun _ u_5 hq_u_5 => ?_)
  refine KO_bt hq_u_5 ((ko_G_X8_expression (hq_u_5)  ).tr ko_rf) (fun r_7 u_6 hq_u_6 => ?_)
  refine KO_ok ?_
  refine KO_bc hq_u_6 ((ko_F_X8_get (hq_u_6)  ).tr ko_rf) (fun _ u_10 hq_u_10 => ?_)
  refine KO_ok ?_
  refine KO_bc hq_u_10 ((ko_F_X6_step (hq_u_10) (hq_u_10).1 ).tr ko_rf) (fun r_13 u_12 hq_u_12 => ?_)
  refine KO_pc ?_
  refine KO_bt hq_u_12 ((h_ro _ _ _ _ _ (ko_q (fo_xI ko_rf) hq_u_12)).tr (fo_xI ko_rf)) (fun _ u_15 hq_u_15 => ?_)
  refine KO_bc hq_u_15 ((ko_F_X8_get (hq_u_15)  ).tr ko_rf) (fun _ u_17 hq_u_17 => ?_)
  refine KO_ok ?_
  refine KO_bc hq_u_17 ((ko_F_X6_step (hq_u_17) (hq_u_17).1 ).tr ko_rf) (fun r_20 u_19 hq_u_19 => ?_)
  refine KO_pc ?_
  refine KO_bc hq_u_19 ((ko_F_X8_get (ko_q (fo_xI ko_rf) hq_u_19)  ).tr (fo_xI ko_rf)) (fun _ u_22 hq_u_22 => ?_)
  refine KO_ok ?_
  refine KO_bc hq_u_22 ((ko_F_X6_constant (hq_u_22) (hq_u_22).1 ).tr ko_rf) (fun _ u_24 hq_u_24 => ?_)
  refine KO_bc hq_u_24 ((ko_F_X8_combine (hq_u_24)  ).tr ko_rf) (fun r_26 u_25 hq_u_25 => ?_)
  refine KO_bc hq_u_25 ((ko_F_X8_set (hq_u_25)  ).tr ko_rf) (fun _ u_27 hq_u_27 => ?_)
  refine KO_ok ?_
  refine KO_bc hq_u_27 ((ko_F_X6_step (hq_u_27) (hq_u_27).1 ).tr ko_rf) (fun r_30 u_29 hq_u_29 => ?_)
  refine KO_ok ?_
  refine KO_bc hq_u_29 ((ko_F_X6_land (hq_u_29) (hq_u_29).1 ).tr ko_rf) (fun _ u_32 hq_u_32 => ?_)
  refine KO_pc ?_
  refine KO_ok ?_
  refine KO_bc hq_u_32 ((ko_F_X6_step (ko_q (fo_xI ko_rf) hq_u_32) (ko_q (fo_xI ko_rf) hq_u_32).1 ).tr (fo_xI ko_rf)) (fun r_36 u_35 hq_u_35 => ?_)
  exact KO_some ko_rf
theorem ko_B_X3_counted_62 {N : Nat} {ro : Nat → Nat → Int32 → Int32 → CSt → Option (Sum Nat Int32 × CSt)} {l1 : Int32} {l2 : Int32} {l3 : Nat} {u : CSt} {q : Nat} (hq_u : hq2 q u)  (h_ro : ∀ q' z a b u, hq2 q u → KO q (ro q' z a b u) u) : KO q (B_X3_counted_62 N ro l1 l2 l3 u) u := by
  unfold B_X3_counted_62
  refine KO_bt hq_u ((ko_F_X9_refuse (hq_u)  ).tr ko_rf) (fun _ u_37 hq_u_37 => ?_)
  exact (ko_B_X3_counted_71 (hq_u_37)  h_ro).tr ko_rf
theorem ko_B_X3_counted_41 {N : Nat} {ro : Nat → Nat → Int32 → Int32 → CSt → Option (Sum Nat Int32 × CSt)} {l1 : Int32} {l2 : Int32} {l3 : Nat} {u : CSt} {q : Nat} (hq_u : hq2 q u)  (h_ro : ∀ q' z a b u, hq2 q u → KO q (ro q' z a b u) u) : KO q (B_X3_counted_41 N ro l1 l2 l3 u) u := by
  unfold B_X3_counted_41
  refine KO_bc hq_u ((ko_F_X4_hasNumbers (hq_u)  ).tr ko_rf) (fun r_40 u_39 hq_u_39 => ?_)
  refine KO_if ?_ ?_
  · skip
    exact (ko_B_X3_counted_62 (hq_u_39)  h_ro).tr ko_rf
  · skip
    refine KO_if ?_ ?_
    · skip
      refine KO_bc hq_u_39 ((ko_F_X4_isInput (hq_u_39)  ).tr ko_rf) (fun r_44 u_43 hq_u_43 => ?_)
      refine KO_if ?_ ?_
      · skip
        exact (ko_B_X3_counted_71 (hq_u_43)  h_ro).tr ko_rf
      · skip
        exact (ko_B_X3_counted_62 (hq_u_43)  h_ro).tr ko_rf
    · skip
      exact (ko_B_X3_counted_62 (hq_u_39)  h_ro).tr ko_rf
theorem ko_B_X3_counted_0 {N : Nat} {ro : Nat → Nat → Int32 → Int32 → CSt → Option (Sum Nat Int32 × CSt)} {l1 : Int32} {u : CSt} {q : Nat} (hq_u : hq2 q u)  (h_ro : ∀ q' z a b u, hq2 q u → KO q (ro q' z a b u) u) : KO q (B_X3_counted_0 N ro l1 u) u := by
  unfold B_X3_counted_0
  refine KO_bc hq_u ((ko_F_X9_next (hq_u)  ).tr ko_rf) (fun _ u_46 hq_u_46 => ?_)
  refine KO_bc hq_u_46 ((ko_F_X9_here (hq_u_46)  ).tr ko_rf) (fun r_48 u_47 hq_u_47 => ?_)
  refine KO_bc hq_u_47 ((ko_F_X8_known (hq_u_47)  ).tr ko_rf) (fun r_50 u_49 hq_u_49 => ?_)
  refine KO_ok ?_
  refine KO_if ?_ ?_
  · skip
    refine KO_bt hq_u_49 ((ko_F_X9_refuse (hq_u_49)  ).tr ko_rf) (fun _ u_53 hq_u_53 => ?_)
    exact (ko_B_X3_counted_41 (hq_u_53)  h_ro).tr ko_rf
  · skip
    exact (ko_B_X3_counted_41 (hq_u_49)  h_ro).tr ko_rf
theorem ko_F_X3_counted {N : Nat} {ro : Nat → Nat → Int32 → Int32 → CSt → Option (Sum Nat Int32 × CSt)} {l1 : Int32} {u : CSt} {q : Nat} (hq_u : hq2 q u)  (h_ro : ∀ q' z a b u, hq2 q u → KO q (ro q' z a b u) u) : KO q (F_X3_counted N ro l1 u) u := by
  unfold F_X3_counted
  exact (ko_B_X3_counted_0 (hq_u)  h_ro).tr ko_rf
theorem ko_B_X3_cases_176 {N : Nat} {ro : Nat → Nat → Int32 → Int32 → CSt → Option (Sum Nat Int32 × CSt)} {l2 : Int32} {u : CSt} {q : Nat} (hq_u : hq2 q u)  (h_ro : ∀ q' z a b u, hq2 q u → KO q (ro q' z a b u) u) : KO q (B_X3_cases_176 N ro l2 u) u := by
  unfold B_X3_cases_176
  refine KO_bc hq_u ((ko_F_X9_next (hq_u)  ).tr ko_rf) (fun _ u_1 hq_u_1 => ?_)
  refine KO_ok ?_
  refine KO_bc hq_u_1 ((ko_F_X6_land (hq_u_1) (hq_u_1).1 ).tr ko_rf) (fun _ u_3 hq_u_3 => ?_)
  exact KO_some ko_rf
theorem ko_B_X3_cases_140 {N : Nat} {ro : Nat → Nat → Int32 → Int32 → CSt → Option (Sum Nat Int32 × CSt)} {l1 : Int32} {l2 : Int32} {u : CSt} {q : Nat} (hq_u : hq2 q u)  (h_ro : ∀ q' z a b u, hq2 q u → KO q (ro q' z a b u) u) : KO q (B_X3_cases_140 N ro l1 l2 u) u := by
  unfold B_X3_cases_140
  refine KO_ok ?_
  refine KO_bc hq_u ((ko_F_X6_step (hq_u) (hq_u).1 ).tr ko_rf) (fun r_6 u_5 hq_u_5 => ?_)
  refine KO_bc hq_u_5 ((ko_F_X9_is (hq_u_5)  ).tr ko_rf) (fun r_8 u_7 hq_u_7 => ?_)
  refine KO_if ?_ ?_
  · skip
    exact (ko_B_X3_cases_176 (hq_u_7)  h_ro).tr ko_rf
  · skip
    refine KO_bc hq_u_7 ((ko_F_X9_next (hq_u_7)  ).tr ko_rf) (fun _ u_10 hq_u_10 => ?_)
    refine KO_bt hq_u_10 ((h_ro _ _ _ _ _ (hq_u_10)).tr ko_rf) (fun _ u_11 hq_u_11 => ?_)
    exact (ko_B_X3_cases_176 (hq_u_11)  h_ro).tr ko_rf
theorem ko_B_X3_cases_26 {N : Nat} {ro : Nat → Nat → Int32 → Int32 → CSt → Option (Sum Nat Int32 × CSt)} {R_26 : Int32 × Int32 × Int32 × CSt → Option ((Sum Nat Int32) × CSt)} {l1 : Int32} {l2 : Int32} {l3 : Int32} {u : CSt} {q : Nat} (hq_u : hq2 q u)  (h_ro : ∀ q' z a b u, hq2 q u → KO q (ro q' z a b u) u) (h_R_26 : ∀ a, hq2 q a.2.2.2 → KO q (R_26 a) a.2.2.2) : KO q (B_X3_cases_26 N ro R_26 l1 l2 l3 u) u := by
  unfold B_X3_cases_26
  refine KO_if ?_ ?_
  · skip
    exact (ko_B_X3_cases_140 (hq_u)  h_ro).tr ko_rf
  · skip
    refine KO_bc hq_u ((ko_F_X9_is (hq_u)  ).tr ko_rf) (fun r_15 u_14 hq_u_14 => ?_)
    refine KO_if ?_ ?_
    · skip
      exact (ko_B_X3_cases_140 (hq_u_14)  h_ro).tr ko_rf
    · skip
      refine KO_ok ?_
      refine KO_bt hq_u_14 ((ko_F_X3_labels (hq_u_14)  ).tr ko_rf) (fun _ u_18 hq_u_18 => ?_)
      refine KO_ok ?_
      refine KO_bc hq_u_18 ((ko_F_X6_step (hq_u_18) (hq_u_18).1 ).tr ko_rf) (fun r_22 u_21 hq_u_21 => ?_)
      refine KO_ok ?_
      refine KO_bc hq_u_21 ((ko_F_X6_step (hq_u_21) (hq_u_21).1 ).tr ko_rf) (fun r_25 u_24 hq_u_24 => ?_)
      refine KO_ok ?_
      refine KO_bc hq_u_24 ((ko_F_X6_step (hq_u_24) (hq_u_24).1 ).tr ko_rf) (fun r_28 u_27 hq_u_27 => ?_)
      refine KO_bt hq_u_27 ((h_ro _ _ _ _ _ (hq_u_27)).tr ko_rf) (fun _ u_29 hq_u_29 => ?_)
      refine KO_ok ?_
      refine KO_bc hq_u_29 ((ko_F_X6_step (hq_u_29) (hq_u_29).1 ).tr ko_rf) (fun r_33 u_32 hq_u_32 => ?_)
      refine KO_ok ?_
      refine KO_bc hq_u_32 ((ko_F_X6_land (hq_u_32) (hq_u_32).1 ).tr ko_rf) (fun _ u_35 hq_u_35 => ?_)
      exact (h_R_26 _ (hq_u_35)).tr ko_rf
theorem ko_LP_X3_cases_26 {N : Nat} {ro : Nat → Nat → Int32 → Int32 → CSt → Option (Sum Nat Int32 × CSt)} {q : Nat} (h_ro : ∀ q' z a b u, hq2 q u → KO q (ro q' z a b u) u) (n : Nat) : ∀ a : Int32 × Int32 × Int32 × CSt, hq2 q a.2.2.2 → KO q (LP_X3_cases_26 N ro n a) a.2.2.2 := by
  induction n with
  | zero => exact fun a _ r z e => by have e : (none : Option _) = some (r, z) := e; cases e
  | succ n ih =>
    intro a hq
    show KO q (B_X3_cases_26 N ro (LP_X3_cases_26 N ro n) a.1 a.2.1 a.2.2.1 a.2.2.2) a.2.2.2
    exact ko_B_X3_cases_26 hq  h_ro ih
theorem ko_B_X3_cases_0 {N : Nat} {ro : Nat → Nat → Int32 → Int32 → CSt → Option (Sum Nat Int32 × CSt)} {l1 : Int32} {u : CSt} {q : Nat} (hq_u : hq2 q u)  (h_ro : ∀ q' z a b u, hq2 q u → KO q (ro q' z a b u) u) : KO q (B_X3_cases_0 N ro l1 u) u := by
  unfold B_X3_cases_0
  refine KO_bc hq_u ((ko_F_X9_next (hq_u)  ).tr ko_rf) (fun _ u_36 hq_u_36 => ?_)
  refine KO_bt hq_u_36 ((ko_G_X8_expression (hq_u_36)  ).tr ko_rf) (fun r_38 u_37 hq_u_37 => ?_)
  refine KO_bc hq_u_37 ((ko_F_X9_next (hq_u_37)  ).tr ko_rf) (fun _ u_40 hq_u_40 => ?_)
  exact (ko_LP_X3_cases_26 h_ro _ _ (hq_u_40)).tr ko_rf
theorem ko_F_X3_cases {N : Nat} {ro : Nat → Nat → Int32 → Int32 → CSt → Option (Sum Nat Int32 × CSt)} {l1 : Int32} {u : CSt} {q : Nat} (hq_u : hq2 q u)  (h_ro : ∀ q' z a b u, hq2 q u → KO q (ro q' z a b u) u) : KO q (F_X3_cases N ro l1 u) u := by
  unfold F_X3_cases
  exact (ko_B_X3_cases_0 (hq_u)  h_ro).tr ko_rf
theorem ko_FMS_ {N q0 : Nat} : ∀ (d q z : Nat) (a b : Int32) (u : CSt), hq2 q0 u → KO q0 (FMS_ N d q z a b u) u := by
  intro d
  induction d with
  | zero => exact fun q z a b u _ => KO_none
  | succ d ih =>
    intro q z a b u hq
    show KO q0 (if q = 0 then F_X3_body N (FMS_ N d) u else if q = 1 then F_X3_statements N (FMS_ N d) u else if q = 2 then F_X3_statement N (FMS_ N d) u else if q = 3 then F_X3_choice N (FMS_ N d) a u else if q = 4 then F_X3_loop N (FMS_ N d) a u else if q = 5 then F_X3_round N (FMS_ N d) a u else if q = 6 then F_X3_counted N (FMS_ N d) a u else if q = 7 then F_X3_cases N (FMS_ N d) a u else none) u
    refine KO_if (ko_F_X3_body hq ih) ?_
    refine KO_if (ko_F_X3_statements hq ih) ?_
    refine KO_if (ko_F_X3_statement hq ih) ?_
    refine KO_if (ko_F_X3_choice hq ih) ?_
    refine KO_if (ko_F_X3_loop hq ih) ?_
    refine KO_if (ko_F_X3_round hq ih) ?_
    refine KO_if (ko_F_X3_counted hq ih) ?_
    refine KO_if (ko_F_X3_cases hq ih) ?_
    exact KO_none
theorem ko_G_X3_statements {N : Nat} {u : CSt} {q : Nat} (hq : hq2 q u) : KO q (G_X3_statements N u) u := ko_FMS_ _ _ _ _ _ _ hq
section KoH
variable {α β γ : Type} {u v w : CSt} {N q m : Nat} {l1 l2 l3 l4 : Int32}
/-- from u, by rows, with the maker's program q -/
def ks (q : Nat) (u w : CSt) : Prop := ko q u w ∧ hq2 q w
theorem ks_rf (hq : hq2 q u) : ks q u u := ⟨ko_rf, hq⟩
theorem ks_tr (h : ks q u v) (h2 : ko q v w) : ks q u w := ⟨ko_tr h.1 h2, ko_q h2 h.2⟩
theorem o_bc {x : Option (α × CSt)} {k : α → CSt → Option (β × CSt)} {Q : β → CSt → Prop} (hx : KO q x w) (hw : ks q u w) (h : ∀ r z, ks q u z → pq (k r z) Q) : pq (bc x k) Q := pq_bc (pq_m hx.p (fun r z hz => h r z (ks_tr hw hz)))
theorem o_bt {x : Option (Sum Nat α × CSt)} {k : α → CSt → Option (Sum Nat β × CSt)} (hx : KO q x w) (hw : ks q u w) (h : ∀ r z, ks q u z → pq (k r z) (fun _ z' => ks q u z')) : pq (bt x k) (fun _ z' => ks q u z') := pq_bt (pq_m hx.p (fun y z hz => ⟨fun e _ => ks_tr hw hz, fun b _ => h b z (ks_tr hw hz)⟩))
theorem ks_mI {k : Nat} {a : Int32} (hm : m / 169 = q) (h : ks q u w) : ks q u (xmI w m k a) := ks_tr h (fo_xmI hm ko_rf)
theorem ks_mL {k : Nat} {a : Int64} (hm : m / 169 = q) (h : ks q u w) : ks q u (xmL w m k a) := ks_tr h (fo_xmL hm ko_rf)
theorem o_ref {a p : Int32} {k : Int32 → CSt → Option (Sum Nat β × CSt)} (h : ks q u w) : pq (bt (F_X9_refuse N a p w) k) (fun _ z' => ks q u z') := pq_refuse ⟨fo_xI (fo_xI h.1), h.2⟩
theorem o_become {l2 : Int64} (hm : m / 169 = q) (hw : ks q u w) : pq (F_X4_become N m l1 l2 l4 w) (fun _ z => ks q u z) := by
  unfold F_X4_become B_X4_become_0
  exact pq_some (ks_mI hm (ks_mI hm (ks_mI hm (ks_mI hm (ks_mL hm (ks_mI hm (ks_mI hm (ks_mI hm (ks_mI hm (ks_mI hm (ks_mI hm (ks_mI hm (ks_mI hm (ks_mL hm hw))))))))))))))
theorem o_name : pq (F_X6_name N q l1 u) (fun r w => w = u ∧ r / 169 = q) := by
  unfold F_X6_name B_X6_name_0
  refine pq_if (fun c => pq_some ⟨rfl, by omega⟩) (fun c => pq_if (fun c2 => pq_some ⟨rfl, by omega⟩) (fun c2 => pq_ix (fun hv => pq_some ⟨rfl, ?_⟩)))
  have h := vin_iff.mp hv
  have hn : l1.toNatClampNeg = l1.toInt.toNat := rfl
  rw [hn]
  omega
theorem ks_pI {k : Nat} {a : Int32} (h : ks q u w) : ks q u (xpI w q k a) := ks_tr h (fo_xpI rfl ko_rf)
theorem ks_pA {k i : Nat} {a : Int32} (h : ks q u w) : ks q u (xpA w q k i a) := ks_tr h (fo_xpA rfl ko_rf)
theorem o_adn {l2 : Int64} (hw : ks q u w) : pq (F_X6_add N q l1 l2 l4 w) (fun r z => ks q u z ∧ r / 169 = q) := by
  unfold F_X6_add B_X6_add_0
  refine pq_if (fun _ => pq_ix (fun hv => ?_)) (fun _ => pq_some ⟨hw, by omega⟩)
  have h := vin_iff.mp hv
  have hn : (pI w q 12).toNatClampNeg = (pI w q 12).toInt.toNat := rfl
  have hm : (169 * q + (pI w q 12).toNatClampNeg) / 169 = q := by rw [hn]; omega
  generalize 169 * q + (pI w q 12).toNatClampNeg = m at hm ⊢
  refine pq_bc (pq_m (o_become hm hw) (fun _ z g1 => pq_pc (pq_if (fun c => ?_) (fun c => ?_))))
  · unfold B_X6_add_86
    exact pq_pc (pq_some ⟨ks_pI (ks_mI hm g1), hm⟩)
  · refine pq_rd (pq_pc (pq_ix (fun _ => pq_wc (pq_rd (pq_wc ?_)))))
    unfold B_X6_add_86
    exact pq_pc (pq_some ⟨ks_pI (ks_pA (ks_pA (ks_mI hm (ks_mI hm g1)))), hm⟩)
theorem o_new (hw : ks q u w) : pq (F_X3_newName N l1 w) (fun y z => ks q u z ∧ ∀ r, y = .inr r → r / 169 = q) := by
  have ref : ∀ (a p : Int32) (z : CSt) (k : Int32 → CSt → Option (Sum Nat Nat × CSt)), ks q u z → pq (bt (F_X9_refuse N a p z) k) (fun y z => ks q u z ∧ ∀ r, y = .inr r → r / 169 = q) := fun a p z k hz => pq_refuse ⟨⟨fo_xI (fo_xI hz.1), hz.2⟩, fun r e => nomatch e⟩
  have b108 : ∀ (a : Int64) (c : Int32) (z : CSt), ks q u z → pq (B_X3_newName_108 N l1 a c z) (fun y z => ks q u z ∧ ∀ r, y = .inr r → r / 169 = q) := by
    intro a c z hz
    unfold B_X3_newName_108
    refine o_bc (ko_F_X9_next hz.2) hz (fun _ z1 h1 => pq_ok (fun _ => ?_))
    rw [h1.2.1]
    exact pq_bc (pq_m (o_adn h1) (fun r z2 hz2 => pq_ok (fun _ => pq_some ⟨hz2.1, fun r' e => by cases e; exact hz2.2⟩)))
  have b88 : ∀ (a : Int32) (b : Int64) (c : Int32) (z : CSt), ks q u z → pq (B_X3_newName_88 N l1 a b c z) (fun y z => ks q u z ∧ ∀ r, y = .inr r → r / 169 = q) := by
    intro a b c z hz
    unfold B_X3_newName_88
    exact pq_ok (fun _ => o_bc (ko_F_X6_hasRoomFor hz.2 hz.2.1) hz (fun _ z1 h1 => pq_if (fun _ => ref _ _ _ _ h1) (fun c => b108 _ _ _ h1)))
  have b67 : ∀ (a : Int32) (b : Int64) (c : Int32) (s0 : Nat) (z : CSt), ks q u z → pq (B_X3_newName_67 N l1 a b c s0 z) (fun y z => ks q u z ∧ ∀ r, y = .inr r → r / 169 = q) := by
    intro a b c s0 z hz
    unfold B_X3_newName_67
    exact pq_if (fun _ => b88 _ _ _ _ hz) (fun _ => ref _ _ _ _ hz)
  unfold F_X3_newName B_X3_newName_0
  refine o_bc (ko_F_X9_here hw.2) hw (fun _ z1 h1 => o_bc (ko_F_X9_head h1.2) h1 (fun _ z2 h2 => o_bc (ko_F_X9_tail h2.2) h2 (fun _ z3 h3 => ?_)))
  refine pq_if (fun _ => pq_ok (fun _ => ?_)) (fun _ => pq_ok (fun _ => ?_))
  · exact o_bc (ko_F_X6_name h3.2 h3.2.1) h3 (fun _ z4 h4 => pq_ok (fun _ => o_bc (ko_F_X6_localCalled h4.2 h3.2.1) h4 (fun _ z5 h5 => pq_ok (fun _ => b67 _ _ _ _ _ h5))))
  · exact o_bc (ko_F_X6_ofText h3.2 h3.2.1) h3 (fun _ z4 h4 => pq_ok (fun _ => b67 _ _ _ _ _ h4))
theorem o_nw {k : Nat → CSt → Option (Sum Nat Int32 × CSt)} (hw : ks q u w) (h : ∀ r z, ks q u z → r / 169 = q → pq (k r z) (fun _ z' => ks q u z')) : pq (bt (F_X3_newName N l1 w) k) (fun _ z' => ks q u z') := pq_bt (pq_m (o_new hw) (fun y z hz => ⟨fun _ _ => hz.1, fun b e => h b z hz.1 (hz.2 b e)⟩))
theorem o_join {l1 : Nat} (h1 : l1 / 169 = q) (hw : ks q u w) : pq (F_X3_join N l1 l2 w) (fun _ z => ks q u z) := by
  unfold F_X3_join B_X3_join_0
  refine pq_ok (fun _ => ?_)
  rw [hw.2.1]
  refine pq_bc (pq_m o_name (fun r z hz => ?_))
  obtain ⟨e, hr⟩ := hz
  rw [e]
  have b64 : ∀ (s1 s2 : Int32) (z : CSt), ks q u z → pq (B_X3_join_64 N l2 r r s1 s2 z) (fun _ z => ks q u z) := by
    intro s1 s2 z hz
    unfold B_X3_join_64
    exact pq_pc (pq_if (fun _ => pq_some (ks_mI hr hz)) (fun _ => o_ref (ks_mI hr hz)))
  exact pq_ok (fun _ => pq_pc (pq_pc (pq_pc (pq_if (fun _ => b64 _ _ _ (ks_mI hr (ks_mI hr (ks_mI h1 hw)))) (fun _ => b64 _ _ _ (ks_mI hr (ks_mI hr (ks_mI h1 hw))))))))
theorem o_one (hw : ks q u w) : pq (F_X3_oneVariable N l1 l2 l3 w) (fun _ z => ks q u z) := by
  have b112 : ∀ (a : Int32) (m : Nat) (z : CSt), m / 169 = q → ks q u z → pq (B_X3_oneVariable_112 N l1 l3 a m z) (fun _ z => ks q u z) := by
    intro a m z hm hz
    unfold B_X3_oneVariable_112
    refine pq_if (fun _ => pq_pc ?_) (fun c => ?_)
    · exact o_bt (ko_F_X3_allot (ks_mI hm hz).2) (ks_mI hm hz) (fun _ z2 h2 => pq_some h2)
    · exact pq_bt (pq_m (o_join hm hz) (fun y z2 h2 => ⟨fun _ _ => h2, fun _ _ => pq_some h2⟩))
  have b83 : ∀ (a : Int32) (m : Nat) (z : CSt), m / 169 = q → ks q u z → pq (B_X3_oneVariable_83 N l1 l3 a m z) (fun _ z => ks q u z) := by
    intro a m z hm hz
    unfold B_X3_oneVariable_83
    refine o_bc (ko_F_X9_is hz.2) hz (fun _ z1 h1 => pq_if (fun _ => b112 _ _ _ hm h1) (fun _ => o_bc (ko_F_X9_next h1.2) h1 (fun _ z2 h2 => ?_)))
    exact o_bt (ko_F_X3_constant h2.2) h2 (fun _ z3 h3 => pq_pc (b112 _ _ _ hm (ks_mL hm h3)))
  unfold F_X3_oneVariable B_X3_oneVariable_0
  refine o_bc (ko_F_X9_here hw.2) hw (fun _ z1 h1 => o_nw h1 (fun r z2 h2 hr => pq_ok (fun _ => pq_pc (pq_pc (pq_pc ?_)))))
  have h2' := ks_mI (k := 7) (a := 1) hr (ks_mI (k := 5) (a := l3) hr (ks_mI (k := 6) (a := l2) hr h2))
  refine o_bc (ko_F_X9_is h2'.2) h2' (fun _ z3 h3 => pq_if (fun _ => b83 _ _ _ hr h3) (fun _ => o_bc (ko_F_X9_next h3.2) h3 (fun _ z4 h4 => pq_pc ?_)))
  have h4' := ks_mI (k := 8) (a := 1) hr h4
  refine o_bt (ko_F_X9_takeBounded h4'.2) h4' (fun r5 z5 h5 => pq_pc ?_)
  have h5' := ks_mI (k := 7) (a := r5.toInt32) hr h5
  exact o_bc (ko_F_X9_next h5'.2) h5' (fun _ z6 h6 => b83 _ _ _ hr h6)
theorem o_varL : ∀ (M : Nat) (l1 l2 l3 l4 : Int32) (w : CSt), ks q u w → pq (LP_X3_variables_18 N M (l1, l2, l3, l4, w)) (fun _ z => ks q u z) := by
  intro M
  induction M with
  | zero => intro l1 l2 l3 l4 w _ r z e; cases e
  | succ M ih =>
    intro l1 l2 l3 l4 w hw
    have b58 : ∀ z, ks q u z → pq (B_X3_variables_58 N z) (fun _ z' => ks q u z') := by
      intro z hz
      unfold B_X3_variables_58
      exact o_bc (ko_F_X9_next hz.2) hz (fun _ z2 h2 => pq_some h2)
    show pq (B_X3_variables_18 N (LP_X3_variables_18 N M) l1 l2 l3 l4 w) (fun _ z' => ks q u z')
    unfold B_X3_variables_18
    refine pq_if (fun _ => b58 _ hw) (fun _ => o_bc (ko_F_X9_is hw.2) hw (fun _ z1 h1 => pq_if (fun _ => b58 _ h1) (fun _ => o_bc (ko_F_X9_next h1.2) h1 (fun _ z2 h2 => ?_))))
    exact pq_bt (pq_m (o_one h2) (fun y z3 h3 => ⟨fun _ _ => h3, fun _ _ => ih l1 l2 l3 (l4 + 1) z3 h3⟩))
theorem o_vars (hw : ks q u w) : pq (F_X3_variables N l1 l2 w) (fun _ z => ks q u z) := by
  unfold F_X3_variables B_X3_variables_0
  exact o_bc (ko_F_X9_takeKind hw.2) hw (fun r z1 h1 => pq_bt (pq_m (o_one h1) (fun y z2 h2 => ⟨fun _ _ => h2, fun _ _ => o_varL N l1 l2 r 0 z2 h2⟩)))
theorem o_placed (hw : ks q u w) : pq (F_X3_placed N l1 w) (fun _ z => ks q u z) := by
  unfold F_X3_placed B_X3_placed_0
  refine o_bc (ko_F_X9_takeKind hw.2) hw (fun r1 z1 h1 => o_nw h1 (fun r z2 h2 hr => pq_ok (fun _ => pq_pc (pq_pc (pq_pc ?_)))))
  have h2' := ks_mI (k := 7) (a := 1) hr (ks_mI (k := 5) (a := r1) hr (ks_mI (k := 6) (a := l1) hr h2))
  refine o_bc (ko_F_X9_next h2'.2) h2' (fun _ z3 h3 => pq_rd (o_bt (ko_F_X9_takeBounded h3.2) h3 (fun r4 z4 h4 => pq_pc ?_)))
  have h4' := ks_mI (k := 9) (a := r4.toInt32) hr h4
  exact o_bc (ko_F_X9_next h4'.2) h4' (fun _ z5 h5 => pq_some h5)
theorem o_useL : ∀ (M : Nat) (l1 : Nat) (l2 l4 : Int32) (w : CSt), ks q u w → pq (LP_X3_oneUse_33 N M (l1, l2, l4, w)) (fun _ z => ks q u z) := by
  intro M
  induction M with
  | zero => intro l1 l2 l4 w _ r z e; cases e
  | succ M ih =>
    intro l1 l2 l4 w hw
    show pq (B_X3_oneUse_33 N (LP_X3_oneUse_33 N M) l1 l2 l4 w) (fun _ z' => ks q u z')
    unfold B_X3_oneUse_33
    exact pq_if (fun _ => pq_some hw) (fun _ => pq_ok (fun _ => o_bc (ko_F_X6_local hw.2 hw.2.1) hw (fun _ z1 h1 => pq_ok (fun _ => o_bt (ko_F_X3_allot h1.2) h1 (fun _ z2 h2 => ih l1 l2 (l4 + 1) z2 h2)))))
theorem o_use1 {l1 : Nat} (hw : ks q u w) : pq (F_X3_oneUse N l1 w) (fun _ z => ks q u z) := by
  unfold F_X3_oneUse B_X3_oneUse_0
  exact o_bc (ko_F_X9_here hw.2) hw (fun _ z1 h1 => o_nw h1 (fun r z2 h2 hr => pq_ok (fun _ => pq_pc (pq_pc (o_useL N _ _ _ _ (ks_mI hr (ks_mI hr h2)))))))
theorem o_usesL : ∀ (M : Nat) (l1 : Nat) (l2 : Int32) (w : CSt), ks q u w → pq (LP_X3_uses_45 N M (l1, l2, w)) (fun _ z => ks q u z) := by
  intro M
  induction M with
  | zero => intro l1 l2 w _ r z e; cases e
  | succ M ih =>
    intro l1 l2 w hw
    have b82 : ∀ z, ks q u z → pq (B_X3_uses_82 N z) (fun _ z' => ks q u z') := by
      intro z hz
      unfold B_X3_uses_82
      exact o_bc (ko_F_X9_next hz.2) hz (fun _ z2 h2 => pq_some h2)
    show pq (B_X3_uses_45 N (LP_X3_uses_45 N M) l1 l2 w) (fun _ z' => ks q u z')
    unfold B_X3_uses_45
    exact pq_if (fun _ => b82 _ hw) (fun _ => o_bc (ko_F_X9_is hw.2) hw (fun _ z1 h1 => pq_if (fun _ => b82 _ h1) (fun _ => o_bc (ko_F_X9_next h1.2) h1 (fun _ z2 h2 => pq_bt (pq_m (o_use1 h2) (fun y z3 h3 => ⟨fun _ _ => h3, fun _ _ => ih l1 (l2 + 1) z3 h3⟩))))))
theorem o_uses (hw : ks q u w) : pq (F_X3_uses N w) (fun _ z => ks q u z) := by
  have b31 : ∀ (m : Nat) z, ks q u z → pq (B_X3_uses_31 N m z) (fun _ z' => ks q u z') := by
    intro m z hz
    unfold B_X3_uses_31
    exact o_bc (ko_F_X9_next hz.2) hz (fun _ z2 h2 => pq_bt (pq_m (o_use1 h2) (fun y z3 h3 => ⟨fun _ _ => h3, fun _ _ => o_usesL N m 0 z3 h3⟩)))
  unfold F_X3_uses B_X3_uses_0
  exact o_bc (ko_F_X8_known hw.2) hw (fun _ z1 h1 => pq_ok (fun _ => pq_if (fun _ => b31 _ _ h1) (fun _ => o_bc (ko_F_X9_here h1.2) h1 (fun _ z2 h2 => o_ref h2))))
theorem o_par (hw : ks q u w) : pq (F_X3_parameter N w) (fun _ z => ks q u z) := by
  have b19 : ∀ z, ks q u z → pq (B_X3_parameter_19 N z) (fun _ z' => ks q u z') := by
    intro z hz
    unfold B_X3_parameter_19
    refine o_bc (ko_F_X9_takeKind hz.2) hz (fun r1 z1 h1 => o_bc (ko_F_X9_here h1.2) h1 (fun _ z2 h2 => o_nw h2 (fun r z3 h3 hr => pq_ok (fun _ => pq_pc (pq_pc ?_)))))
    exact pq_bt (pq_m (o_join hr (ks_mI hr (ks_mI hr h3))) (fun y z2 h2 => ⟨fun _ _ => h2, fun _ _ => pq_some h2⟩))
  unfold F_X3_parameter B_X3_parameter_0
  exact o_bc (ko_F_X9_is hw.2) hw (fun _ z1 h1 => pq_if (fun _ => b19 _ h1) (fun _ => o_bc (ko_F_X9_next h1.2) h1 (fun _ z2 h2 => b19 _ h2)))
theorem o_118 (hm : m / 169 = q) (hw : ks q u w) : pq (B_X3_routine_118 N l1 l2 m w) (fun _ z => ks q u z) := by
  unfold B_X3_routine_118
  have e : ∀ {z : CSt}, ks q u z → ∀ {a : Int32}, ks q u (xpI z (cR z 2) 15 a) := fun {z} h {a} => by rw [h.2.1]; exact ks_pI h
  have h0 := ks_mI (k := 13) (a := pI w (cR w 2) 13) hm hw
  refine pq_ok (fun _ => pq_pc (o_bt (ko_G_X3_statements h0.2) h0 (fun _ z1 h1 => pq_if (fun _ => pq_ok (fun _ => ?_)) (fun _ => pq_ok (fun _ => ?_)))))
  · exact o_bc (ko_F_X6_constant h1.2 h1.2.1) h1 (fun _ z2 h2 => pq_ok (fun _ => o_bc (ko_F_X6_step h2.2 h2.2.1) h2 (fun _ z3 h3 => pq_ok (fun _ => pq_pc (pq_some (e h3))))))
  · exact o_bc (ko_F_X6_step h1.2 h1.2.1) h1 (fun _ z3 h3 => pq_ok (fun _ => pq_pc (pq_some (e h3))))
theorem o_79 (hm : m / 169 = q) : ∀ (M : Nat) (l4 : Int32) (w : CSt), ks q u w → pq (LP_X3_routine_79 N M (l1, l2, m, l4, w)) (fun _ z => ks q u z) := by
  intro M
  induction M with
  | zero => intro l4 w _ r z e; cases e
  | succ M ih =>
    intro l4 w hw
    show pq (B_X3_routine_79 N (LP_X3_routine_79 N M) l1 l2 m l4 w) (fun _ z' => ks q u z')
    unfold B_X3_routine_79
    exact pq_if (fun _ => o_118 hm hw) (fun _ => o_bc (ko_F_X9_is hw.2) hw (fun _ z1 h1 => pq_if (fun _ => o_118 hm h1) (fun _ => o_bc (ko_F_X9_next h1.2) h1 (fun _ z2 h2 => pq_bt (pq_m (o_vars h2) (fun y z3 h3 => ⟨fun _ _ => h3, fun _ _ => ih (l4 + 1) z3 h3⟩))))))
theorem o_62 (hm : m / 169 = q) (hw : ks q u w) : pq (B_X3_routine_62 N l1 l2 m w) (fun _ z => ks q u z) := by
  unfold B_X3_routine_62
  exact o_bc (ko_F_X9_next hw.2) hw (fun _ z1 h1 => o_bc (ko_F_X9_next h1.2) h1 (fun _ z2 h2 => o_79 hm N 0 z2 h2))
theorem o_32 (hm : m / 169 = q) : ∀ (M : Nat) (l4 : Int32) (w : CSt), ks q u w → pq (LP_X3_routine_32 N M (l1, l2, m, l4, w)) (fun _ z => ks q u z) := by
  intro M
  induction M with
  | zero => intro l4 w _ r z e; cases e
  | succ M ih =>
    intro l4 w hw
    show pq (B_X3_routine_32 N (LP_X3_routine_32 N M) l1 l2 m l4 w) (fun _ z' => ks q u z')
    unfold B_X3_routine_32
    exact pq_if (fun _ => o_62 hm hw) (fun _ => o_bc (ko_F_X9_is hw.2) hw (fun _ z1 h1 => pq_if (fun _ => pq_bt (pq_m (o_par h1) (fun y z3 h3 => ⟨fun _ _ => h3, fun _ _ => ih (l4 + 1) z3 h3⟩))) (fun _ => o_62 hm h1)))
theorem o_routine (hw : ks q u w) : pq (F_X3_routine N l1 l2 w) (fun _ z => ks q u z) := by
  unfold F_X3_routine B_X3_routine_0
  refine o_nw hw (fun r z h hr => pq_ok (fun _ => pq_pc (pq_ok (fun _ => pq_pc ?_))))
  have h1 := ks_mI (k := 5) (a := l2) hr h
  have h2 : ks q u (xpI (xmI z r 5 l2) (cR (xmI z r 5 l2) 2) 15 (mI (xmI z r 5 l2) r 3)) := by rw [h1.2.1]; exact ks_pI h1
  exact o_bc (ko_F_X9_next h2.2) h2 (fun _ z5 h5 => o_32 hr N 0 z5 h5)
theorem o_task {l2 l3 l4 : Int32} (hm : m / 8 = q) (hw : ks q u w) : pq (F_X7_become N m l2 l3 l4 w) (fun _ z => ks q u z) := by
  have e : ∀ {z : CSt}, ks q u z → ∀ {k : Nat} {a : Int32}, ks q u (xtI z m k a) := fun {z} h {k a} => ks_tr h (fo_xtI hm ko_rf)
  unfold F_X7_become B_X7_become_0
  exact pq_some (e (e (e (e (e (e (e (e (e (e hw))))))))))
theorem o_cyc (hw : ks q u w) : pq (F_X3_cyclic N w) (fun _ z => ks q u z) := by
  have b94 : ∀ z, ks q u z → pq (B_X3_cyclic_94 N z) (fun _ z' => ks q u z') := by
    intro z hz
    unfold B_X3_cyclic_94
    exact o_bc (ko_F_X9_next hz.2) hz (fun _ z1 h1 => pq_ok (fun _ => o_bt (ko_G_X3_statements h1.2) h1 (fun _ z2 h2 => o_bc (ko_F_X6_step h2.2 h1.2.1) h2 (fun _ z3 h3 => pq_some h3))))
  have b61 : ∀ (m : Nat) (a b : Int32) z, ks q u z → pq (B_X3_cyclic_61 N m a b z) (fun _ z' => ks q u z') := by
    intro m a b z hz
    unfold B_X3_cyclic_61
    refine pq_if (fun _ => b94 _ hz) (fun _ => pq_ok (fun _ => pq_ix (fun hv => ?_)))
    rw [hz.2.1]
    have h := vin_iff.mp hv
    have hn : (mI z m 4).toNatClampNeg = (mI z m 4).toInt.toNat := rfl
    exact pq_bc (pq_m (o_task (m := 8 * q + (mI z m 4).toNatClampNeg) (by rw [hn]; omega) hz) (fun _ z1 h1 => b94 _ h1))
  unfold F_X3_cyclic B_X3_cyclic_0
  refine o_nw hw (fun r z2 h2 hr => pq_ok (fun _ => o_bc (ko_F_X9_next h2.2) h2 (fun _ z3 h3 => o_bt (ko_F_X9_takeBounded h3.2) h3 (fun _ z4 h4 => ?_))))
  exact o_bc (ko_F_X9_is h4.2) h4 (fun _ z5 h5 => pq_if (fun _ => b61 _ _ _ _ h5) (fun _ => o_bc (ko_F_X9_next h5.2) h5 (fun _ z6 h6 => o_bt (ko_F_X9_takeBounded h6.2) h6 (fun _ z7 h7 => b61 _ _ _ _ h7))))
theorem o_makeL : ∀ (M : Nat) (l2 : Int32) (w : CSt), ks q u w → pq (LP_X3_make_57 N M (l2, w)) (fun _ z => ks q u z) := by
  intro M
  induction M with
  | zero => intro l2 w _ r z e; cases e
  | succ M ih =>
    intro l2 w hw
    show pq (B_X3_make_57 N (LP_X3_make_57 N M) l2 w) (fun _ z' => ks q u z')
    unfold B_X3_make_57 B_X3_make_205
    refine pq_if (fun _ => pq_some hw) (fun _ => o_bc (ko_F_X9_is hw.2) hw (fun _ z1 h1 => pq_if (fun _ => ?_) (fun _ => pq_some h1)))
    refine o_bc (ko_F_X9_type h1.2) h1 (fun _ z2 h2 => o_bc (ko_F_X9_next h2.2) h2 (fun _ z3 h3 => ?_))
    have go : ∀ {X : Option (Sum Nat Int32 × CSt)}, pq X (fun _ z => ks q u z) → pq (bt X fun _ u_9 => LP_X3_make_57 N M (l2 + 1, u_9)) (fun _ z => ks q u z) := fun hX => pq_bt (pq_m hX (fun y z h => ⟨fun _ _ => h, fun _ _ => ih (l2 + 1) z h⟩))
    exact pq_if (fun _ => go (o_vars h3)) (fun _ => pq_if (fun _ => go (o_vars h3)) (fun _ => pq_if (fun _ => go (o_placed h3)) (fun _ => pq_if (fun _ => go (o_placed h3)) (fun _ => pq_if (fun _ => go (o_routine h3)) (fun _ => pq_if (fun _ => go (o_uses h3)) (fun _ => pq_if (fun _ => o_bc (ko_F_X9_takeKind h3.2) h3 (fun _ z4 h4 => go (o_routine h4))) (fun _ => go (o_cyc h3))))))))
/-- what making leaves of the other program -/
def ot (q : Nat) (u w : CSt) : Prop := (∀ p, p ≠ q → ∀ k, pI w p k = pI u p k ∧ pA w p k = pA u p k ∧ pB w p k = pB u p k) ∧ (∀ m, m / 169 ≠ q → ∀ k, mI w m k = mI u m k ∧ mL w m k = mL u m k) ∧ (∀ m, m / 8 ≠ q → ∀ k, tI w m k = tI u m k) ∧ (∀ k, k ≠ 2 → k ≠ 3 → cR w k = cR u k)
theorem o_make : pq (F_X3_make N q w) (fun _ z => ot q w z) := by
  unfold F_X3_make B_X3_make_0 F_X6_empty B_X6_empty_0 F_X8_begin B_X8_begin_0 F_X9_rewind B_X9_rewind_0
  refine pq_pc (pq_ok (fun _ => pq_bc (pq_pc (pq_pc (pq_pc (pq_pc (pq_pc (pq_some (pq_bc (pq_pc (pq_pc (pq_some (pq_pc (pq_pc (pq_pc (pq_pc (pq_pc (pq_bc (pq_pc (pq_some ?_))))))))))))))))))))
  have b : ∀ z : CSt, hq2 q z → ot q w z → pq (LP_X3_make_57 N N (0, z)) (fun _ x => ot q w x) := fun z hz ho => pq_m (o_makeL N 0 z (ks_rf hz)) (fun _ x hx => ⟨fun p hp k => ⟨(hx.1.1 p hp k).1.trans (ho.1 p hp k).1, (hx.1.1 p hp k).2.1.trans (ho.1 p hp k).2.1, (hx.1.1 p hp k).2.2.trans (ho.1 p hp k).2.2⟩, fun m hm k => ⟨(hx.1.2.1 m hm k).1.trans (ho.2.1 m hm k).1, (hx.1.2.1 m hm k).2.trans (ho.2.1 m hm k).2⟩, fun m hm k => (hx.1.2.2.1 m hm k).trans (ho.2.2.1 m hm k), fun k h2 h3 => (hx.1.2.2.2 k).trans (ho.2.2.2 k h2 h3)⟩)
  have pi : ∀ (z : CSt) (p t k : Nat) (a : Int32), p ≠ t → ∀ j, pI (xpI z t k a) p j = pI z p j := fun z p t k a h j => by
    show (if p = t then (if j = k then a else pI z p j) else pI z p j) = _
    rw [if_neg h]
  refine b _ ⟨rfl, rfl⟩ ⟨fun p hp k => ⟨?_, ?_, rfl⟩, fun _ _ _ => ⟨rfl, rfl⟩, fun _ _ _ => rfl, fun k h2 h3 => ?_⟩
  · show pI (xpI (xpI (xpI (xpI (xR w 2 q) q 12 0) q 13 0) q 14 0) q 15 (-1)) p k = pI w p k
    rw [pi _ _ _ _ _ hp, pi _ _ _ _ _ hp, pi _ _ _ _ _ hp, pi _ _ _ _ _ hp]
    exact rfl
  · show (if p = q then (if k = 9 then fl _ 0 5 else _) else pA w p k) = pA w p k
    rw [if_neg hp]
  · show (if k = 3 then q else (if k = 2 then q else cR w k)) = cR w k
    rw [if_neg h3, if_neg h2]
end KoH
